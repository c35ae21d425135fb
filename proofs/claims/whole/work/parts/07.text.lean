section TX
variable {p : Program} {l : Launch} {e : Env} {s : State} {m : MethodId} {args : Array Value} {below : List Frame} {meth : Method} {c : Code} {Q : State → Prop} {D : va_G} {A : Nat → Prop} {N : Nm}
/-- the k-th letter of text j, as charAt answers it -/
def chN (j k : Nat) : Int32 := ((((txB.getD j []).getD k 0) &&& 255).toUInt32 % 65536).toInt32
def txN (j : Nat) : Int32 := Int32.ofNat (txL.getD j 0) >>> ((0 : Int32) &&& 31)
theorem chN_ok : ∀ j, j < 2 → ∀ k, k < txL.getD j 0 → narrow .char (.int (chN j k)) = .int (chN j k) := by decide +kernel
def rm_J0_coder_7d493 : Room := { frames := 0, cells := 0, slots := 0, locals := 0 }
set_option maxRecDepth 100000 in
theorem c_J0_coder_7d493 (l : Launch) (D : va_G) (N : Nm) (ws : va_W) {j : Nat} (hj : j < 2) : Meti l yJ0_coder_7d493 (tsU yJ0_coder_7d493 cJ0_coder_7d493 1 (some .byte)) rm_J0_coder_7d493 D N [.ref (N.2.2.2.2.2.2.1 j)] ws 0 ws :=
  met_y (cc := cJ0_coder_7d493) (nL := 1) (own := RJ0) (by decide) rfl (Nat.le_of_ble_eq_true rfl) rfl (fun p e s m args below meth c Q A C hE => by
    show Aw p l e rm_J0_coder_7d493 s m args below meth c Q D A 1 ws 0 [(0, .ref (N.2.2.2.2.2.2.1 j))] []
    refine aw_getCS C lw_12_11 dJ0_coder_7d493_0 ?_
    refine aw_if_eq (tgt := 13) C dJ0_coder_7d493_3 (by decide) (fun q => absurd q (by decide)) (fun _ => ?_)
    refine aw_aload_n C 0 dJ0_coder_7d493_6 rfl ?_
    refine aw_tcoder C hj lw_12_12 dJ0_coder_7d493_7 ?_
    refine aw_goto (tgt := 14) C dJ0_coder_7d493_10 (by decide) ?_
    exact aw_ret hE dJ0_coder_7d493_14)
def rm_J0_isLatin1_aae02 : Room := { frames := 0, cells := 0, slots := 0, locals := 0 }
set_option maxRecDepth 100000 in
theorem c_J0_isLatin1_aae02 (l : Launch) (D : va_G) (N : Nm) (ws : va_W) {j : Nat} (hj : j < 2) : Meti l yJ0_isLatin1_aae02 (tsU yJ0_isLatin1_aae02 cJ0_isLatin1_aae02 1 (some .boolean)) rm_J0_isLatin1_aae02 D N [.ref (N.2.2.2.2.2.2.1 j)] ws 1 ws :=
  met_z (cc := cJ0_isLatin1_aae02) (nL := 1) (own := RJ0) (by decide) rfl (Nat.le_of_ble_eq_true rfl) rfl (fun p e s m args below meth c Q A C hE => by
    show Aw p l e rm_J0_isLatin1_aae02 s m args below meth c Q D A 1 ws 0 [(0, .ref (N.2.2.2.2.2.2.1 j))] []
    refine aw_getCS C lw_12_11 dJ0_isLatin1_aae02_0 ?_
    refine aw_if_eq (tgt := 17) C dJ0_isLatin1_aae02_3 (by decide) (fun q => absurd q (by decide)) (fun _ => ?_)
    refine aw_aload_n C 0 dJ0_isLatin1_aae02_6 rfl ?_
    refine aw_tcoder C hj lw_12_12 dJ0_isLatin1_aae02_7 ?_
    refine aw_if_ne (tgt := 17) C dJ0_isLatin1_aae02_10 (by decide) (fun q => absurd rfl q) (fun _ => ?_)
    refine aw_iconst (v := 1) C dJ0_isLatin1_aae02_13 (by decide) ?_
    refine aw_goto (tgt := 18) C dJ0_isLatin1_aae02_14 (by decide) ?_
    exact aw_ret hE dJ0_isLatin1_aae02_18)
def rm_J0_length_8abf5 : Room := { frames := 1, cells := 0, slots := 0, locals := 20 }
set_option maxRecDepth 100000 in
theorem c_J0_length_8abf5 (l : Launch) (D : va_G) (N : Nm) (ws : va_W) {j : Nat} (hj : j < 2) : Meti l yJ0_length_8abf5 (tsU yJ0_length_8abf5 cJ0_length_8abf5 1 (some .int)) rm_J0_length_8abf5 D N [.ref (N.2.2.2.2.2.2.1 j)] ws (txN j) ws :=
  met_i (cc := cJ0_length_8abf5) (nL := 1) (own := RJ0) (by decide) rfl (Nat.le_of_ble_eq_true rfl) (fun p e s m args below meth c Q A C hE => by
    show Aw p l e rm_J0_length_8abf5 s m args below meth c Q D A 1 ws 0 [(0, .ref (N.2.2.2.2.2.2.1 j))] []
    refine aw_aload_n C 0 dJ0_length_8abf5_0 rfl ?_
    refine aw_tvalue C hj lw_12_6 dJ0_length_8abf5_1 ?_
    refine aw_tlen C hj dJ0_length_8abf5_4 ?_
    refine aw_aload_n C 0 dJ0_length_8abf5_5 rfl ?_
    refine aw_callTi (n := 0) (j := j) (As := []) (rest := [.int (Int32.ofNat (txL.getD j 0))]) C (c_J0_coder_7d493 l D N ws hj) lw_12_7 lw_12_8 lw_12_9 lw_12_4 lw_12_10 rfl rfl (by decide +kernel) ⟨Nat.le_of_ble_eq_true rfl, Nat.le_of_ble_eq_true rfl⟩ hj rfl rfl (Nat.le_of_ble_eq_true rfl) dJ0_length_8abf5_6 ?_
    refine aw_ishr C dJ0_length_8abf5_9 ?_
    exact aw_ret hE dJ0_length_8abf5_10)
def rm_J3_checkIndex_8e157 : Room := { frames := 0, cells := 0, slots := 0, locals := 0 }
set_option maxRecDepth 100000 in
theorem c_J3_checkIndex_8e157_r (l : Launch) (D : va_G) (N : Nm) (ws : va_W) {i n : Int32} (f : Nat) (h0 : ¬ i < 0) (h1 : i < n) : Meti l yJ3_checkIndex_8e157 (tsU yJ3_checkIndex_8e157 cJ3_checkIndex_8e157 3 (some .int)) rm_J3_checkIndex_8e157 D N [.int i, .int n, .ref f] ws i ws :=
  met_i (cc := cJ3_checkIndex_8e157) (nL := 3) (own := RJ3) (by decide) rfl (Nat.le_of_ble_eq_true rfl) (fun p e s m args below meth c Q A C hE => by
    show Aw p l e rm_J3_checkIndex_8e157 s m args below meth c Q D A 3 ws 0 [(0, .int i), (1, .int n), (2, .ref f)] []
    refine aw_iload_n C 0 dJ3_checkIndex_8e157_0 rfl ?_
    refine aw_if_lt (tgt := 9) C dJ3_checkIndex_8e157_1 (by decide) (fun q => absurd q h0) (fun _ => ?_)
    refine aw_iload_n C 0 dJ3_checkIndex_8e157_4 rfl ?_
    refine aw_iload_n C 1 dJ3_checkIndex_8e157_5 rfl ?_
    refine aw_icmp_lt (tgt := 16) C dJ3_checkIndex_8e157_6 (by decide) (fun _ => ?_) (fun q => absurd h1 q)
    refine aw_iload_n C 0 dJ3_checkIndex_8e157_16 rfl ?_
    exact aw_ret hE dJ3_checkIndex_8e157_17)
set_option maxRecDepth 100000 in
theorem c_J3_checkIndex_8e157_n (l : Launch) (D : va_G) (N : Nm) (ws : va_W) {i n : Int32} (h0 : ¬ i < 0) (h1 : i < n) : Meti l yJ3_checkIndex_8e157 (tsU yJ3_checkIndex_8e157 cJ3_checkIndex_8e157 3 (some .int)) rm_J3_checkIndex_8e157 D N [.int i, .int n, .null] ws i ws :=
  met_i (cc := cJ3_checkIndex_8e157) (nL := 3) (own := RJ3) (by decide) rfl (Nat.le_of_ble_eq_true rfl) (fun p e s m args below meth c Q A C hE => by
    show Aw p l e rm_J3_checkIndex_8e157 s m args below meth c Q D A 3 ws 0 [(0, .int i), (1, .int n), (2, .null)] []
    refine aw_iload_n C 0 dJ3_checkIndex_8e157_0 rfl ?_
    refine aw_if_lt (tgt := 9) C dJ3_checkIndex_8e157_1 (by decide) (fun q => absurd q h0) (fun _ => ?_)
    refine aw_iload_n C 0 dJ3_checkIndex_8e157_4 rfl ?_
    refine aw_iload_n C 1 dJ3_checkIndex_8e157_5 rfl ?_
    refine aw_icmp_lt (tgt := 16) C dJ3_checkIndex_8e157_6 (by decide) (fun _ => ?_) (fun q => absurd h1 q)
    refine aw_iload_n C 0 dJ3_checkIndex_8e157_16 rfl ?_
    exact aw_ret hE dJ3_checkIndex_8e157_17)
theorem c_J3_checkIndex_8e157 (l : Launch) (D : va_G) (N : Nm) (ws : va_W) {i n : Int32} (f : Value) (hf : f = .null ∨ ∃ a : Nat, f = .ref a) (h0 : ¬ i < 0) (h1 : i < n) : Meti l yJ3_checkIndex_8e157 (tsU yJ3_checkIndex_8e157 cJ3_checkIndex_8e157 3 (some .int)) rm_J3_checkIndex_8e157 D N [.int i, .int n, f] ws i ws := by
  rcases hf with rfl | ⟨a, rfl⟩
  · exact c_J3_checkIndex_8e157_n l D N ws h0 h1
  · exact c_J3_checkIndex_8e157_r l D N ws a h0 h1
def rm_J0_checkIndex_df160 : Room := { frames := 1, cells := 0, slots := 0, locals := 22 }
set_option maxRecDepth 100000 in
theorem c_J0_checkIndex_df160 (l : Launch) (D : va_G) (N : Nm) (ws : va_W) {i n : Int32} (h0 : ¬ i < 0) (h1 : i < n) : Metv l yJ0_checkIndex_df160 (tsU yJ0_checkIndex_df160 cJ0_checkIndex_df160 2 none) rm_J0_checkIndex_df160 D N [.int i, .int n] ws ws :=
  met_v (cc := cJ0_checkIndex_df160) (nL := 2) (own := RJ0) (by decide) rfl (Nat.le_of_ble_eq_true rfl) (fun p e s m args below meth c Q A C hE => by
    show Aw p l e rm_J0_checkIndex_df160 s m args below meth c Q D A 2 ws 0 [(0, .int i), (1, .int n)] []
    refine aw_iload_n C 0 dJ0_checkIndex_df160_0 rfl ?_
    refine aw_iload_n C 1 dJ0_checkIndex_df160_1 rfl ?_
    refine aw_getSF C lw_13_4 dJ0_checkIndex_df160_2 (fun f hf => ?_)
    refine aw_callSi (n := 3) (As := [.int i, .int n, f]) (rest := []) C (c_J3_checkIndex_8e157 l D N ws f hf h0 h1) lw_13_5 lw_13_6 lw_13_7 lw_13_8 rfl rfl (by decide +kernel) ⟨Nat.le_of_ble_eq_true rfl, Nat.le_of_ble_eq_true rfl⟩ rfl rfl (Nat.le_of_ble_eq_true rfl) dJ0_checkIndex_df160_5 ?_
    refine aw_pop C dJ0_checkIndex_df160_8 rfl ?_
    exact aw_ret hE dJ0_checkIndex_df160_9)
def rm_J1_charAt_3b067 : Room := { frames := 2, cells := 0, slots := 0, locals := 43 }
theorem tx_lt {j : Nat} (hj : j < 2) {i : Int32} (h : vp_in i (txL.getD j 0)) : ¬ i < 0 ∧ i < Int32.ofNat (txL.getD j 0) := by
  have hL : txL.getD j 0 < 2 ^ 31 := (by decide : ∀ j, j < 2 → txL.getD j 0 < 2 ^ 31) j hj
  refine ⟨fun q => h (Or.inl q), ?_⟩
  have h0 : ¬ i < 0 := fun q => h (Or.inl q)
  have h2 : i.toNatClampNeg < txL.getD j 0 := Nat.not_le.mp fun q => h (Or.inr q)
  rw [Int32.lt_iff_toInt_lt, Int32.toInt_ofNat_of_lt hL]
  have h3 : (0 : Int) ≤ i.toInt := by
    have := Int32.not_lt.mp h0
    rw [Int32.le_iff_toInt_le] at this
    exact this
  have h4 : (i.toNatClampNeg : Int) = i.toInt := Int.toNat_of_nonneg h3
  omega
set_option maxRecDepth 100000 in
theorem c_J1_charAt_3b067 (l : Launch) (D : va_G) (N : Nm) (ws : va_W) {j : Nat} (hj : j < 2) {i : Int32} (h : vp_in i (txL.getD j 0)) : Meti l yJ1_charAt_3b067 (tsU yJ1_charAt_3b067 cJ1_charAt_3b067 2 (some .char)) rm_J1_charAt_3b067 D N [.ref (N.2.2.2.2.2.2.2 j), .int i] ws (chN j i.toNatClampNeg) ws :=
  met_c (cc := cJ1_charAt_3b067) (nL := 2) (own := RJ1) (by decide) rfl (Nat.le_of_ble_eq_true rfl) (chN_ok j hj _ (Nat.not_le.mp fun q => h (Or.inr q))) (fun p e s m args below meth c Q A C hE => by
    show Aw p l e rm_J1_charAt_3b067 s m args below meth c Q D A 2 ws 0 [(0, .ref (N.2.2.2.2.2.2.2 j)), (1, .int i)] []
    refine aw_iload_n C 1 dJ1_charAt_3b067_0 rfl ?_
    refine aw_aload_n C 0 dJ1_charAt_3b067_1 rfl ?_
    refine aw_tlen C hj dJ1_charAt_3b067_2 ?_
    refine aw_callSv (n := 2) (As := [.int i, .int (Int32.ofNat (txL.getD j 0))]) (rest := []) C (c_J0_checkIndex_df160 l D N ws (tx_lt hj h).1 (tx_lt hj h).2) lw_13_1 lw_13_2 lw_12_4 lw_13_3 rfl rfl (by decide +kernel) ⟨Nat.le_of_ble_eq_true rfl, Nat.le_of_ble_eq_true rfl⟩ rfl rfl (Nat.le_of_ble_eq_true rfl) dJ1_charAt_3b067_3 ?_
    refine aw_aload_n C 0 dJ1_charAt_3b067_6 rfl ?_
    refine aw_iload_n C 1 dJ1_charAt_3b067_7 rfl ?_
    refine aw_tbyte C hj h dJ1_charAt_3b067_8 ?_
    refine aw_sipush (v := 255) C dJ1_charAt_3b067_9 (by decide) ?_
    refine aw_iand C dJ1_charAt_3b067_12 ?_
    refine aw_i2c C dJ1_charAt_3b067_13 ?_
    exact aw_ret hE dJ1_charAt_3b067_14)
def rm_J0_charAt_5068e : Room := { frames := 3, cells := 0, slots := 0, locals := 64 }
set_option maxRecDepth 100000 in
theorem c_J0_charAt_5068e (l : Launch) (D : va_G) (N : Nm) (ws : va_W) {j : Nat} (hj : j < 2) {i : Int32} (h : vp_in i (txL.getD j 0)) : Meti l yJ0_charAt_5068e (tsU yJ0_charAt_5068e cJ0_charAt_5068e 2 (some .char)) rm_J0_charAt_5068e D N [.ref (N.2.2.2.2.2.2.1 j), .int i] ws (chN j i.toNatClampNeg) ws :=
  met_c (cc := cJ0_charAt_5068e) (nL := 2) (own := RJ0) (by decide) rfl (Nat.le_of_ble_eq_true rfl) (chN_ok j hj _ (Nat.not_le.mp fun q => h (Or.inr q))) (fun p e s m args below meth c Q A C hE => by
    show Aw p l e rm_J0_charAt_5068e s m args below meth c Q D A 2 ws 0 [(0, .ref (N.2.2.2.2.2.2.1 j)), (1, .int i)] []
    refine aw_aload_n C 0 dJ0_charAt_5068e_0 rfl ?_
    refine aw_callTi (n := 0) (j := j) (As := []) (rest := []) C (c_J0_isLatin1_aae02 l D N ws hj) lw_12_17 lw_12_18 lw_12_19 lw_12_4 lw_12_20 rfl rfl (by decide +kernel) ⟨Nat.le_of_ble_eq_true rfl, Nat.le_of_ble_eq_true rfl⟩ hj rfl rfl (Nat.le_of_ble_eq_true rfl) dJ0_charAt_5068e_1 ?_
    refine aw_if_eq (tgt := 16) C dJ0_charAt_5068e_4 (by decide) (fun q => absurd q (by decide)) (fun _ => ?_)
    refine aw_aload_n C 0 dJ0_charAt_5068e_7 rfl ?_
    refine aw_tvalue C hj lw_12_6 dJ0_charAt_5068e_8 ?_
    refine aw_iload_n C 1 dJ0_charAt_5068e_11 rfl ?_
    refine aw_callSi (n := 2) (As := [.ref (N.2.2.2.2.2.2.2 j), .int i]) (rest := []) C (c_J1_charAt_3b067 l D N ws hj h) lw_12_21 lw_12_22 lw_12_23 lw_13_0 rfl rfl (by decide +kernel) ⟨Nat.le_of_ble_eq_true rfl, Nat.le_of_ble_eq_true rfl⟩ rfl rfl (Nat.le_of_ble_eq_true rfl) dJ0_charAt_5068e_12 ?_
    exact aw_ret hE dJ0_charAt_5068e_15)
end TX
