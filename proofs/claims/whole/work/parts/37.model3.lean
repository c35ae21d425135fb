section WK
variable {p : Program} {l : Launch} {e : Env} {s : State} {m : MethodId} {args : Array Value} {below : List Frame} {meth : Method} {c : Code} {Q : State → Prop} {D : va_G} {A : Nat → Prop} {N : Nm}
/-! AwardLineModel.sideOf(II)I -/
def rm_X12_sideOf : Room := { frames := 0, cells := 0, slots := 0, locals := 0 }
def F_X12_sideOf_0 (s0 : St) (x0 : Int32) (x1 : Int32) : Option (Int32 × St) :=
  some ((1 : Int32) - ((x0 >>> (x1 &&& 31)) &&& (1 : Int32)), s0)
set_option maxHeartbeats 4000000 in
set_option maxRecDepth 100000 in
theorem T_X12_sideOf_0 {r : Int32} {z1 : St} (C : Cx p rm_X12_sideOf s m args c D A cX12_sideOf 2 RX12 rm_X12_sideOf N) (hE : En p l e rm_X12_sideOf s m args below meth c Q D A cX12_sideOf .ireturn (wR N z1) [.int r])  (s0 : St) (x0 : Int32) (x1 : Int32) (h : F_X12_sideOf_0 s0 x0 x1 = some (r, z1)) : Aw p l e rm_X12_sideOf s m args below meth c Q D A 2 (wR N s0) 0 [(0, .int x0), (1, .int x1)] [] := by
  unfold F_X12_sideOf_0 at h
  refine aw_iconst (v := 1) C dX12_sideOf_0 (by decide) ?_
  refine aw_iload_n C 0 dX12_sideOf_1 rfl ?_
  refine aw_iload_n C 1 dX12_sideOf_2 rfl ?_
  refine aw_ishr C dX12_sideOf_3 ?_
  refine aw_iconst (v := 1) C dX12_sideOf_4 (by decide) ?_
  refine aw_iand C dX12_sideOf_5 ?_
  refine aw_isub C dX12_sideOf_6 ?_
  cases h
  exact aw_ret hE dX12_sideOf_7
def f_X12_sideOf (s0 : St) (x0 : Int32) (x1 : Int32) : Option (Int32 × St) := F_X12_sideOf_0 s0 x0 x1
theorem c_X12_sideOf (l : Launch) (D : va_G) (N : Nm) (s0 z1 : St) (x0 : Int32) (x1 : Int32) (r : Int32) (h : f_X12_sideOf s0 x0 x1 = some (r, z1)) : Meti l yX12_sideOf (tsU yX12_sideOf cX12_sideOf 2 (some .int)) rm_X12_sideOf D N [.int x0, .int x1] (wR N s0) r (wR N z1) :=
  met_i (cc := cX12_sideOf) (nL := 2) (own := RX12) (by decide) rfl (Nat.le_of_ble_eq_true rfl) (fun p e s m args below meth c Q A C hE => aw_sub [0, 1] rfl (T_X12_sideOf_0 C hE s0 x0 x1 h))
/-! AwardLineModel.areBeside(II)Z -/
def rm_X12_areBeside : Room := { frames := 1, cells := 0, slots := 0, locals := 14 }
def F_X12_areBeside_42 (s0 : St) (t0 : Int32) : Option (Int32 × St) :=
  some (t0, s0)
set_option maxHeartbeats 4000000 in
set_option maxRecDepth 100000 in
theorem T_X12_areBeside_42 {r : Int32} {z1 : St} (C : Cx p rm_X12_areBeside s m args c D A cX12_areBeside 3 RX12 rm_X12_areBeside N) (hE : En p l e rm_X12_areBeside s m args below meth c Q D A cX12_areBeside .ireturn (wR N z1) [.int r])  (s0 : St) (t0 : Int32) (h : F_X12_areBeside_42 s0 t0 = some (r, z1)) : Aw p l e rm_X12_areBeside s m args below meth c Q D A 3 (wR N s0) 42 [] [.int t0] := by
  unfold F_X12_areBeside_42 at h
  cases h
  exact aw_ret hE dX12_areBeside_42
def F_X12_areBeside_0 (s0 : St) (x1 : Int32) (x2 : Int32) : Option (Int32 × St) :=
  oD (s0.1 22) <|
  oD (s0.1 22) <|
  oD (s0.1 22) <|
  oD (s0.1 22) <|
  if (jabsi ((x1 - x1 / (s0.1 22) * (s0.1 22)) - (x2 - x2 / (s0.1 22) * (s0.1 22)))) + (jabsi ((x1 / (s0.1 22)) - (x2 / (s0.1 22)))) = (1 : Int32) then (
    F_X12_areBeside_42 s0 (1 : Int32))
  else (
    F_X12_areBeside_42 s0 (0 : Int32))
set_option maxHeartbeats 4000000 in
set_option maxRecDepth 100000 in
theorem T_X12_areBeside_0 {r : Int32} {z1 : St} (C : Cx p rm_X12_areBeside s m args c D A cX12_areBeside 3 RX12 rm_X12_areBeside N) (hE : En p l e rm_X12_areBeside s m args below meth c Q D A cX12_areBeside .ireturn (wR N z1) [.int r])  (s0 : St) (x1 : Int32) (x2 : Int32) (h : F_X12_areBeside_0 s0 x1 x2 = some (r, z1)) : Aw p l e rm_X12_areBeside s m args below meth c Q D A 3 (wR N s0) 0 [(0, .ref (N.1 0)), (1, .int x1), (2, .int x2)] [] := by
  unfold F_X12_areBeside_0 at h
  refine aw_iload_n C 1 dX12_areBeside_0 rfl ?_
  refine aw_aload_n C 0 dX12_areBeside_1 rfl ?_
  refine rg_md_wide C lw_9_11 dX12_areBeside_2 ?_
  obtain ⟨q1, h⟩ := oD_e h
  refine aw_irem C dX12_areBeside_5 q1 ?_
  refine aw_iload_n C 2 dX12_areBeside_6 rfl ?_
  refine aw_aload_n C 0 dX12_areBeside_7 rfl ?_
  refine rg_md_wide C lw_9_11 dX12_areBeside_8 ?_
  obtain ⟨q2, h⟩ := oD_e h
  refine aw_irem C dX12_areBeside_11 q2 ?_
  refine aw_isub C dX12_areBeside_12 ?_
  refine aw_mabs C lw_51_13 lw_51_14 (by decide +kernel) lw_51_15 (Nat.le_of_ble_eq_true rfl) (Nat.le_of_ble_eq_true rfl) dX12_areBeside_13 ?_
  refine aw_iload_n C 1 dX12_areBeside_16 rfl ?_
  refine aw_aload_n C 0 dX12_areBeside_17 rfl ?_
  refine rg_md_wide C lw_9_11 dX12_areBeside_18 ?_
  obtain ⟨q3, h⟩ := oD_e h
  refine aw_idiv C dX12_areBeside_21 q3 ?_
  refine aw_iload_n C 2 dX12_areBeside_22 rfl ?_
  refine aw_aload_n C 0 dX12_areBeside_23 rfl ?_
  refine rg_md_wide C lw_9_11 dX12_areBeside_24 ?_
  obtain ⟨q4, h⟩ := oD_e h
  refine aw_idiv C dX12_areBeside_27 q4 ?_
  refine aw_isub C dX12_areBeside_28 ?_
  refine aw_mabs C lw_51_13 lw_51_14 (by decide +kernel) lw_51_15 (Nat.le_of_ble_eq_true rfl) (Nat.le_of_ble_eq_true rfl) dX12_areBeside_29 ?_
  refine aw_iadd C dX12_areBeside_32 ?_
  refine aw_iconst (v := 1) C dX12_areBeside_33 (by decide) ?_
  refine aw_icmp_ne (tgt := 41) C dX12_areBeside_34 (by decide) (fun q => ?_) (fun q => ?_)
  · have h := bq_f q h
    refine aw_iconst (v := 0) C dX12_areBeside_41 (by decide) ?_
    refine aw_sub (lv' := []) [] rfl ?_
    exact T_X12_areBeside_42 C hE s0 (0 : Int32) h
  · have h := bq_t q h
    refine aw_iconst (v := 1) C dX12_areBeside_37 (by decide) ?_
    refine aw_goto (tgt := 42) C dX12_areBeside_38 (by decide) ?_
    refine aw_sub (lv' := []) [] rfl ?_
    exact T_X12_areBeside_42 C hE s0 (1 : Int32) h
def f_X12_areBeside (s0 : St) (x1 : Int32) (x2 : Int32) : Option (Int32 × St) := oC (F_X12_areBeside_0 s0 x1 x2) fun w => oZ w.1 (some w)
theorem c_X12_areBeside (l : Launch) (D : va_G) (N : Nm) (s0 z1 : St) (x1 : Int32) (x2 : Int32) (r : Int32) (h : f_X12_areBeside s0 x1 x2 = some (r, z1)) : Meti l yX12_areBeside (tsU yX12_areBeside cX12_areBeside 3 (some .boolean)) rm_X12_areBeside D N [.ref (N.1 0), .int x1, .int x2] (wR N s0) r (wR N z1) := by
  obtain ⟨w, h1, h2⟩ := oC_e h
  obtain ⟨hz, h2⟩ := oZ_e h2
  cases h2
  exact met_z (cc := cX12_areBeside) (nL := 3) (own := RX12) (by decide) rfl (Nat.le_of_ble_eq_true rfl) (zN hz) (fun p e s m args below meth c Q A C hE => aw_sub [0, 1, 2] rfl (T_X12_areBeside_0 C hE s0 x1 x2 h1))
/-! AwardLineModel.wrongOnes(I)I -/
def rm_X12_wrongOnes : Room := { frames := 1, cells := 0, slots := 0, locals := 21 }
def F_X12_wrongOnes_4_b (k4 : St → Int32 → Int32 → Int32 → Option (Int32 × St)) (s0 : St) (x1 : Int32) (x2 : Int32) (x3 : Int32) : Option (Int32 × St) :=
  oC (f_X12_cells s0) fun w3 =>
  oL w3.1 fun v1 => oL w3.2 fun s2 =>
  if v1 ≤ x3 then (
    some (x2, s2))
  else (
    oC (f_X12_sideOf s2 x1 x3) fun w6 =>
    oL w6.1 fun v4 => oL w6.2 fun s5 =>
    oA ((((2 : Int32) * x3) + (1 : Int32)) - v4) 50 <|
    oL (x2 + (s5.2.1 24 (Int32.toNatClampNeg ((((2 : Int32) * x3) + (1 : Int32)) - v4)))) fun y8 =>
    oL (x3 + (1 : Int32)) fun y9 =>
    k4 s5 x1 y8 y9)
set_option maxHeartbeats 4000000 in
set_option maxRecDepth 100000 in
theorem T_X12_wrongOnes_4_b {r : Int32} {z1 : St} {k4 : St → Int32 → Int32 → Int32 → Option (Int32 × St)} (C : Cx p rm_X12_wrongOnes s m args c D A cX12_wrongOnes 4 RX12 rm_X12_wrongOnes N) (hE : En p l e rm_X12_wrongOnes s m args below meth c Q D A cX12_wrongOnes .ireturn (wR N z1) [.int r]) (hk4 : ∀ (s0 : St) (x1 : Int32) (x2 : Int32) (x3 : Int32), k4 s0 x1 x2 x3 = some (r, z1) → Aw p l e rm_X12_wrongOnes s m args below meth c Q D A 4 (wR N s0) 4 [(0, .ref (N.1 0)), (1, .int x1), (2, .int x2), (3, .int x3)] []) (s0 : St) (x1 : Int32) (x2 : Int32) (x3 : Int32) (h : F_X12_wrongOnes_4_b k4 s0 x1 x2 x3 = some (r, z1)) : Aw p l e rm_X12_wrongOnes s m args below meth c Q D A 4 (wR N s0) 4 [(0, .ref (N.1 0)), (1, .int x1), (2, .int x2), (3, .int x3)] [] := by
  unfold F_X12_wrongOnes_4_b at h
  refine aw_iload_n C 3 dX12_wrongOnes_4 rfl ?_
  refine aw_aload_n C 0 dX12_wrongOnes_5 rfl ?_
  obtain ⟨⟨v1, s2⟩, cw3, h⟩ := oC_e h
  have h := oL_e (x := s2) rfl (oL_e (x := v1) rfl h)
  refine aw_callVi (n := 0) (As := []) (rest := [.int x3]) (q0 := 0) C (c_X12_cells l D N s0 s2 v1 cw3) lw_23_23 lw_24_0 lw_24_1 lw_1_5 lw_24_2 rfl rfl (by decide +kernel) ⟨Nat.le_of_ble_eq_true rfl, Nat.le_of_ble_eq_true rfl⟩ rfl rfl rfl rfl rfl (Nat.le_of_ble_eq_true rfl) dX12_wrongOnes_6 ?_
  refine aw_icmp_ge (tgt := 37) C dX12_wrongOnes_9 (by decide) (fun q => ?_) (fun q => ?_)
  · have h := bq_t q h
    refine aw_iload_n C 2 dX12_wrongOnes_37 rfl ?_
    cases h
    exact aw_ret hE dX12_wrongOnes_38
  · have h := bq_f q h
    refine aw_iload_n C 2 dX12_wrongOnes_12 rfl ?_
    refine aw_aload_n C 0 dX12_wrongOnes_13 rfl ?_
    refine rg_md_people C lw_9_1 dX12_wrongOnes_14 ?_
    refine aw_iconst (v := 2) C dX12_wrongOnes_17 (by decide) ?_
    refine aw_iload_n C 3 dX12_wrongOnes_18 rfl ?_
    refine aw_imul C dX12_wrongOnes_19 ?_
    refine aw_iconst (v := 1) C dX12_wrongOnes_20 (by decide) ?_
    refine aw_iadd C dX12_wrongOnes_21 ?_
    refine aw_iload_n C 1 dX12_wrongOnes_22 rfl ?_
    refine aw_iload_n C 3 dX12_wrongOnes_23 rfl ?_
    obtain ⟨⟨v4, s5⟩, cw6, h⟩ := oC_e h
    have h := oL_e (x := s5) rfl (oL_e (x := v4) rfl h)
    refine aw_callSi (n := 2) (As := [.int x1, .int x3]) (rest := [.int (((2 : Int32) * x3) + (1 : Int32)), .ref (N.2.1 24), .int x2]) C (c_X12_sideOf l D N s2 s5 x1 x3 v4 cw6) lw_40_7 lw_40_8 lw_1_5 lw_40_9 rfl rfl (by decide +kernel) ⟨Nat.le_of_ble_eq_true rfl, Nat.le_of_ble_eq_true rfl⟩ rfl rfl (Nat.le_of_ble_eq_true rfl) dX12_wrongOnes_24 ?_
    refine aw_isub C dX12_wrongOnes_27 ?_
    obtain ⟨q7, h⟩ := oA_e h
    refine ra_iald (k := 24) C (by decide) rfl q7 dX12_wrongOnes_28 ?_
    refine aw_iadd C dX12_wrongOnes_29 ?_
    refine aw_topi (fun y8 ey8 => ?_)
    have h := oL_e ey8 h
    refine aw_istore_n (lv' := [(0, .ref (N.1 0)), (1, .int x1), (2, .int y8), (3, .int x3)]) C [1, 2, 0, 3] dX12_wrongOnes_30 rfl (by decide) rfl ?_
    obtain ⟨y9, ey9⟩ : ∃ q : Int32, q = x3 + (1 : Int32) := ⟨_, rfl⟩
    have h := oL_e ey9 h
    refine aw_iinc (v := y9) (k := 3) (lv' := [(0, .ref (N.1 0)), (1, .int x1), (2, .int y8), (3, .int y9)]) C [1, 2, 3, 0] dX12_wrongOnes_31 rfl (by rw [ey9]; rfl) (by decide) rfl ?_
    refine aw_goto (tgt := 4) C dX12_wrongOnes_34 (by decide) ?_
    refine aw_sub (lv' := [(0, .ref (N.1 0)), (1, .int x1), (2, .int y8), (3, .int y9)]) [0, 1, 2, 3] rfl ?_
    exact hk4 s5 x1 y8 y9 h
def F_X12_wrongOnes_4 : Nat → St → Int32 → Int32 → Int32 → Option (Int32 × St)
  | 0 => fun _ _ _ _ => none
  | n + 1 => F_X12_wrongOnes_4_b (F_X12_wrongOnes_4 n)
theorem T_X12_wrongOnes_4 {r : Int32} {z1 : St} (C : Cx p rm_X12_wrongOnes s m args c D A cX12_wrongOnes 4 RX12 rm_X12_wrongOnes N) (hE : En p l e rm_X12_wrongOnes s m args below meth c Q D A cX12_wrongOnes .ireturn (wR N z1) [.int r])  : ∀ (n : Nat) (s0 : St) (x1 : Int32) (x2 : Int32) (x3 : Int32), F_X12_wrongOnes_4 n s0 x1 x2 x3 = some (r, z1) → Aw p l e rm_X12_wrongOnes s m args below meth c Q D A 4 (wR N s0) 4 [(0, .ref (N.1 0)), (1, .int x1), (2, .int x2), (3, .int x3)] [] := by
  intro n
  induction n with
  | zero => intro s0 x1 x2 x3 h; cases h
  | succ n ih => intro s0 x1 x2 x3 h; exact T_X12_wrongOnes_4_b C hE ih s0 x1 x2 x3 h
def F_X12_wrongOnes_0 (s0 : St) (x1 : Int32) : Option (Int32 × St) :=
  oL (0 : Int32) fun y1 =>
  oL (0 : Int32) fun y2 =>
  F_X12_wrongOnes_4 100000 s0 x1 y1 y2
set_option maxHeartbeats 4000000 in
set_option maxRecDepth 100000 in
theorem T_X12_wrongOnes_0 {r : Int32} {z1 : St} (C : Cx p rm_X12_wrongOnes s m args c D A cX12_wrongOnes 4 RX12 rm_X12_wrongOnes N) (hE : En p l e rm_X12_wrongOnes s m args below meth c Q D A cX12_wrongOnes .ireturn (wR N z1) [.int r])  (s0 : St) (x1 : Int32) (h : F_X12_wrongOnes_0 s0 x1 = some (r, z1)) : Aw p l e rm_X12_wrongOnes s m args below meth c Q D A 4 (wR N s0) 0 [(0, .ref (N.1 0)), (1, .int x1)] [] := by
  unfold F_X12_wrongOnes_0 at h
  refine aw_iconst (v := 0) C dX12_wrongOnes_0 (by decide) ?_
  refine aw_topi (fun y1 ey1 => ?_)
  have h := oL_e ey1 h
  refine aw_istore_n (lv' := [(0, .ref (N.1 0)), (1, .int x1), (2, .int y1)]) C [1, 2, 0] dX12_wrongOnes_1 rfl (by decide) rfl ?_
  refine aw_iconst (v := 0) C dX12_wrongOnes_2 (by decide) ?_
  refine aw_topi (fun y2 ey2 => ?_)
  have h := oL_e ey2 h
  refine aw_istore_n (lv' := [(0, .ref (N.1 0)), (1, .int x1), (2, .int y1), (3, .int y2)]) C [1, 2, 3, 0] dX12_wrongOnes_3 rfl (by decide) rfl ?_
  refine aw_sub (lv' := [(0, .ref (N.1 0)), (1, .int x1), (2, .int y1), (3, .int y2)]) [0, 1, 2, 3] rfl ?_
  exact T_X12_wrongOnes_4 C hE 100000 s0 x1 y1 y2 h
def f_X12_wrongOnes (s0 : St) (x1 : Int32) : Option (Int32 × St) := F_X12_wrongOnes_0 s0 x1
theorem c_X12_wrongOnes (l : Launch) (D : va_G) (N : Nm) (s0 z1 : St) (x1 : Int32) (r : Int32) (h : f_X12_wrongOnes s0 x1 = some (r, z1)) : Meti l yX12_wrongOnes (tsU yX12_wrongOnes cX12_wrongOnes 4 (some .int)) rm_X12_wrongOnes D N [.ref (N.1 0), .int x1] (wR N s0) r (wR N z1) :=
  met_i (cc := cX12_wrongOnes) (nL := 4) (own := RX12) (by decide) rfl (Nat.le_of_ble_eq_true rfl) (fun p e s m args below meth c Q A C hE => aw_sub [0, 1] rfl (T_X12_wrongOnes_0 C hE s0 x1 h))
/-! AwardLineModel.around(I)I -/
def rm_X12_around : Room := { frames := 1, cells := 0, slots := 0, locals := 20 }
def F_X12_around_106 (k4 : St → Int32 → Int32 → Int32 → Option (Int32 × St)) (s0 : St) (x1 : Int32) (x2 : Int32) (x3 : Int32) : Option (Int32 × St) :=
  oL (x3 + (1 : Int32)) fun y1 =>
  k4 s0 x1 x2 y1
set_option maxHeartbeats 4000000 in
set_option maxRecDepth 100000 in
theorem T_X12_around_106 {r : Int32} {z1 : St} {k4 : St → Int32 → Int32 → Int32 → Option (Int32 × St)} (C : Cx p rm_X12_around s m args c D A cX12_around 4 RX12 rm_X12_around N) (hE : En p l e rm_X12_around s m args below meth c Q D A cX12_around .ireturn (wR N z1) [.int r]) (hk4 : ∀ (s0 : St) (x1 : Int32) (x2 : Int32) (x3 : Int32), k4 s0 x1 x2 x3 = some (r, z1) → Aw p l e rm_X12_around s m args below meth c Q D A 4 (wR N s0) 4 [(0, .ref (N.1 0)), (1, .int x1), (2, .int x2), (3, .int x3)] []) (s0 : St) (x1 : Int32) (x2 : Int32) (x3 : Int32) (h : F_X12_around_106 k4 s0 x1 x2 x3 = some (r, z1)) : Aw p l e rm_X12_around s m args below meth c Q D A 4 (wR N s0) 106 [(0, .ref (N.1 0)), (1, .int x1), (2, .int x2), (3, .int x3)] [] := by
  unfold F_X12_around_106 at h
  obtain ⟨y1, ey1⟩ : ∃ q : Int32, q = x3 + (1 : Int32) := ⟨_, rfl⟩
  have h := oL_e ey1 h
  refine aw_iinc (v := y1) (k := 3) (lv' := [(0, .ref (N.1 0)), (1, .int x1), (2, .int x2), (3, .int y1)]) C [1, 2, 3, 0] dX12_around_106 rfl (by rw [ey1]; rfl) (by decide) rfl ?_
  refine aw_goto (tgt := 4) C dX12_around_109 (by decide) ?_
  refine aw_sub (lv' := [(0, .ref (N.1 0)), (1, .int x1), (2, .int x2), (3, .int y1)]) [0, 1, 2, 3] rfl ?_
  exact hk4 s0 x1 x2 y1 h
def F_X12_around_82 (k4 : St → Int32 → Int32 → Int32 → Option (Int32 × St)) (s0 : St) (x1 : Int32) (x2 : Int32) (x3 : Int32) : Option (Int32 × St) :=
  oC (f_X12_cells s0) fun w3 =>
  oL w3.1 fun v1 => oL w3.2 fun s2 =>
  if v1 - (s2.1 22) ≤ x3 then (
    F_X12_around_106 k4 s2 x1 x2 x3)
  else (
    oL (x2 ||| ((1 : Int32) <<< ((x3 + (s2.1 22)) &&& 31))) fun y4 =>
    F_X12_around_106 k4 s2 x1 y4 x3)
set_option maxHeartbeats 4000000 in
set_option maxRecDepth 100000 in
theorem T_X12_around_82 {r : Int32} {z1 : St} {k4 : St → Int32 → Int32 → Int32 → Option (Int32 × St)} (C : Cx p rm_X12_around s m args c D A cX12_around 4 RX12 rm_X12_around N) (hE : En p l e rm_X12_around s m args below meth c Q D A cX12_around .ireturn (wR N z1) [.int r]) (hk4 : ∀ (s0 : St) (x1 : Int32) (x2 : Int32) (x3 : Int32), k4 s0 x1 x2 x3 = some (r, z1) → Aw p l e rm_X12_around s m args below meth c Q D A 4 (wR N s0) 4 [(0, .ref (N.1 0)), (1, .int x1), (2, .int x2), (3, .int x3)] []) (s0 : St) (x1 : Int32) (x2 : Int32) (x3 : Int32) (h : F_X12_around_82 k4 s0 x1 x2 x3 = some (r, z1)) : Aw p l e rm_X12_around s m args below meth c Q D A 4 (wR N s0) 82 [(0, .ref (N.1 0)), (1, .int x1), (2, .int x2), (3, .int x3)] [] := by
  unfold F_X12_around_82 at h
  refine aw_iload_n C 3 dX12_around_82 rfl ?_
  refine aw_aload_n C 0 dX12_around_83 rfl ?_
  obtain ⟨⟨v1, s2⟩, cw3, h⟩ := oC_e h
  have h := oL_e (x := s2) rfl (oL_e (x := v1) rfl h)
  refine aw_callVi (n := 0) (As := []) (rest := [.int x3]) (q0 := 0) C (c_X12_cells l D N s0 s2 v1 cw3) lw_23_23 lw_24_0 lw_24_1 lw_1_5 lw_24_2 rfl rfl (by decide +kernel) ⟨Nat.le_of_ble_eq_true rfl, Nat.le_of_ble_eq_true rfl⟩ rfl rfl rfl rfl rfl (Nat.le_of_ble_eq_true rfl) dX12_around_84 ?_
  refine aw_aload_n C 0 dX12_around_87 rfl ?_
  refine rg_md_wide C lw_9_11 dX12_around_88 ?_
  refine aw_isub C dX12_around_91 ?_
  refine aw_icmp_ge (tgt := 106) C dX12_around_92 (by decide) (fun q => ?_) (fun q => ?_)
  · have h := bq_t q h
    refine aw_sub (lv' := [(0, .ref (N.1 0)), (1, .int x1), (2, .int x2), (3, .int x3)]) [0, 1, 2, 3] rfl ?_
    exact T_X12_around_106 C hE hk4 s2 x1 x2 x3 h
  · have h := bq_f q h
    refine aw_iload_n C 2 dX12_around_95 rfl ?_
    refine aw_iconst (v := 1) C dX12_around_96 (by decide) ?_
    refine aw_iload_n C 3 dX12_around_97 rfl ?_
    refine aw_aload_n C 0 dX12_around_98 rfl ?_
    refine rg_md_wide C lw_9_11 dX12_around_99 ?_
    refine aw_iadd C dX12_around_102 ?_
    refine aw_ishl C dX12_around_103 ?_
    refine aw_ior C dX12_around_104 ?_
    refine aw_topi (fun y4 ey4 => ?_)
    have h := oL_e ey4 h
    refine aw_istore_n (lv' := [(0, .ref (N.1 0)), (1, .int x1), (2, .int y4), (3, .int x3)]) C [1, 2, 0, 3] dX12_around_105 rfl (by decide) rfl ?_
    refine aw_sub (lv' := [(0, .ref (N.1 0)), (1, .int x1), (2, .int y4), (3, .int x3)]) [0, 1, 2, 3] rfl ?_
    exact T_X12_around_106 C hE hk4 s2 x1 y4 x3 h
def F_X12_around_63 (k4 : St → Int32 → Int32 → Int32 → Option (Int32 × St)) (s0 : St) (x1 : Int32) (x2 : Int32) (x3 : Int32) : Option (Int32 × St) :=
  if x3 < (s0.1 22) then (
    F_X12_around_82 k4 s0 x1 x2 x3)
  else (
    oL (x2 ||| ((1 : Int32) <<< ((x3 - (s0.1 22)) &&& 31))) fun y1 =>
    F_X12_around_82 k4 s0 x1 y1 x3)
set_option maxHeartbeats 4000000 in
set_option maxRecDepth 100000 in
theorem T_X12_around_63 {r : Int32} {z1 : St} {k4 : St → Int32 → Int32 → Int32 → Option (Int32 × St)} (C : Cx p rm_X12_around s m args c D A cX12_around 4 RX12 rm_X12_around N) (hE : En p l e rm_X12_around s m args below meth c Q D A cX12_around .ireturn (wR N z1) [.int r]) (hk4 : ∀ (s0 : St) (x1 : Int32) (x2 : Int32) (x3 : Int32), k4 s0 x1 x2 x3 = some (r, z1) → Aw p l e rm_X12_around s m args below meth c Q D A 4 (wR N s0) 4 [(0, .ref (N.1 0)), (1, .int x1), (2, .int x2), (3, .int x3)] []) (s0 : St) (x1 : Int32) (x2 : Int32) (x3 : Int32) (h : F_X12_around_63 k4 s0 x1 x2 x3 = some (r, z1)) : Aw p l e rm_X12_around s m args below meth c Q D A 4 (wR N s0) 63 [(0, .ref (N.1 0)), (1, .int x1), (2, .int x2), (3, .int x3)] [] := by
  unfold F_X12_around_63 at h
  refine aw_iload_n C 3 dX12_around_63 rfl ?_
  refine aw_aload_n C 0 dX12_around_64 rfl ?_
  refine rg_md_wide C lw_9_11 dX12_around_65 ?_
  refine aw_icmp_lt (tgt := 82) C dX12_around_68 (by decide) (fun q => ?_) (fun q => ?_)
  · have h := bq_t q h
    refine aw_sub (lv' := [(0, .ref (N.1 0)), (1, .int x1), (2, .int x2), (3, .int x3)]) [0, 1, 2, 3] rfl ?_
    exact T_X12_around_82 C hE hk4 s0 x1 x2 x3 h
  · have h := bq_f q h
    refine aw_iload_n C 2 dX12_around_71 rfl ?_
    refine aw_iconst (v := 1) C dX12_around_72 (by decide) ?_
    refine aw_iload_n C 3 dX12_around_73 rfl ?_
    refine aw_aload_n C 0 dX12_around_74 rfl ?_
    refine rg_md_wide C lw_9_11 dX12_around_75 ?_
    refine aw_isub C dX12_around_78 ?_
    refine aw_ishl C dX12_around_79 ?_
    refine aw_ior C dX12_around_80 ?_
    refine aw_topi (fun y1 ey1 => ?_)
    have h := oL_e ey1 h
    refine aw_istore_n (lv' := [(0, .ref (N.1 0)), (1, .int x1), (2, .int y1), (3, .int x3)]) C [1, 2, 0, 3] dX12_around_81 rfl (by decide) rfl ?_
    refine aw_sub (lv' := [(0, .ref (N.1 0)), (1, .int x1), (2, .int y1), (3, .int x3)]) [0, 1, 2, 3] rfl ?_
    exact T_X12_around_82 C hE hk4 s0 x1 y1 x3 h
def F_X12_around_40 (k4 : St → Int32 → Int32 → Int32 → Option (Int32 × St)) (s0 : St) (x1 : Int32) (x2 : Int32) (x3 : Int32) : Option (Int32 × St) :=
  oD (s0.1 22) <|
  if (s0.1 22) - (1 : Int32) ≤ x3 - x3 / (s0.1 22) * (s0.1 22) then (
    F_X12_around_63 k4 s0 x1 x2 x3)
  else (
    oL (x2 ||| ((1 : Int32) <<< ((x3 + (1 : Int32)) &&& 31))) fun y2 =>
    F_X12_around_63 k4 s0 x1 y2 x3)
set_option maxHeartbeats 4000000 in
set_option maxRecDepth 100000 in
theorem T_X12_around_40 {r : Int32} {z1 : St} {k4 : St → Int32 → Int32 → Int32 → Option (Int32 × St)} (C : Cx p rm_X12_around s m args c D A cX12_around 4 RX12 rm_X12_around N) (hE : En p l e rm_X12_around s m args below meth c Q D A cX12_around .ireturn (wR N z1) [.int r]) (hk4 : ∀ (s0 : St) (x1 : Int32) (x2 : Int32) (x3 : Int32), k4 s0 x1 x2 x3 = some (r, z1) → Aw p l e rm_X12_around s m args below meth c Q D A 4 (wR N s0) 4 [(0, .ref (N.1 0)), (1, .int x1), (2, .int x2), (3, .int x3)] []) (s0 : St) (x1 : Int32) (x2 : Int32) (x3 : Int32) (h : F_X12_around_40 k4 s0 x1 x2 x3 = some (r, z1)) : Aw p l e rm_X12_around s m args below meth c Q D A 4 (wR N s0) 40 [(0, .ref (N.1 0)), (1, .int x1), (2, .int x2), (3, .int x3)] [] := by
  unfold F_X12_around_40 at h
  refine aw_iload_n C 3 dX12_around_40 rfl ?_
  refine aw_aload_n C 0 dX12_around_41 rfl ?_
  refine rg_md_wide C lw_9_11 dX12_around_42 ?_
  obtain ⟨q1, h⟩ := oD_e h
  refine aw_irem C dX12_around_45 q1 ?_
  refine aw_aload_n C 0 dX12_around_46 rfl ?_
  refine rg_md_wide C lw_9_11 dX12_around_47 ?_
  refine aw_iconst (v := 1) C dX12_around_50 (by decide) ?_
  refine aw_isub C dX12_around_51 ?_
  refine aw_icmp_ge (tgt := 63) C dX12_around_52 (by decide) (fun q => ?_) (fun q => ?_)
  · have h := bq_t q h
    refine aw_sub (lv' := [(0, .ref (N.1 0)), (1, .int x1), (2, .int x2), (3, .int x3)]) [0, 1, 2, 3] rfl ?_
    exact T_X12_around_63 C hE hk4 s0 x1 x2 x3 h
  · have h := bq_f q h
    refine aw_iload_n C 2 dX12_around_55 rfl ?_
    refine aw_iconst (v := 1) C dX12_around_56 (by decide) ?_
    refine aw_iload_n C 3 dX12_around_57 rfl ?_
    refine aw_iconst (v := 1) C dX12_around_58 (by decide) ?_
    refine aw_iadd C dX12_around_59 ?_
    refine aw_ishl C dX12_around_60 ?_
    refine aw_ior C dX12_around_61 ?_
    refine aw_topi (fun y2 ey2 => ?_)
    have h := oL_e ey2 h
    refine aw_istore_n (lv' := [(0, .ref (N.1 0)), (1, .int x1), (2, .int y2), (3, .int x3)]) C [1, 2, 0, 3] dX12_around_62 rfl (by decide) rfl ?_
    refine aw_sub (lv' := [(0, .ref (N.1 0)), (1, .int x1), (2, .int y2), (3, .int x3)]) [0, 1, 2, 3] rfl ?_
    exact T_X12_around_63 C hE hk4 s0 x1 y2 x3 h
def F_X12_around_4_b (k4 : St → Int32 → Int32 → Int32 → Option (Int32 × St)) (s0 : St) (x1 : Int32) (x2 : Int32) (x3 : Int32) : Option (Int32 × St) :=
  oC (f_X12_cells s0) fun w3 =>
  oL w3.1 fun v1 => oL w3.2 fun s2 =>
  if v1 ≤ x3 then (
    some (x2, s2))
  else (
    if (x1 >>> (x3 &&& 31)) &&& (1 : Int32) = 0 then (
      F_X12_around_106 k4 s2 x1 x2 x3)
    else (
      oD (s2.1 22) <|
      if x3 - x3 / (s2.1 22) * (s2.1 22) ≤ 0 then (
        F_X12_around_40 k4 s2 x1 x2 x3)
      else (
        oL (x2 ||| ((1 : Int32) <<< ((x3 - (1 : Int32)) &&& 31))) fun y5 =>
        F_X12_around_40 k4 s2 x1 y5 x3)))
set_option maxHeartbeats 4000000 in
set_option maxRecDepth 100000 in
theorem T_X12_around_4_b {r : Int32} {z1 : St} {k4 : St → Int32 → Int32 → Int32 → Option (Int32 × St)} (C : Cx p rm_X12_around s m args c D A cX12_around 4 RX12 rm_X12_around N) (hE : En p l e rm_X12_around s m args below meth c Q D A cX12_around .ireturn (wR N z1) [.int r]) (hk4 : ∀ (s0 : St) (x1 : Int32) (x2 : Int32) (x3 : Int32), k4 s0 x1 x2 x3 = some (r, z1) → Aw p l e rm_X12_around s m args below meth c Q D A 4 (wR N s0) 4 [(0, .ref (N.1 0)), (1, .int x1), (2, .int x2), (3, .int x3)] []) (s0 : St) (x1 : Int32) (x2 : Int32) (x3 : Int32) (h : F_X12_around_4_b k4 s0 x1 x2 x3 = some (r, z1)) : Aw p l e rm_X12_around s m args below meth c Q D A 4 (wR N s0) 4 [(0, .ref (N.1 0)), (1, .int x1), (2, .int x2), (3, .int x3)] [] := by
  unfold F_X12_around_4_b at h
  refine aw_iload_n C 3 dX12_around_4 rfl ?_
  refine aw_aload_n C 0 dX12_around_5 rfl ?_
  obtain ⟨⟨v1, s2⟩, cw3, h⟩ := oC_e h
  have h := oL_e (x := s2) rfl (oL_e (x := v1) rfl h)
  refine aw_callVi (n := 0) (As := []) (rest := [.int x3]) (q0 := 0) C (c_X12_cells l D N s0 s2 v1 cw3) lw_23_23 lw_24_0 lw_24_1 lw_1_5 lw_24_2 rfl rfl (by decide +kernel) ⟨Nat.le_of_ble_eq_true rfl, Nat.le_of_ble_eq_true rfl⟩ rfl rfl rfl rfl rfl (Nat.le_of_ble_eq_true rfl) dX12_around_6 ?_
  refine aw_icmp_ge (tgt := 112) C dX12_around_9 (by decide) (fun q => ?_) (fun q => ?_)
  · have h := bq_t q h
    refine aw_iload_n C 2 dX12_around_112 rfl ?_
    cases h
    exact aw_ret hE dX12_around_113
  · have h := bq_f q h
    refine aw_iload_n C 1 dX12_around_12 rfl ?_
    refine aw_iload_n C 3 dX12_around_13 rfl ?_
    refine aw_ishr C dX12_around_14 ?_
    refine aw_iconst (v := 1) C dX12_around_15 (by decide) ?_
    refine aw_iand C dX12_around_16 ?_
    refine aw_if_ne (tgt := 23) C dX12_around_17 (by decide) (fun q => ?_) (fun q => ?_)
    · have h := bq_f q h
      refine aw_iload_n C 3 dX12_around_23 rfl ?_
      refine aw_aload_n C 0 dX12_around_24 rfl ?_
      refine rg_md_wide C lw_9_11 dX12_around_25 ?_
      obtain ⟨q4, h⟩ := oD_e h
      refine aw_irem C dX12_around_28 q4 ?_
      refine aw_if_le (tgt := 40) C dX12_around_29 (by decide) (fun q => ?_) (fun q => ?_)
      · have h := bq_t q h
        refine aw_sub (lv' := [(0, .ref (N.1 0)), (1, .int x1), (2, .int x2), (3, .int x3)]) [0, 1, 2, 3] rfl ?_
        exact T_X12_around_40 C hE hk4 s2 x1 x2 x3 h
      · have h := bq_f q h
        refine aw_iload_n C 2 dX12_around_32 rfl ?_
        refine aw_iconst (v := 1) C dX12_around_33 (by decide) ?_
        refine aw_iload_n C 3 dX12_around_34 rfl ?_
        refine aw_iconst (v := 1) C dX12_around_35 (by decide) ?_
        refine aw_isub C dX12_around_36 ?_
        refine aw_ishl C dX12_around_37 ?_
        refine aw_ior C dX12_around_38 ?_
        refine aw_topi (fun y5 ey5 => ?_)
        have h := oL_e ey5 h
        refine aw_istore_n (lv' := [(0, .ref (N.1 0)), (1, .int x1), (2, .int y5), (3, .int x3)]) C [1, 2, 0, 3] dX12_around_39 rfl (by decide) rfl ?_
        refine aw_sub (lv' := [(0, .ref (N.1 0)), (1, .int x1), (2, .int y5), (3, .int x3)]) [0, 1, 2, 3] rfl ?_
        exact T_X12_around_40 C hE hk4 s2 x1 y5 x3 h
    · have h := bq_t q h
      refine aw_goto (tgt := 106) C dX12_around_20 (by decide) ?_
      refine aw_sub (lv' := [(0, .ref (N.1 0)), (1, .int x1), (2, .int x2), (3, .int x3)]) [0, 1, 2, 3] rfl ?_
      exact T_X12_around_106 C hE hk4 s2 x1 x2 x3 h
def F_X12_around_4 : Nat → St → Int32 → Int32 → Int32 → Option (Int32 × St)
  | 0 => fun _ _ _ _ => none
  | n + 1 => F_X12_around_4_b (F_X12_around_4 n)
theorem T_X12_around_4 {r : Int32} {z1 : St} (C : Cx p rm_X12_around s m args c D A cX12_around 4 RX12 rm_X12_around N) (hE : En p l e rm_X12_around s m args below meth c Q D A cX12_around .ireturn (wR N z1) [.int r])  : ∀ (n : Nat) (s0 : St) (x1 : Int32) (x2 : Int32) (x3 : Int32), F_X12_around_4 n s0 x1 x2 x3 = some (r, z1) → Aw p l e rm_X12_around s m args below meth c Q D A 4 (wR N s0) 4 [(0, .ref (N.1 0)), (1, .int x1), (2, .int x2), (3, .int x3)] [] := by
  intro n
  induction n with
  | zero => intro s0 x1 x2 x3 h; cases h
  | succ n ih => intro s0 x1 x2 x3 h; exact T_X12_around_4_b C hE ih s0 x1 x2 x3 h
def F_X12_around_0 (s0 : St) (x1 : Int32) : Option (Int32 × St) :=
  oL (0 : Int32) fun y1 =>
  oL (0 : Int32) fun y2 =>
  F_X12_around_4 100000 s0 x1 y1 y2
set_option maxHeartbeats 4000000 in
set_option maxRecDepth 100000 in
theorem T_X12_around_0 {r : Int32} {z1 : St} (C : Cx p rm_X12_around s m args c D A cX12_around 4 RX12 rm_X12_around N) (hE : En p l e rm_X12_around s m args below meth c Q D A cX12_around .ireturn (wR N z1) [.int r])  (s0 : St) (x1 : Int32) (h : F_X12_around_0 s0 x1 = some (r, z1)) : Aw p l e rm_X12_around s m args below meth c Q D A 4 (wR N s0) 0 [(0, .ref (N.1 0)), (1, .int x1)] [] := by
  unfold F_X12_around_0 at h
  refine aw_iconst (v := 0) C dX12_around_0 (by decide) ?_
  refine aw_topi (fun y1 ey1 => ?_)
  have h := oL_e ey1 h
  refine aw_istore_n (lv' := [(0, .ref (N.1 0)), (1, .int x1), (2, .int y1)]) C [1, 2, 0] dX12_around_1 rfl (by decide) rfl ?_
  refine aw_iconst (v := 0) C dX12_around_2 (by decide) ?_
  refine aw_topi (fun y2 ey2 => ?_)
  have h := oL_e ey2 h
  refine aw_istore_n (lv' := [(0, .ref (N.1 0)), (1, .int x1), (2, .int y1), (3, .int y2)]) C [1, 2, 3, 0] dX12_around_3 rfl (by decide) rfl ?_
  refine aw_sub (lv' := [(0, .ref (N.1 0)), (1, .int x1), (2, .int y1), (3, .int y2)]) [0, 1, 2, 3] rfl ?_
  exact T_X12_around_4 C hE 100000 s0 x1 y1 y2 h
def f_X12_around (s0 : St) (x1 : Int32) : Option (Int32 × St) := F_X12_around_0 s0 x1
theorem c_X12_around (l : Launch) (D : va_G) (N : Nm) (s0 z1 : St) (x1 : Int32) (r : Int32) (h : f_X12_around s0 x1 = some (r, z1)) : Meti l yX12_around (tsU yX12_around cX12_around 4 (some .int)) rm_X12_around D N [.ref (N.1 0), .int x1] (wR N s0) r (wR N z1) :=
  met_i (cc := cX12_around) (nL := 4) (own := RX12) (by decide) rfl (Nat.le_of_ble_eq_true rfl) (fun p e s m args below meth c Q A C hE => aw_sub [0, 1] rfl (T_X12_around_0 C hE s0 x1 h))
/-! AwardLineModel.pieces(I)I -/
def rm_X12_pieces : Room := { frames := 2, cells := 0, slots := 0, locals := 43 }
def F_X12_pieces_17_b (k4 : St → Int32 → Int32 → Int32 → Option (Int32 × St)) (k17 : St → Int32 → Int32 → Int32 → Int32 → Int32 → Option (Int32 × St)) (s0 : St) (x1 : Int32) (x2 : Int32) (x3 : Int32) (x4 : Int32) (x5 : Int32) : Option (Int32 × St) :=
  if x5 = x4 then (
    oL (x2 &&& (x4 ^^^ (-1 : Int32))) fun y1 =>
    oL (x3 + (1 : Int32)) fun y2 =>
    k4 s0 x1 y1 y2)
  else (
    oC (f_X12_around s0 x4) fun w5 =>
    oL w5.1 fun v3 => oL w5.2 fun s4 =>
    oL (x4 ||| (v3 &&& x1)) fun y6 =>
    k17 s4 x1 x2 x3 y6 x4)
set_option maxHeartbeats 4000000 in
set_option maxRecDepth 100000 in
theorem T_X12_pieces_17_b {r : Int32} {z1 : St} {k4 : St → Int32 → Int32 → Int32 → Option (Int32 × St)} {k17 : St → Int32 → Int32 → Int32 → Int32 → Int32 → Option (Int32 × St)} (C : Cx p rm_X12_pieces s m args c D A cX12_pieces 6 RX12 rm_X12_pieces N) (hE : En p l e rm_X12_pieces s m args below meth c Q D A cX12_pieces .ireturn (wR N z1) [.int r]) (hk4 : ∀ (s0 : St) (x1 : Int32) (x2 : Int32) (x3 : Int32), k4 s0 x1 x2 x3 = some (r, z1) → Aw p l e rm_X12_pieces s m args below meth c Q D A 6 (wR N s0) 4 [(0, .ref (N.1 0)), (1, .int x1), (2, .int x2), (3, .int x3)] []) (hk17 : ∀ (s0 : St) (x1 : Int32) (x2 : Int32) (x3 : Int32) (x4 : Int32) (x5 : Int32), k17 s0 x1 x2 x3 x4 x5 = some (r, z1) → Aw p l e rm_X12_pieces s m args below meth c Q D A 6 (wR N s0) 17 [(0, .ref (N.1 0)), (1, .int x1), (2, .int x2), (3, .int x3), (4, .int x4), (5, .int x5)] []) (s0 : St) (x1 : Int32) (x2 : Int32) (x3 : Int32) (x4 : Int32) (x5 : Int32) (h : F_X12_pieces_17_b k4 k17 s0 x1 x2 x3 x4 x5 = some (r, z1)) : Aw p l e rm_X12_pieces s m args below meth c Q D A 6 (wR N s0) 17 [(0, .ref (N.1 0)), (1, .int x1), (2, .int x2), (3, .int x3), (4, .int x4), (5, .int x5)] [] := by
  unfold F_X12_pieces_17_b at h
  refine aw_iload C 5 dX12_pieces_17 rfl ?_
  refine aw_iload C 4 dX12_pieces_19 rfl ?_
  refine aw_icmp_eq (tgt := 44) C dX12_pieces_21 (by decide) (fun q => ?_) (fun q => ?_)
  · have h := bq_t q h
    refine aw_iload_n C 2 dX12_pieces_44 rfl ?_
    refine aw_iload C 4 dX12_pieces_45 rfl ?_
    refine aw_iconst (v := -1) C dX12_pieces_47 (by decide) ?_
    refine aw_ixor C dX12_pieces_48 ?_
    refine aw_iand C dX12_pieces_49 ?_
    refine aw_topi (fun y1 ey1 => ?_)
    have h := oL_e ey1 h
    refine aw_istore_n (lv' := [(0, .ref (N.1 0)), (1, .int x1), (2, .int y1), (3, .int x3), (4, .int x4), (5, .int x5)]) C [1, 2, 0, 3, 4, 5] dX12_pieces_50 rfl (by decide) rfl ?_
    obtain ⟨y2, ey2⟩ : ∃ q : Int32, q = x3 + (1 : Int32) := ⟨_, rfl⟩
    have h := oL_e ey2 h
    refine aw_iinc (v := y2) (k := 3) (lv' := [(0, .ref (N.1 0)), (1, .int x1), (2, .int y1), (3, .int y2), (4, .int x4), (5, .int x5)]) C [1, 2, 3, 0, 4, 5] dX12_pieces_51 rfl (by rw [ey2]; rfl) (by decide) rfl ?_
    refine aw_goto (tgt := 4) C dX12_pieces_54 (by decide) ?_
    refine aw_sub (lv' := [(0, .ref (N.1 0)), (1, .int x1), (2, .int y1), (3, .int y2)]) [0, 1, 2, 3] rfl ?_
    exact hk4 s0 x1 y1 y2 h
  · have h := bq_f q h
    refine aw_iload C 4 dX12_pieces_24 rfl ?_
    refine aw_istore (lv' := [(0, .ref (N.1 0)), (1, .int x1), (2, .int x2), (3, .int x3), (4, .int x4), (5, .int x4)]) C [1, 2, 3, 4, 5, 0] dX12_pieces_26 (by decide) rfl ?_
    refine aw_iload C 4 dX12_pieces_28 rfl ?_
    refine aw_aload_n C 0 dX12_pieces_30 rfl ?_
    refine aw_iload C 4 dX12_pieces_31 rfl ?_
    obtain ⟨⟨v3, s4⟩, cw5, h⟩ := oC_e h
    have h := oL_e (x := s4) rfl (oL_e (x := v3) rfl h)
    refine aw_callVi (n := 1) (As := [.int x4]) (rest := [.int x4]) (q0 := 0) C (c_X12_around l D N s0 s4 x4 v3 cw5) lw_40_14 lw_40_15 lw_40_16 lw_1_5 lw_40_17 rfl rfl (by decide +kernel) ⟨Nat.le_of_ble_eq_true rfl, Nat.le_of_ble_eq_true rfl⟩ rfl rfl rfl rfl rfl (Nat.le_of_ble_eq_true rfl) dX12_pieces_33 ?_
    refine aw_iload_n C 1 dX12_pieces_36 rfl ?_
    refine aw_iand C dX12_pieces_37 ?_
    refine aw_ior C dX12_pieces_38 ?_
    refine aw_topi (fun y6 ey6 => ?_)
    have h := oL_e ey6 h
    refine aw_istore (lv' := [(0, .ref (N.1 0)), (1, .int x1), (2, .int x2), (3, .int x3), (4, .int y6), (5, .int x4)]) C [1, 2, 3, 4, 0, 5] dX12_pieces_39 (by decide) rfl ?_
    refine aw_goto (tgt := 17) C dX12_pieces_41 (by decide) ?_
    refine aw_sub (lv' := [(0, .ref (N.1 0)), (1, .int x1), (2, .int x2), (3, .int x3), (4, .int y6), (5, .int x4)]) [0, 1, 2, 3, 4, 5] rfl ?_
    exact hk17 s4 x1 x2 x3 y6 x4 h
def F_X12_pieces_17 (k4 : St → Int32 → Int32 → Int32 → Option (Int32 × St)) : Nat → St → Int32 → Int32 → Int32 → Int32 → Int32 → Option (Int32 × St)
  | 0 => fun _ _ _ _ _ _ => none
  | n + 1 => F_X12_pieces_17_b k4 (F_X12_pieces_17 k4 n)
theorem T_X12_pieces_17 {r : Int32} {z1 : St} {k4 : St → Int32 → Int32 → Int32 → Option (Int32 × St)} (C : Cx p rm_X12_pieces s m args c D A cX12_pieces 6 RX12 rm_X12_pieces N) (hE : En p l e rm_X12_pieces s m args below meth c Q D A cX12_pieces .ireturn (wR N z1) [.int r]) (hk4 : ∀ (s0 : St) (x1 : Int32) (x2 : Int32) (x3 : Int32), k4 s0 x1 x2 x3 = some (r, z1) → Aw p l e rm_X12_pieces s m args below meth c Q D A 6 (wR N s0) 4 [(0, .ref (N.1 0)), (1, .int x1), (2, .int x2), (3, .int x3)] []) : ∀ (n : Nat) (s0 : St) (x1 : Int32) (x2 : Int32) (x3 : Int32) (x4 : Int32) (x5 : Int32), F_X12_pieces_17 k4 n s0 x1 x2 x3 x4 x5 = some (r, z1) → Aw p l e rm_X12_pieces s m args below meth c Q D A 6 (wR N s0) 17 [(0, .ref (N.1 0)), (1, .int x1), (2, .int x2), (3, .int x3), (4, .int x4), (5, .int x5)] [] := by
  intro n
  induction n with
  | zero => intro s0 x1 x2 x3 x4 x5 h; cases h
  | succ n ih => intro s0 x1 x2 x3 x4 x5 h; exact T_X12_pieces_17_b C hE hk4 ih s0 x1 x2 x3 x4 x5 h
def F_X12_pieces_4_b (k4 : St → Int32 → Int32 → Int32 → Option (Int32 × St)) (s0 : St) (x1 : Int32) (x2 : Int32) (x3 : Int32) : Option (Int32 × St) :=
  if x2 = 0 then (
    some (x3, s0))
  else (
    oL (x2 &&& (-x2)) fun y1 =>
    oL (0 : Int32) fun y2 =>
    F_X12_pieces_17 k4 100000 s0 x1 x2 x3 y1 y2)
set_option maxHeartbeats 4000000 in
set_option maxRecDepth 100000 in
theorem T_X12_pieces_4_b {r : Int32} {z1 : St} {k4 : St → Int32 → Int32 → Int32 → Option (Int32 × St)} (C : Cx p rm_X12_pieces s m args c D A cX12_pieces 6 RX12 rm_X12_pieces N) (hE : En p l e rm_X12_pieces s m args below meth c Q D A cX12_pieces .ireturn (wR N z1) [.int r]) (hk4 : ∀ (s0 : St) (x1 : Int32) (x2 : Int32) (x3 : Int32), k4 s0 x1 x2 x3 = some (r, z1) → Aw p l e rm_X12_pieces s m args below meth c Q D A 6 (wR N s0) 4 [(0, .ref (N.1 0)), (1, .int x1), (2, .int x2), (3, .int x3)] []) (s0 : St) (x1 : Int32) (x2 : Int32) (x3 : Int32) (h : F_X12_pieces_4_b k4 s0 x1 x2 x3 = some (r, z1)) : Aw p l e rm_X12_pieces s m args below meth c Q D A 6 (wR N s0) 4 [(0, .ref (N.1 0)), (1, .int x1), (2, .int x2), (3, .int x3)] [] := by
  unfold F_X12_pieces_4_b at h
  refine aw_iload_n C 2 dX12_pieces_4 rfl ?_
  refine aw_if_eq (tgt := 57) C dX12_pieces_5 (by decide) (fun q => ?_) (fun q => ?_)
  · have h := bq_t q h
    refine aw_iload_n C 3 dX12_pieces_57 rfl ?_
    cases h
    exact aw_ret hE dX12_pieces_58
  · have h := bq_f q h
    refine aw_iload_n C 2 dX12_pieces_8 rfl ?_
    refine aw_iload_n C 2 dX12_pieces_9 rfl ?_
    refine aw_ineg C dX12_pieces_10 ?_
    refine aw_iand C dX12_pieces_11 ?_
    refine aw_topi (fun y1 ey1 => ?_)
    have h := oL_e ey1 h
    refine aw_istore (lv' := [(0, .ref (N.1 0)), (1, .int x1), (2, .int x2), (3, .int x3), (4, .int y1)]) C [1, 2, 3, 4, 0] dX12_pieces_12 (by decide) rfl ?_
    refine aw_iconst (v := 0) C dX12_pieces_14 (by decide) ?_
    refine aw_topi (fun y2 ey2 => ?_)
    have h := oL_e ey2 h
    refine aw_istore (lv' := [(0, .ref (N.1 0)), (1, .int x1), (2, .int x2), (3, .int x3), (4, .int y1), (5, .int y2)]) C [1, 2, 3, 4, 5, 0] dX12_pieces_15 (by decide) rfl ?_
    refine aw_sub (lv' := [(0, .ref (N.1 0)), (1, .int x1), (2, .int x2), (3, .int x3), (4, .int y1), (5, .int y2)]) [0, 1, 2, 3, 4, 5] rfl ?_
    exact T_X12_pieces_17 C hE hk4 100000 s0 x1 x2 x3 y1 y2 h
def F_X12_pieces_4 : Nat → St → Int32 → Int32 → Int32 → Option (Int32 × St)
  | 0 => fun _ _ _ _ => none
  | n + 1 => F_X12_pieces_4_b (F_X12_pieces_4 n)
theorem T_X12_pieces_4 {r : Int32} {z1 : St} (C : Cx p rm_X12_pieces s m args c D A cX12_pieces 6 RX12 rm_X12_pieces N) (hE : En p l e rm_X12_pieces s m args below meth c Q D A cX12_pieces .ireturn (wR N z1) [.int r])  : ∀ (n : Nat) (s0 : St) (x1 : Int32) (x2 : Int32) (x3 : Int32), F_X12_pieces_4 n s0 x1 x2 x3 = some (r, z1) → Aw p l e rm_X12_pieces s m args below meth c Q D A 6 (wR N s0) 4 [(0, .ref (N.1 0)), (1, .int x1), (2, .int x2), (3, .int x3)] [] := by
  intro n
  induction n with
  | zero => intro s0 x1 x2 x3 h; cases h
  | succ n ih => intro s0 x1 x2 x3 h; exact T_X12_pieces_4_b C hE ih s0 x1 x2 x3 h
def F_X12_pieces_0 (s0 : St) (x1 : Int32) : Option (Int32 × St) :=
  oL (0 : Int32) fun y1 =>
  F_X12_pieces_4 100000 s0 x1 x1 y1
set_option maxHeartbeats 4000000 in
set_option maxRecDepth 100000 in
theorem T_X12_pieces_0 {r : Int32} {z1 : St} (C : Cx p rm_X12_pieces s m args c D A cX12_pieces 6 RX12 rm_X12_pieces N) (hE : En p l e rm_X12_pieces s m args below meth c Q D A cX12_pieces .ireturn (wR N z1) [.int r])  (s0 : St) (x1 : Int32) (h : F_X12_pieces_0 s0 x1 = some (r, z1)) : Aw p l e rm_X12_pieces s m args below meth c Q D A 6 (wR N s0) 0 [(0, .ref (N.1 0)), (1, .int x1)] [] := by
  unfold F_X12_pieces_0 at h
  refine aw_iload_n C 1 dX12_pieces_0 rfl ?_
  refine aw_istore_n (lv' := [(0, .ref (N.1 0)), (1, .int x1), (2, .int x1)]) C [1, 2, 0] dX12_pieces_1 rfl (by decide) rfl ?_
  refine aw_iconst (v := 0) C dX12_pieces_2 (by decide) ?_
  refine aw_topi (fun y1 ey1 => ?_)
  have h := oL_e ey1 h
  refine aw_istore_n (lv' := [(0, .ref (N.1 0)), (1, .int x1), (2, .int x1), (3, .int y1)]) C [1, 2, 3, 0] dX12_pieces_3 rfl (by decide) rfl ?_
  refine aw_sub (lv' := [(0, .ref (N.1 0)), (1, .int x1), (2, .int x1), (3, .int y1)]) [0, 1, 2, 3] rfl ?_
  exact T_X12_pieces_4 C hE 100000 s0 x1 x1 y1 h
def f_X12_pieces (s0 : St) (x1 : Int32) : Option (Int32 × St) := F_X12_pieces_0 s0 x1
theorem c_X12_pieces (l : Launch) (D : va_G) (N : Nm) (s0 z1 : St) (x1 : Int32) (r : Int32) (h : f_X12_pieces s0 x1 = some (r, z1)) : Meti l yX12_pieces (tsU yX12_pieces cX12_pieces 6 (some .int)) rm_X12_pieces D N [.ref (N.1 0), .int x1] (wR N s0) r (wR N z1) :=
  met_i (cc := cX12_pieces) (nL := 6) (own := RX12) (by decide) rfl (Nat.le_of_ble_eq_true rfl) (fun p e s m args below meth c Q A C hE => aw_sub [0, 1] rfl (T_X12_pieces_0 C hE s0 x1 h))
/-! AwardLineModel.cutOf(I)I -/
def rm_X12_cutOf : Room := { frames := 1, cells := 0, slots := 0, locals := 21 }
def F_X12_cutOf_64 (k4 : St → Int32 → Int32 → Int32 → Option (Int32 × St)) (k15 : St → Int32 → Int32 → Int32 → Int32 → Option (Int32 × St)) (s0 : St) (x1 : Int32) (x3 : Int32) (x4 : Int32) (t0 : Int32) (t1 : Int32) : Option (Int32 × St) :=
  oL (t1 + t0) fun y1 =>
  oL (x4 + (1 : Int32)) fun y2 =>
  k15 s0 x1 y1 x3 y2
set_option maxHeartbeats 4000000 in
set_option maxRecDepth 100000 in
theorem T_X12_cutOf_64 {r : Int32} {z1 : St} {k4 : St → Int32 → Int32 → Int32 → Option (Int32 × St)} {k15 : St → Int32 → Int32 → Int32 → Int32 → Option (Int32 × St)} (C : Cx p rm_X12_cutOf s m args c D A cX12_cutOf 5 RX12 rm_X12_cutOf N) (hE : En p l e rm_X12_cutOf s m args below meth c Q D A cX12_cutOf .ireturn (wR N z1) [.int r]) (hk4 : ∀ (s0 : St) (x1 : Int32) (x2 : Int32) (x3 : Int32), k4 s0 x1 x2 x3 = some (r, z1) → Aw p l e rm_X12_cutOf s m args below meth c Q D A 5 (wR N s0) 4 [(0, .ref (N.1 0)), (1, .int x1), (2, .int x2), (3, .int x3)] []) (hk15 : ∀ (s0 : St) (x1 : Int32) (x2 : Int32) (x3 : Int32) (x4 : Int32), k15 s0 x1 x2 x3 x4 = some (r, z1) → Aw p l e rm_X12_cutOf s m args below meth c Q D A 5 (wR N s0) 15 [(0, .ref (N.1 0)), (1, .int x1), (2, .int x2), (3, .int x3), (4, .int x4)] []) (s0 : St) (x1 : Int32) (x3 : Int32) (x4 : Int32) (t0 : Int32) (t1 : Int32) (h : F_X12_cutOf_64 k4 k15 s0 x1 x3 x4 t0 t1 = some (r, z1)) : Aw p l e rm_X12_cutOf s m args below meth c Q D A 5 (wR N s0) 64 [(0, .ref (N.1 0)), (1, .int x1), (3, .int x3), (4, .int x4)] [.int t0, .int t1] := by
  unfold F_X12_cutOf_64 at h
  refine aw_iadd C dX12_cutOf_64 ?_
  refine aw_topi (fun y1 ey1 => ?_)
  have h := oL_e ey1 h
  refine aw_istore_n (lv' := [(0, .ref (N.1 0)), (1, .int x1), (2, .int y1), (3, .int x3), (4, .int x4)]) C [1, 2, 0, 3, 4] dX12_cutOf_65 rfl (by decide) rfl ?_
  obtain ⟨y2, ey2⟩ : ∃ q : Int32, q = x4 + (1 : Int32) := ⟨_, rfl⟩
  have h := oL_e ey2 h
  refine aw_iinc (v := y2) (k := 4) (lv' := [(0, .ref (N.1 0)), (1, .int x1), (2, .int y1), (3, .int x3), (4, .int y2)]) C [1, 2, 3, 4, 0] dX12_cutOf_66 rfl (by rw [ey2]; rfl) (by decide) rfl ?_
  refine aw_goto (tgt := 15) C dX12_cutOf_69 (by decide) ?_
  refine aw_sub (lv' := [(0, .ref (N.1 0)), (1, .int x1), (2, .int y1), (3, .int x3), (4, .int y2)]) [0, 1, 2, 3, 4] rfl ?_
  exact hk15 s0 x1 y1 x3 y2 h
def F_X12_cutOf_15_b (k4 : St → Int32 → Int32 → Int32 → Option (Int32 × St)) (k15 : St → Int32 → Int32 → Int32 → Int32 → Option (Int32 × St)) (s0 : St) (x1 : Int32) (x2 : Int32) (x3 : Int32) (x4 : Int32) : Option (Int32 × St) :=
  oA x3 6 <|
  if (s0.2.1 12 (Int32.toNatClampNeg x3)) < x4 then (
    oL (x3 + (1 : Int32)) fun y2 =>
    k4 s0 x1 x2 y2)
  else (
    oA ((6 : Int32) * x3) 36 <|
    oC (f_X12_sideOf s0 x1 (s0.2.1 11 (Int32.toNatClampNeg ((6 : Int32) * x3)))) fun w6 =>
    oL w6.1 fun v4 => oL w6.2 fun s5 =>
    oA (((6 : Int32) * x3) + x4) 36 <|
    oC (f_X12_sideOf s5 x1 (s5.2.1 11 (Int32.toNatClampNeg (((6 : Int32) * x3) + x4)))) fun w10 =>
    oL w10.1 fun v8 => oL w10.2 fun s9 =>
    if v4 = v8 then (
      F_X12_cutOf_64 k4 k15 s9 x1 x3 x4 (0 : Int32) x2)
    else (
      F_X12_cutOf_64 k4 k15 s9 x1 x3 x4 (1 : Int32) x2))
set_option maxHeartbeats 4000000 in
set_option maxRecDepth 100000 in
theorem T_X12_cutOf_15_b {r : Int32} {z1 : St} {k4 : St → Int32 → Int32 → Int32 → Option (Int32 × St)} {k15 : St → Int32 → Int32 → Int32 → Int32 → Option (Int32 × St)} (C : Cx p rm_X12_cutOf s m args c D A cX12_cutOf 5 RX12 rm_X12_cutOf N) (hE : En p l e rm_X12_cutOf s m args below meth c Q D A cX12_cutOf .ireturn (wR N z1) [.int r]) (hk4 : ∀ (s0 : St) (x1 : Int32) (x2 : Int32) (x3 : Int32), k4 s0 x1 x2 x3 = some (r, z1) → Aw p l e rm_X12_cutOf s m args below meth c Q D A 5 (wR N s0) 4 [(0, .ref (N.1 0)), (1, .int x1), (2, .int x2), (3, .int x3)] []) (hk15 : ∀ (s0 : St) (x1 : Int32) (x2 : Int32) (x3 : Int32) (x4 : Int32), k15 s0 x1 x2 x3 x4 = some (r, z1) → Aw p l e rm_X12_cutOf s m args below meth c Q D A 5 (wR N s0) 15 [(0, .ref (N.1 0)), (1, .int x1), (2, .int x2), (3, .int x3), (4, .int x4)] []) (s0 : St) (x1 : Int32) (x2 : Int32) (x3 : Int32) (x4 : Int32) (h : F_X12_cutOf_15_b k4 k15 s0 x1 x2 x3 x4 = some (r, z1)) : Aw p l e rm_X12_cutOf s m args below meth c Q D A 5 (wR N s0) 15 [(0, .ref (N.1 0)), (1, .int x1), (2, .int x2), (3, .int x3), (4, .int x4)] [] := by
  unfold F_X12_cutOf_15_b at h
  refine aw_iload C 4 dX12_cutOf_15 rfl ?_
  refine aw_aload_n C 0 dX12_cutOf_17 rfl ?_
  refine rg_md_drinkers C lw_8_13 dX12_cutOf_18 ?_
  refine aw_iload_n C 3 dX12_cutOf_21 rfl ?_
  obtain ⟨q1, h⟩ := oA_e h
  refine ra_iald (k := 12) C (by decide) rfl q1 dX12_cutOf_22 ?_
  refine aw_icmp_gt (tgt := 72) C dX12_cutOf_23 (by decide) (fun q => ?_) (fun q => ?_)
  · have h := bq_t q h
    obtain ⟨y2, ey2⟩ : ∃ q : Int32, q = x3 + (1 : Int32) := ⟨_, rfl⟩
    have h := oL_e ey2 h
    refine aw_iinc (v := y2) (k := 3) (lv' := [(0, .ref (N.1 0)), (1, .int x1), (2, .int x2), (3, .int y2), (4, .int x4)]) C [1, 2, 3, 0, 4] dX12_cutOf_72 rfl (by rw [ey2]; rfl) (by decide) rfl ?_
    refine aw_goto (tgt := 4) C dX12_cutOf_75 (by decide) ?_
    refine aw_sub (lv' := [(0, .ref (N.1 0)), (1, .int x1), (2, .int x2), (3, .int y2)]) [0, 1, 2, 3] rfl ?_
    exact hk4 s0 x1 x2 y2 h
  · have h := bq_f q h
    refine aw_iload_n C 2 dX12_cutOf_26 rfl ?_
    refine aw_iload_n C 1 dX12_cutOf_27 rfl ?_
    refine aw_aload_n C 0 dX12_cutOf_28 rfl ?_
    refine rg_md_canal C lw_8_12 dX12_cutOf_29 ?_
    refine aw_bipush (v := 6) C dX12_cutOf_32 (by decide) ?_
    refine aw_iload_n C 3 dX12_cutOf_34 rfl ?_
    refine aw_imul C dX12_cutOf_35 ?_
    obtain ⟨q3, h⟩ := oA_e h
    refine ra_iald (k := 11) C (by decide) rfl q3 dX12_cutOf_36 ?_
    obtain ⟨⟨v4, s5⟩, cw6, h⟩ := oC_e h
    have h := oL_e (x := s5) rfl (oL_e (x := v4) rfl h)
    refine aw_callSi (n := 2) (As := [.int x1, .int (s0.2.1 11 (Int32.toNatClampNeg ((6 : Int32) * x3)))]) (rest := [.int x2]) C (c_X12_sideOf l D N s0 s5 x1 (s0.2.1 11 (Int32.toNatClampNeg ((6 : Int32) * x3))) v4 cw6) lw_40_7 lw_40_8 lw_1_5 lw_40_9 rfl rfl (by decide +kernel) ⟨Nat.le_of_ble_eq_true rfl, Nat.le_of_ble_eq_true rfl⟩ rfl rfl (Nat.le_of_ble_eq_true rfl) dX12_cutOf_37 ?_
    refine aw_iload_n C 1 dX12_cutOf_40 rfl ?_
    refine aw_aload_n C 0 dX12_cutOf_41 rfl ?_
    refine rg_md_canal C lw_8_12 dX12_cutOf_42 ?_
    refine aw_bipush (v := 6) C dX12_cutOf_45 (by decide) ?_
    refine aw_iload_n C 3 dX12_cutOf_47 rfl ?_
    refine aw_imul C dX12_cutOf_48 ?_
    refine aw_iload C 4 dX12_cutOf_49 rfl ?_
    refine aw_iadd C dX12_cutOf_51 ?_
    obtain ⟨q7, h⟩ := oA_e h
    refine ra_iald (k := 11) C (by decide) rfl q7 dX12_cutOf_52 ?_
    obtain ⟨⟨v8, s9⟩, cw10, h⟩ := oC_e h
    have h := oL_e (x := s9) rfl (oL_e (x := v8) rfl h)
    refine aw_callSi (n := 2) (As := [.int x1, .int (s5.2.1 11 (Int32.toNatClampNeg (((6 : Int32) * x3) + x4)))]) (rest := [.int v4, .int x2]) C (c_X12_sideOf l D N s5 s9 x1 (s5.2.1 11 (Int32.toNatClampNeg (((6 : Int32) * x3) + x4))) v8 cw10) lw_40_7 lw_40_8 lw_1_5 lw_40_9 rfl rfl (by decide +kernel) ⟨Nat.le_of_ble_eq_true rfl, Nat.le_of_ble_eq_true rfl⟩ rfl rfl (Nat.le_of_ble_eq_true rfl) dX12_cutOf_53 ?_
    refine aw_icmp_eq (tgt := 63) C dX12_cutOf_56 (by decide) (fun q => ?_) (fun q => ?_)
    · have h := bq_t q h
      refine aw_iconst (v := 0) C dX12_cutOf_63 (by decide) ?_
      refine aw_sub (lv' := [(0, .ref (N.1 0)), (1, .int x1), (3, .int x3), (4, .int x4)]) [0, 1, 3, 4] rfl ?_
      exact T_X12_cutOf_64 C hE hk4 hk15 s9 x1 x3 x4 (0 : Int32) x2 h
    · have h := bq_f q h
      refine aw_iconst (v := 1) C dX12_cutOf_59 (by decide) ?_
      refine aw_goto (tgt := 64) C dX12_cutOf_60 (by decide) ?_
      refine aw_sub (lv' := [(0, .ref (N.1 0)), (1, .int x1), (3, .int x3), (4, .int x4)]) [0, 1, 3, 4] rfl ?_
      exact T_X12_cutOf_64 C hE hk4 hk15 s9 x1 x3 x4 (1 : Int32) x2 h
def F_X12_cutOf_15 (k4 : St → Int32 → Int32 → Int32 → Option (Int32 × St)) : Nat → St → Int32 → Int32 → Int32 → Int32 → Option (Int32 × St)
  | 0 => fun _ _ _ _ _ => none
  | n + 1 => F_X12_cutOf_15_b k4 (F_X12_cutOf_15 k4 n)
theorem T_X12_cutOf_15 {r : Int32} {z1 : St} {k4 : St → Int32 → Int32 → Int32 → Option (Int32 × St)} (C : Cx p rm_X12_cutOf s m args c D A cX12_cutOf 5 RX12 rm_X12_cutOf N) (hE : En p l e rm_X12_cutOf s m args below meth c Q D A cX12_cutOf .ireturn (wR N z1) [.int r]) (hk4 : ∀ (s0 : St) (x1 : Int32) (x2 : Int32) (x3 : Int32), k4 s0 x1 x2 x3 = some (r, z1) → Aw p l e rm_X12_cutOf s m args below meth c Q D A 5 (wR N s0) 4 [(0, .ref (N.1 0)), (1, .int x1), (2, .int x2), (3, .int x3)] []) : ∀ (n : Nat) (s0 : St) (x1 : Int32) (x2 : Int32) (x3 : Int32) (x4 : Int32), F_X12_cutOf_15 k4 n s0 x1 x2 x3 x4 = some (r, z1) → Aw p l e rm_X12_cutOf s m args below meth c Q D A 5 (wR N s0) 15 [(0, .ref (N.1 0)), (1, .int x1), (2, .int x2), (3, .int x3), (4, .int x4)] [] := by
  intro n
  induction n with
  | zero => intro s0 x1 x2 x3 x4 h; cases h
  | succ n ih => intro s0 x1 x2 x3 x4 h; exact T_X12_cutOf_15_b C hE hk4 ih s0 x1 x2 x3 x4 h
def F_X12_cutOf_4_b (k4 : St → Int32 → Int32 → Int32 → Option (Int32 × St)) (s0 : St) (x1 : Int32) (x2 : Int32) (x3 : Int32) : Option (Int32 × St) :=
  if (s0.1 24) ≤ x3 then (
    some (x2, s0))
  else (
    oL (1 : Int32) fun y1 =>
    F_X12_cutOf_15 k4 100000 s0 x1 x2 x3 y1)
set_option maxHeartbeats 4000000 in
set_option maxRecDepth 100000 in
theorem T_X12_cutOf_4_b {r : Int32} {z1 : St} {k4 : St → Int32 → Int32 → Int32 → Option (Int32 × St)} (C : Cx p rm_X12_cutOf s m args c D A cX12_cutOf 5 RX12 rm_X12_cutOf N) (hE : En p l e rm_X12_cutOf s m args below meth c Q D A cX12_cutOf .ireturn (wR N z1) [.int r]) (hk4 : ∀ (s0 : St) (x1 : Int32) (x2 : Int32) (x3 : Int32), k4 s0 x1 x2 x3 = some (r, z1) → Aw p l e rm_X12_cutOf s m args below meth c Q D A 5 (wR N s0) 4 [(0, .ref (N.1 0)), (1, .int x1), (2, .int x2), (3, .int x3)] []) (s0 : St) (x1 : Int32) (x2 : Int32) (x3 : Int32) (h : F_X12_cutOf_4_b k4 s0 x1 x2 x3 = some (r, z1)) : Aw p l e rm_X12_cutOf s m args below meth c Q D A 5 (wR N s0) 4 [(0, .ref (N.1 0)), (1, .int x1), (2, .int x2), (3, .int x3)] [] := by
  unfold F_X12_cutOf_4_b at h
  refine aw_iload_n C 3 dX12_cutOf_4 rfl ?_
  refine aw_aload_n C 0 dX12_cutOf_5 rfl ?_
  refine rg_md_canals C lw_9_13 dX12_cutOf_6 ?_
  refine aw_icmp_ge (tgt := 78) C dX12_cutOf_9 (by decide) (fun q => ?_) (fun q => ?_)
  · have h := bq_t q h
    refine aw_iload_n C 2 dX12_cutOf_78 rfl ?_
    cases h
    exact aw_ret hE dX12_cutOf_79
  · have h := bq_f q h
    refine aw_iconst (v := 1) C dX12_cutOf_12 (by decide) ?_
    refine aw_topi (fun y1 ey1 => ?_)
    have h := oL_e ey1 h
    refine aw_istore (lv' := [(0, .ref (N.1 0)), (1, .int x1), (2, .int x2), (3, .int x3), (4, .int y1)]) C [1, 2, 3, 4, 0] dX12_cutOf_13 (by decide) rfl ?_
    refine aw_sub (lv' := [(0, .ref (N.1 0)), (1, .int x1), (2, .int x2), (3, .int x3), (4, .int y1)]) [0, 1, 2, 3, 4] rfl ?_
    exact T_X12_cutOf_15 C hE hk4 100000 s0 x1 x2 x3 y1 h
def F_X12_cutOf_4 : Nat → St → Int32 → Int32 → Int32 → Option (Int32 × St)
  | 0 => fun _ _ _ _ => none
  | n + 1 => F_X12_cutOf_4_b (F_X12_cutOf_4 n)
theorem T_X12_cutOf_4 {r : Int32} {z1 : St} (C : Cx p rm_X12_cutOf s m args c D A cX12_cutOf 5 RX12 rm_X12_cutOf N) (hE : En p l e rm_X12_cutOf s m args below meth c Q D A cX12_cutOf .ireturn (wR N z1) [.int r])  : ∀ (n : Nat) (s0 : St) (x1 : Int32) (x2 : Int32) (x3 : Int32), F_X12_cutOf_4 n s0 x1 x2 x3 = some (r, z1) → Aw p l e rm_X12_cutOf s m args below meth c Q D A 5 (wR N s0) 4 [(0, .ref (N.1 0)), (1, .int x1), (2, .int x2), (3, .int x3)] [] := by
  intro n
  induction n with
  | zero => intro s0 x1 x2 x3 h; cases h
  | succ n ih => intro s0 x1 x2 x3 h; exact T_X12_cutOf_4_b C hE ih s0 x1 x2 x3 h
def F_X12_cutOf_0 (s0 : St) (x1 : Int32) : Option (Int32 × St) :=
  oL (0 : Int32) fun y1 =>
  oL (0 : Int32) fun y2 =>
  F_X12_cutOf_4 100000 s0 x1 y1 y2
set_option maxHeartbeats 4000000 in
set_option maxRecDepth 100000 in
theorem T_X12_cutOf_0 {r : Int32} {z1 : St} (C : Cx p rm_X12_cutOf s m args c D A cX12_cutOf 5 RX12 rm_X12_cutOf N) (hE : En p l e rm_X12_cutOf s m args below meth c Q D A cX12_cutOf .ireturn (wR N z1) [.int r])  (s0 : St) (x1 : Int32) (h : F_X12_cutOf_0 s0 x1 = some (r, z1)) : Aw p l e rm_X12_cutOf s m args below meth c Q D A 5 (wR N s0) 0 [(0, .ref (N.1 0)), (1, .int x1)] [] := by
  unfold F_X12_cutOf_0 at h
  refine aw_iconst (v := 0) C dX12_cutOf_0 (by decide) ?_
  refine aw_topi (fun y1 ey1 => ?_)
  have h := oL_e ey1 h
  refine aw_istore_n (lv' := [(0, .ref (N.1 0)), (1, .int x1), (2, .int y1)]) C [1, 2, 0] dX12_cutOf_1 rfl (by decide) rfl ?_
  refine aw_iconst (v := 0) C dX12_cutOf_2 (by decide) ?_
  refine aw_topi (fun y2 ey2 => ?_)
  have h := oL_e ey2 h
  refine aw_istore_n (lv' := [(0, .ref (N.1 0)), (1, .int x1), (2, .int y1), (3, .int y2)]) C [1, 2, 3, 0] dX12_cutOf_3 rfl (by decide) rfl ?_
  refine aw_sub (lv' := [(0, .ref (N.1 0)), (1, .int x1), (2, .int y1), (3, .int y2)]) [0, 1, 2, 3] rfl ?_
  exact T_X12_cutOf_4 C hE 100000 s0 x1 y1 y2 h
def f_X12_cutOf (s0 : St) (x1 : Int32) : Option (Int32 × St) := F_X12_cutOf_0 s0 x1
theorem c_X12_cutOf (l : Launch) (D : va_G) (N : Nm) (s0 z1 : St) (x1 : Int32) (r : Int32) (h : f_X12_cutOf s0 x1 = some (r, z1)) : Meti l yX12_cutOf (tsU yX12_cutOf cX12_cutOf 5 (some .int)) rm_X12_cutOf D N [.ref (N.1 0), .int x1] (wR N s0) r (wR N z1) :=
  met_i (cc := cX12_cutOf) (nL := 5) (own := RX12) (by decide) rfl (Nat.le_of_ble_eq_true rfl) (fun p e s m args below meth c Q A C hE => aw_sub [0, 1] rfl (T_X12_cutOf_0 C hE s0 x1 h))
/-! AwardLineModel.severed(I)I -/
def rm_X12_severed : Room := { frames := 1, cells := 0, slots := 0, locals := 21 }
def F_X12_severed_116 (k4 : St → Int32 → Int32 → Int32 → Option (Int32 × St)) (s0 : St) (x1 : Int32) (x2 : Int32) (x3 : Int32) : Option (Int32 × St) :=
  oL (x3 + (1 : Int32)) fun y1 =>
  k4 s0 x1 x2 y1
set_option maxHeartbeats 4000000 in
set_option maxRecDepth 100000 in
theorem T_X12_severed_116 {r : Int32} {z1 : St} {k4 : St → Int32 → Int32 → Int32 → Option (Int32 × St)} (C : Cx p rm_X12_severed s m args c D A cX12_severed 4 RX12 rm_X12_severed N) (hE : En p l e rm_X12_severed s m args below meth c Q D A cX12_severed .ireturn (wR N z1) [.int r]) (hk4 : ∀ (s0 : St) (x1 : Int32) (x2 : Int32) (x3 : Int32), k4 s0 x1 x2 x3 = some (r, z1) → Aw p l e rm_X12_severed s m args below meth c Q D A 4 (wR N s0) 4 [(0, .ref (N.1 0)), (1, .int x1), (2, .int x2), (3, .int x3)] []) (s0 : St) (x1 : Int32) (x2 : Int32) (x3 : Int32) (h : F_X12_severed_116 k4 s0 x1 x2 x3 = some (r, z1)) : Aw p l e rm_X12_severed s m args below meth c Q D A 4 (wR N s0) 116 [(0, .ref (N.1 0)), (1, .int x1), (2, .int x2), (3, .int x3)] [] := by
  unfold F_X12_severed_116 at h
  obtain ⟨y1, ey1⟩ : ∃ q : Int32, q = x3 + (1 : Int32) := ⟨_, rfl⟩
  have h := oL_e ey1 h
  refine aw_iinc (v := y1) (k := 3) (lv' := [(0, .ref (N.1 0)), (1, .int x1), (2, .int x2), (3, .int y1)]) C [1, 2, 3, 0] dX12_severed_116 rfl (by rw [ey1]; rfl) (by decide) rfl ?_
  refine aw_goto (tgt := 4) C dX12_severed_119 (by decide) ?_
  refine aw_sub (lv' := [(0, .ref (N.1 0)), (1, .int x1), (2, .int x2), (3, .int y1)]) [0, 1, 2, 3] rfl ?_
  exact hk4 s0 x1 x2 y1 h
def F_X12_severed_68 (k4 : St → Int32 → Int32 → Int32 → Option (Int32 × St)) (s0 : St) (x1 : Int32) (x2 : Int32) (x3 : Int32) : Option (Int32 × St) :=
  oC (f_X12_cells s0) fun w3 =>
  oL w3.1 fun v1 => oL w3.2 fun s2 =>
  if v1 ≤ x3 + (s0.1 22) then (
    F_X12_severed_116 k4 s2 x1 x2 x3)
  else (
    oA (x3 + (s2.1 22)) 25 <|
    if (s2.2.1 9 (Int32.toNatClampNeg (x3 + (s2.1 22)))) = 0 then (
      F_X12_severed_116 k4 s2 x1 x2 x3)
    else (
      oC (f_X12_sideOf s2 x1 x3) fun w7 =>
      oL w7.1 fun v5 => oL w7.2 fun s6 =>
      oC (f_X12_sideOf s6 x1 (x3 + (s6.1 22))) fun w10 =>
      oL w10.1 fun v8 => oL w10.2 fun s9 =>
      if v5 = v8 then (
        F_X12_severed_116 k4 s9 x1 x2 x3)
      else (
        oL (x2 + (1 : Int32)) fun y11 =>
        F_X12_severed_116 k4 s9 x1 y11 x3)))
set_option maxHeartbeats 4000000 in
set_option maxRecDepth 100000 in
theorem T_X12_severed_68 {r : Int32} {z1 : St} {k4 : St → Int32 → Int32 → Int32 → Option (Int32 × St)} (C : Cx p rm_X12_severed s m args c D A cX12_severed 4 RX12 rm_X12_severed N) (hE : En p l e rm_X12_severed s m args below meth c Q D A cX12_severed .ireturn (wR N z1) [.int r]) (hk4 : ∀ (s0 : St) (x1 : Int32) (x2 : Int32) (x3 : Int32), k4 s0 x1 x2 x3 = some (r, z1) → Aw p l e rm_X12_severed s m args below meth c Q D A 4 (wR N s0) 4 [(0, .ref (N.1 0)), (1, .int x1), (2, .int x2), (3, .int x3)] []) (s0 : St) (x1 : Int32) (x2 : Int32) (x3 : Int32) (h : F_X12_severed_68 k4 s0 x1 x2 x3 = some (r, z1)) : Aw p l e rm_X12_severed s m args below meth c Q D A 4 (wR N s0) 68 [(0, .ref (N.1 0)), (1, .int x1), (2, .int x2), (3, .int x3)] [] := by
  unfold F_X12_severed_68 at h
  refine aw_iload_n C 3 dX12_severed_68 rfl ?_
  refine aw_aload_n C 0 dX12_severed_69 rfl ?_
  refine rg_md_wide C lw_9_11 dX12_severed_70 ?_
  refine aw_iadd C dX12_severed_73 ?_
  refine aw_aload_n C 0 dX12_severed_74 rfl ?_
  obtain ⟨⟨v1, s2⟩, cw3, h⟩ := oC_e h
  have h := oL_e (x := s2) rfl (oL_e (x := v1) rfl h)
  refine aw_callVi (n := 0) (As := []) (rest := [.int (x3 + (s0.1 22))]) (q0 := 0) C (c_X12_cells l D N s0 s2 v1 cw3) lw_23_23 lw_24_0 lw_24_1 lw_1_5 lw_24_2 rfl rfl (by decide +kernel) ⟨Nat.le_of_ble_eq_true rfl, Nat.le_of_ble_eq_true rfl⟩ rfl rfl rfl rfl rfl (Nat.le_of_ble_eq_true rfl) dX12_severed_75 ?_
  refine aw_icmp_ge (tgt := 116) C dX12_severed_78 (by decide) (fun q => ?_) (fun q => ?_)
  · have h := bq_t q h
    refine aw_sub (lv' := [(0, .ref (N.1 0)), (1, .int x1), (2, .int x2), (3, .int x3)]) [0, 1, 2, 3] rfl ?_
    exact T_X12_severed_116 C hE hk4 s2 x1 x2 x3 h
  · have h := bq_f q h
    refine aw_aload_n C 0 dX12_severed_81 rfl ?_
    refine rg_md_rail C lw_8_10 dX12_severed_82 ?_
    refine aw_iload_n C 3 dX12_severed_85 rfl ?_
    refine aw_aload_n C 0 dX12_severed_86 rfl ?_
    refine rg_md_wide C lw_9_11 dX12_severed_87 ?_
    refine aw_iadd C dX12_severed_90 ?_
    obtain ⟨q4, h⟩ := oA_e h
    refine ra_zald (k := 9) C (by decide) rfl q4 dX12_severed_91 ?_
    refine aw_if_eq (tgt := 116) C dX12_severed_92 (by decide) (fun q => ?_) (fun q => ?_)
    · have h := bq_t q h
      refine aw_sub (lv' := [(0, .ref (N.1 0)), (1, .int x1), (2, .int x2), (3, .int x3)]) [0, 1, 2, 3] rfl ?_
      exact T_X12_severed_116 C hE hk4 s2 x1 x2 x3 h
    · have h := bq_f q h
      refine aw_iload_n C 1 dX12_severed_95 rfl ?_
      refine aw_iload_n C 3 dX12_severed_96 rfl ?_
      obtain ⟨⟨v5, s6⟩, cw7, h⟩ := oC_e h
      have h := oL_e (x := s6) rfl (oL_e (x := v5) rfl h)
      refine aw_callSi (n := 2) (As := [.int x1, .int x3]) (rest := []) C (c_X12_sideOf l D N s2 s6 x1 x3 v5 cw7) lw_40_7 lw_40_8 lw_1_5 lw_40_9 rfl rfl (by decide +kernel) ⟨Nat.le_of_ble_eq_true rfl, Nat.le_of_ble_eq_true rfl⟩ rfl rfl (Nat.le_of_ble_eq_true rfl) dX12_severed_97 ?_
      refine aw_iload_n C 1 dX12_severed_100 rfl ?_
      refine aw_iload_n C 3 dX12_severed_101 rfl ?_
      refine aw_aload_n C 0 dX12_severed_102 rfl ?_
      refine rg_md_wide C lw_9_11 dX12_severed_103 ?_
      refine aw_iadd C dX12_severed_106 ?_
      obtain ⟨⟨v8, s9⟩, cw10, h⟩ := oC_e h
      have h := oL_e (x := s9) rfl (oL_e (x := v8) rfl h)
      refine aw_callSi (n := 2) (As := [.int x1, .int (x3 + (s6.1 22))]) (rest := [.int v5]) C (c_X12_sideOf l D N s6 s9 x1 (x3 + (s6.1 22)) v8 cw10) lw_40_7 lw_40_8 lw_1_5 lw_40_9 rfl rfl (by decide +kernel) ⟨Nat.le_of_ble_eq_true rfl, Nat.le_of_ble_eq_true rfl⟩ rfl rfl (Nat.le_of_ble_eq_true rfl) dX12_severed_107 ?_
      refine aw_icmp_eq (tgt := 116) C dX12_severed_110 (by decide) (fun q => ?_) (fun q => ?_)
      · have h := bq_t q h
        refine aw_sub (lv' := [(0, .ref (N.1 0)), (1, .int x1), (2, .int x2), (3, .int x3)]) [0, 1, 2, 3] rfl ?_
        exact T_X12_severed_116 C hE hk4 s9 x1 x2 x3 h
      · have h := bq_f q h
        obtain ⟨y11, ey11⟩ : ∃ q : Int32, q = x2 + (1 : Int32) := ⟨_, rfl⟩
        have h := oL_e ey11 h
        refine aw_iinc (v := y11) (k := 2) (lv' := [(0, .ref (N.1 0)), (1, .int x1), (2, .int y11), (3, .int x3)]) C [1, 2, 0, 3] dX12_severed_113 rfl (by rw [ey11]; rfl) (by decide) rfl ?_
        refine aw_sub (lv' := [(0, .ref (N.1 0)), (1, .int x1), (2, .int y11), (3, .int x3)]) [0, 1, 2, 3] rfl ?_
        exact T_X12_severed_116 C hE hk4 s9 x1 y11 x3 h
def F_X12_severed_4_b (k4 : St → Int32 → Int32 → Int32 → Option (Int32 × St)) (s0 : St) (x1 : Int32) (x2 : Int32) (x3 : Int32) : Option (Int32 × St) :=
  oC (f_X12_cells s0) fun w3 =>
  oL w3.1 fun v1 => oL w3.2 fun s2 =>
  if v1 ≤ x3 then (
    some (x2, s2))
  else (
    oA x3 25 <|
    if (s2.2.1 9 (Int32.toNatClampNeg x3)) = 0 then (
      F_X12_severed_116 k4 s2 x1 x2 x3)
    else (
      oD (s2.1 22) <|
      if (s2.1 22) - (1 : Int32) ≤ x3 - x3 / (s2.1 22) * (s2.1 22) then (
        F_X12_severed_68 k4 s2 x1 x2 x3)
      else (
        oA (x3 + (1 : Int32)) 25 <|
        if (s2.2.1 9 (Int32.toNatClampNeg (x3 + (1 : Int32)))) = 0 then (
          F_X12_severed_68 k4 s2 x1 x2 x3)
        else (
          oC (f_X12_sideOf s2 x1 x3) fun w9 =>
          oL w9.1 fun v7 => oL w9.2 fun s8 =>
          oC (f_X12_sideOf s8 x1 (x3 + (1 : Int32))) fun w12 =>
          oL w12.1 fun v10 => oL w12.2 fun s11 =>
          if v7 = v10 then (
            F_X12_severed_68 k4 s11 x1 x2 x3)
          else (
            oL (x2 + (1 : Int32)) fun y13 =>
            F_X12_severed_68 k4 s11 x1 y13 x3)))))
set_option maxHeartbeats 4000000 in
set_option maxRecDepth 100000 in
theorem T_X12_severed_4_b {r : Int32} {z1 : St} {k4 : St → Int32 → Int32 → Int32 → Option (Int32 × St)} (C : Cx p rm_X12_severed s m args c D A cX12_severed 4 RX12 rm_X12_severed N) (hE : En p l e rm_X12_severed s m args below meth c Q D A cX12_severed .ireturn (wR N z1) [.int r]) (hk4 : ∀ (s0 : St) (x1 : Int32) (x2 : Int32) (x3 : Int32), k4 s0 x1 x2 x3 = some (r, z1) → Aw p l e rm_X12_severed s m args below meth c Q D A 4 (wR N s0) 4 [(0, .ref (N.1 0)), (1, .int x1), (2, .int x2), (3, .int x3)] []) (s0 : St) (x1 : Int32) (x2 : Int32) (x3 : Int32) (h : F_X12_severed_4_b k4 s0 x1 x2 x3 = some (r, z1)) : Aw p l e rm_X12_severed s m args below meth c Q D A 4 (wR N s0) 4 [(0, .ref (N.1 0)), (1, .int x1), (2, .int x2), (3, .int x3)] [] := by
  unfold F_X12_severed_4_b at h
  refine aw_iload_n C 3 dX12_severed_4 rfl ?_
  refine aw_aload_n C 0 dX12_severed_5 rfl ?_
  obtain ⟨⟨v1, s2⟩, cw3, h⟩ := oC_e h
  have h := oL_e (x := s2) rfl (oL_e (x := v1) rfl h)
  refine aw_callVi (n := 0) (As := []) (rest := [.int x3]) (q0 := 0) C (c_X12_cells l D N s0 s2 v1 cw3) lw_23_23 lw_24_0 lw_24_1 lw_1_5 lw_24_2 rfl rfl (by decide +kernel) ⟨Nat.le_of_ble_eq_true rfl, Nat.le_of_ble_eq_true rfl⟩ rfl rfl rfl rfl rfl (Nat.le_of_ble_eq_true rfl) dX12_severed_6 ?_
  refine aw_icmp_ge (tgt := 122) C dX12_severed_9 (by decide) (fun q => ?_) (fun q => ?_)
  · have h := bq_t q h
    refine aw_iload_n C 2 dX12_severed_122 rfl ?_
    cases h
    exact aw_ret hE dX12_severed_123
  · have h := bq_f q h
    refine aw_aload_n C 0 dX12_severed_12 rfl ?_
    refine rg_md_rail C lw_8_10 dX12_severed_13 ?_
    refine aw_iload_n C 3 dX12_severed_16 rfl ?_
    obtain ⟨q4, h⟩ := oA_e h
    refine ra_zald (k := 9) C (by decide) rfl q4 dX12_severed_17 ?_
    refine aw_if_ne (tgt := 24) C dX12_severed_18 (by decide) (fun q => ?_) (fun q => ?_)
    · have h := bq_f q h
      refine aw_iload_n C 3 dX12_severed_24 rfl ?_
      refine aw_aload_n C 0 dX12_severed_25 rfl ?_
      refine rg_md_wide C lw_9_11 dX12_severed_26 ?_
      obtain ⟨q5, h⟩ := oD_e h
      refine aw_irem C dX12_severed_29 q5 ?_
      refine aw_aload_n C 0 dX12_severed_30 rfl ?_
      refine rg_md_wide C lw_9_11 dX12_severed_31 ?_
      refine aw_iconst (v := 1) C dX12_severed_34 (by decide) ?_
      refine aw_isub C dX12_severed_35 ?_
      refine aw_icmp_ge (tgt := 68) C dX12_severed_36 (by decide) (fun q => ?_) (fun q => ?_)
      · have h := bq_t q h
        refine aw_sub (lv' := [(0, .ref (N.1 0)), (1, .int x1), (2, .int x2), (3, .int x3)]) [0, 1, 2, 3] rfl ?_
        exact T_X12_severed_68 C hE hk4 s2 x1 x2 x3 h
      · have h := bq_f q h
        refine aw_aload_n C 0 dX12_severed_39 rfl ?_
        refine rg_md_rail C lw_8_10 dX12_severed_40 ?_
        refine aw_iload_n C 3 dX12_severed_43 rfl ?_
        refine aw_iconst (v := 1) C dX12_severed_44 (by decide) ?_
        refine aw_iadd C dX12_severed_45 ?_
        obtain ⟨q6, h⟩ := oA_e h
        refine ra_zald (k := 9) C (by decide) rfl q6 dX12_severed_46 ?_
        refine aw_if_eq (tgt := 68) C dX12_severed_47 (by decide) (fun q => ?_) (fun q => ?_)
        · have h := bq_t q h
          refine aw_sub (lv' := [(0, .ref (N.1 0)), (1, .int x1), (2, .int x2), (3, .int x3)]) [0, 1, 2, 3] rfl ?_
          exact T_X12_severed_68 C hE hk4 s2 x1 x2 x3 h
        · have h := bq_f q h
          refine aw_iload_n C 1 dX12_severed_50 rfl ?_
          refine aw_iload_n C 3 dX12_severed_51 rfl ?_
          obtain ⟨⟨v7, s8⟩, cw9, h⟩ := oC_e h
          have h := oL_e (x := s8) rfl (oL_e (x := v7) rfl h)
          refine aw_callSi (n := 2) (As := [.int x1, .int x3]) (rest := []) C (c_X12_sideOf l D N s2 s8 x1 x3 v7 cw9) lw_40_7 lw_40_8 lw_1_5 lw_40_9 rfl rfl (by decide +kernel) ⟨Nat.le_of_ble_eq_true rfl, Nat.le_of_ble_eq_true rfl⟩ rfl rfl (Nat.le_of_ble_eq_true rfl) dX12_severed_52 ?_
          refine aw_iload_n C 1 dX12_severed_55 rfl ?_
          refine aw_iload_n C 3 dX12_severed_56 rfl ?_
          refine aw_iconst (v := 1) C dX12_severed_57 (by decide) ?_
          refine aw_iadd C dX12_severed_58 ?_
          obtain ⟨⟨v10, s11⟩, cw12, h⟩ := oC_e h
          have h := oL_e (x := s11) rfl (oL_e (x := v10) rfl h)
          refine aw_callSi (n := 2) (As := [.int x1, .int (x3 + (1 : Int32))]) (rest := [.int v7]) C (c_X12_sideOf l D N s8 s11 x1 (x3 + (1 : Int32)) v10 cw12) lw_40_7 lw_40_8 lw_1_5 lw_40_9 rfl rfl (by decide +kernel) ⟨Nat.le_of_ble_eq_true rfl, Nat.le_of_ble_eq_true rfl⟩ rfl rfl (Nat.le_of_ble_eq_true rfl) dX12_severed_59 ?_
          refine aw_icmp_eq (tgt := 68) C dX12_severed_62 (by decide) (fun q => ?_) (fun q => ?_)
          · have h := bq_t q h
            refine aw_sub (lv' := [(0, .ref (N.1 0)), (1, .int x1), (2, .int x2), (3, .int x3)]) [0, 1, 2, 3] rfl ?_
            exact T_X12_severed_68 C hE hk4 s11 x1 x2 x3 h
          · have h := bq_f q h
            obtain ⟨y13, ey13⟩ : ∃ q : Int32, q = x2 + (1 : Int32) := ⟨_, rfl⟩
            have h := oL_e ey13 h
            refine aw_iinc (v := y13) (k := 2) (lv' := [(0, .ref (N.1 0)), (1, .int x1), (2, .int y13), (3, .int x3)]) C [1, 2, 0, 3] dX12_severed_65 rfl (by rw [ey13]; rfl) (by decide) rfl ?_
            refine aw_sub (lv' := [(0, .ref (N.1 0)), (1, .int x1), (2, .int y13), (3, .int x3)]) [0, 1, 2, 3] rfl ?_
            exact T_X12_severed_68 C hE hk4 s11 x1 y13 x3 h
    · have h := bq_t q h
      refine aw_goto (tgt := 116) C dX12_severed_21 (by decide) ?_
      refine aw_sub (lv' := [(0, .ref (N.1 0)), (1, .int x1), (2, .int x2), (3, .int x3)]) [0, 1, 2, 3] rfl ?_
      exact T_X12_severed_116 C hE hk4 s2 x1 x2 x3 h
def F_X12_severed_4 : Nat → St → Int32 → Int32 → Int32 → Option (Int32 × St)
  | 0 => fun _ _ _ _ => none
  | n + 1 => F_X12_severed_4_b (F_X12_severed_4 n)
theorem T_X12_severed_4 {r : Int32} {z1 : St} (C : Cx p rm_X12_severed s m args c D A cX12_severed 4 RX12 rm_X12_severed N) (hE : En p l e rm_X12_severed s m args below meth c Q D A cX12_severed .ireturn (wR N z1) [.int r])  : ∀ (n : Nat) (s0 : St) (x1 : Int32) (x2 : Int32) (x3 : Int32), F_X12_severed_4 n s0 x1 x2 x3 = some (r, z1) → Aw p l e rm_X12_severed s m args below meth c Q D A 4 (wR N s0) 4 [(0, .ref (N.1 0)), (1, .int x1), (2, .int x2), (3, .int x3)] [] := by
  intro n
  induction n with
  | zero => intro s0 x1 x2 x3 h; cases h
  | succ n ih => intro s0 x1 x2 x3 h; exact T_X12_severed_4_b C hE ih s0 x1 x2 x3 h
def F_X12_severed_0 (s0 : St) (x1 : Int32) : Option (Int32 × St) :=
  oL (0 : Int32) fun y1 =>
  oL (0 : Int32) fun y2 =>
  F_X12_severed_4 100000 s0 x1 y1 y2
set_option maxHeartbeats 4000000 in
set_option maxRecDepth 100000 in
theorem T_X12_severed_0 {r : Int32} {z1 : St} (C : Cx p rm_X12_severed s m args c D A cX12_severed 4 RX12 rm_X12_severed N) (hE : En p l e rm_X12_severed s m args below meth c Q D A cX12_severed .ireturn (wR N z1) [.int r])  (s0 : St) (x1 : Int32) (h : F_X12_severed_0 s0 x1 = some (r, z1)) : Aw p l e rm_X12_severed s m args below meth c Q D A 4 (wR N s0) 0 [(0, .ref (N.1 0)), (1, .int x1)] [] := by
  unfold F_X12_severed_0 at h
  refine aw_iconst (v := 0) C dX12_severed_0 (by decide) ?_
  refine aw_topi (fun y1 ey1 => ?_)
  have h := oL_e ey1 h
  refine aw_istore_n (lv' := [(0, .ref (N.1 0)), (1, .int x1), (2, .int y1)]) C [1, 2, 0] dX12_severed_1 rfl (by decide) rfl ?_
  refine aw_iconst (v := 0) C dX12_severed_2 (by decide) ?_
  refine aw_topi (fun y2 ey2 => ?_)
  have h := oL_e ey2 h
  refine aw_istore_n (lv' := [(0, .ref (N.1 0)), (1, .int x1), (2, .int y1), (3, .int y2)]) C [1, 2, 3, 0] dX12_severed_3 rfl (by decide) rfl ?_
  refine aw_sub (lv' := [(0, .ref (N.1 0)), (1, .int x1), (2, .int y1), (3, .int y2)]) [0, 1, 2, 3] rfl ?_
  exact T_X12_severed_4 C hE 100000 s0 x1 y1 y2 h
def f_X12_severed (s0 : St) (x1 : Int32) : Option (Int32 × St) := F_X12_severed_0 s0 x1
theorem c_X12_severed (l : Launch) (D : va_G) (N : Nm) (s0 z1 : St) (x1 : Int32) (r : Int32) (h : f_X12_severed s0 x1 = some (r, z1)) : Meti l yX12_severed (tsU yX12_severed cX12_severed 4 (some .int)) rm_X12_severed D N [.ref (N.1 0), .int x1] (wR N s0) r (wR N z1) :=
  met_i (cc := cX12_severed) (nL := 4) (own := RX12) (by decide) rfl (Nat.le_of_ble_eq_true rfl) (fun p e s m args below meth c Q A C hE => aw_sub [0, 1] rfl (T_X12_severed_0 C hE s0 x1 h))
/-! AwardLineModel.desecrated(I)I -/
def rm_X12_desecrated : Room := { frames := 1, cells := 0, slots := 0, locals := 21 }
def F_X12_desecrated_41 (k4 : St → Int32 → Int32 → Int32 → Option (Int32 × St)) (s0 : St) (x1 : Int32) (x3 : Int32) (t0 : Int32) (t1 : Int32) : Option (Int32 × St) :=
  oL (t1 + t0) fun y1 =>
  oL (x3 + (1 : Int32)) fun y2 =>
  k4 s0 x1 y1 y2
set_option maxHeartbeats 4000000 in
set_option maxRecDepth 100000 in
theorem T_X12_desecrated_41 {r : Int32} {z1 : St} {k4 : St → Int32 → Int32 → Int32 → Option (Int32 × St)} (C : Cx p rm_X12_desecrated s m args c D A cX12_desecrated 4 RX12 rm_X12_desecrated N) (hE : En p l e rm_X12_desecrated s m args below meth c Q D A cX12_desecrated .ireturn (wR N z1) [.int r]) (hk4 : ∀ (s0 : St) (x1 : Int32) (x2 : Int32) (x3 : Int32), k4 s0 x1 x2 x3 = some (r, z1) → Aw p l e rm_X12_desecrated s m args below meth c Q D A 4 (wR N s0) 4 [(0, .ref (N.1 0)), (1, .int x1), (2, .int x2), (3, .int x3)] []) (s0 : St) (x1 : Int32) (x3 : Int32) (t0 : Int32) (t1 : Int32) (h : F_X12_desecrated_41 k4 s0 x1 x3 t0 t1 = some (r, z1)) : Aw p l e rm_X12_desecrated s m args below meth c Q D A 4 (wR N s0) 41 [(0, .ref (N.1 0)), (1, .int x1), (3, .int x3)] [.int t0, .int t1] := by
  unfold F_X12_desecrated_41 at h
  refine aw_iadd C dX12_desecrated_41 ?_
  refine aw_topi (fun y1 ey1 => ?_)
  have h := oL_e ey1 h
  refine aw_istore_n (lv' := [(0, .ref (N.1 0)), (1, .int x1), (2, .int y1), (3, .int x3)]) C [1, 2, 0, 3] dX12_desecrated_42 rfl (by decide) rfl ?_
  obtain ⟨y2, ey2⟩ : ∃ q : Int32, q = x3 + (1 : Int32) := ⟨_, rfl⟩
  have h := oL_e ey2 h
  refine aw_iinc (v := y2) (k := 3) (lv' := [(0, .ref (N.1 0)), (1, .int x1), (2, .int y1), (3, .int y2)]) C [1, 2, 3, 0] dX12_desecrated_43 rfl (by rw [ey2]; rfl) (by decide) rfl ?_
  refine aw_goto (tgt := 4) C dX12_desecrated_46 (by decide) ?_
  refine aw_sub (lv' := [(0, .ref (N.1 0)), (1, .int x1), (2, .int y1), (3, .int y2)]) [0, 1, 2, 3] rfl ?_
  exact hk4 s0 x1 y1 y2 h
def F_X12_desecrated_40 (k4 : St → Int32 → Int32 → Int32 → Option (Int32 × St)) (s0 : St) (x1 : Int32) (x3 : Int32) (t0 : Int32) : Option (Int32 × St) :=
  F_X12_desecrated_41 k4 s0 x1 x3 (0 : Int32) t0
set_option maxHeartbeats 4000000 in
set_option maxRecDepth 100000 in
theorem T_X12_desecrated_40 {r : Int32} {z1 : St} {k4 : St → Int32 → Int32 → Int32 → Option (Int32 × St)} (C : Cx p rm_X12_desecrated s m args c D A cX12_desecrated 4 RX12 rm_X12_desecrated N) (hE : En p l e rm_X12_desecrated s m args below meth c Q D A cX12_desecrated .ireturn (wR N z1) [.int r]) (hk4 : ∀ (s0 : St) (x1 : Int32) (x2 : Int32) (x3 : Int32), k4 s0 x1 x2 x3 = some (r, z1) → Aw p l e rm_X12_desecrated s m args below meth c Q D A 4 (wR N s0) 4 [(0, .ref (N.1 0)), (1, .int x1), (2, .int x2), (3, .int x3)] []) (s0 : St) (x1 : Int32) (x3 : Int32) (t0 : Int32) (h : F_X12_desecrated_40 k4 s0 x1 x3 t0 = some (r, z1)) : Aw p l e rm_X12_desecrated s m args below meth c Q D A 4 (wR N s0) 40 [(0, .ref (N.1 0)), (1, .int x1), (3, .int x3)] [.int t0] := by
  unfold F_X12_desecrated_40 at h
  refine aw_iconst (v := 0) C dX12_desecrated_40 (by decide) ?_
  refine aw_sub (lv' := [(0, .ref (N.1 0)), (1, .int x1), (3, .int x3)]) [0, 1, 2] rfl ?_
  exact T_X12_desecrated_41 C hE hk4 s0 x1 x3 (0 : Int32) t0 h
def F_X12_desecrated_4_b (k4 : St → Int32 → Int32 → Int32 → Option (Int32 × St)) (s0 : St) (x1 : Int32) (x2 : Int32) (x3 : Int32) : Option (Int32 × St) :=
  oC (f_X12_cells s0) fun w3 =>
  oL w3.1 fun v1 => oL w3.2 fun s2 =>
  if v1 ≤ x3 then (
    some (x2, s2))
  else (
    oA x3 25 <|
    if (s2.2.1 8 (Int32.toNatClampNeg x3)) < 0 then (
      F_X12_desecrated_40 k4 s2 x1 x3 x2)
    else (
      oA x3 25 <|
      oC (f_X12_sideOf s2 x1 x3) fun w8 =>
      oL w8.1 fun v6 => oL w8.2 fun s7 =>
      if (s2.2.1 8 (Int32.toNatClampNeg x3)) = v6 then (
        F_X12_desecrated_40 k4 s7 x1 x3 x2)
      else (
        F_X12_desecrated_41 k4 s7 x1 x3 (1 : Int32) x2)))
set_option maxHeartbeats 4000000 in
set_option maxRecDepth 100000 in
theorem T_X12_desecrated_4_b {r : Int32} {z1 : St} {k4 : St → Int32 → Int32 → Int32 → Option (Int32 × St)} (C : Cx p rm_X12_desecrated s m args c D A cX12_desecrated 4 RX12 rm_X12_desecrated N) (hE : En p l e rm_X12_desecrated s m args below meth c Q D A cX12_desecrated .ireturn (wR N z1) [.int r]) (hk4 : ∀ (s0 : St) (x1 : Int32) (x2 : Int32) (x3 : Int32), k4 s0 x1 x2 x3 = some (r, z1) → Aw p l e rm_X12_desecrated s m args below meth c Q D A 4 (wR N s0) 4 [(0, .ref (N.1 0)), (1, .int x1), (2, .int x2), (3, .int x3)] []) (s0 : St) (x1 : Int32) (x2 : Int32) (x3 : Int32) (h : F_X12_desecrated_4_b k4 s0 x1 x2 x3 = some (r, z1)) : Aw p l e rm_X12_desecrated s m args below meth c Q D A 4 (wR N s0) 4 [(0, .ref (N.1 0)), (1, .int x1), (2, .int x2), (3, .int x3)] [] := by
  unfold F_X12_desecrated_4_b at h
  refine aw_iload_n C 3 dX12_desecrated_4 rfl ?_
  refine aw_aload_n C 0 dX12_desecrated_5 rfl ?_
  obtain ⟨⟨v1, s2⟩, cw3, h⟩ := oC_e h
  have h := oL_e (x := s2) rfl (oL_e (x := v1) rfl h)
  refine aw_callVi (n := 0) (As := []) (rest := [.int x3]) (q0 := 0) C (c_X12_cells l D N s0 s2 v1 cw3) lw_23_23 lw_24_0 lw_24_1 lw_1_5 lw_24_2 rfl rfl (by decide +kernel) ⟨Nat.le_of_ble_eq_true rfl, Nat.le_of_ble_eq_true rfl⟩ rfl rfl rfl rfl rfl (Nat.le_of_ble_eq_true rfl) dX12_desecrated_6 ?_
  refine aw_icmp_ge (tgt := 49) C dX12_desecrated_9 (by decide) (fun q => ?_) (fun q => ?_)
  · have h := bq_t q h
    refine aw_iload_n C 2 dX12_desecrated_49 rfl ?_
    cases h
    exact aw_ret hE dX12_desecrated_50
  · have h := bq_f q h
    refine aw_iload_n C 2 dX12_desecrated_12 rfl ?_
    refine aw_aload_n C 0 dX12_desecrated_13 rfl ?_
    refine rg_md_shrine C lw_8_9 dX12_desecrated_14 ?_
    refine aw_iload_n C 3 dX12_desecrated_17 rfl ?_
    obtain ⟨q4, h⟩ := oA_e h
    refine ra_iald (k := 8) C (by decide) rfl q4 dX12_desecrated_18 ?_
    refine aw_if_lt (tgt := 40) C dX12_desecrated_19 (by decide) (fun q => ?_) (fun q => ?_)
    · have h := bq_t q h
      refine aw_sub (lv' := [(0, .ref (N.1 0)), (1, .int x1), (3, .int x3)]) [0, 1, 3] rfl ?_
      exact T_X12_desecrated_40 C hE hk4 s2 x1 x3 x2 h
    · have h := bq_f q h
      refine aw_aload_n C 0 dX12_desecrated_22 rfl ?_
      refine rg_md_shrine C lw_8_9 dX12_desecrated_23 ?_
      refine aw_iload_n C 3 dX12_desecrated_26 rfl ?_
      obtain ⟨q5, h⟩ := oA_e h
      refine ra_iald (k := 8) C (by decide) rfl q5 dX12_desecrated_27 ?_
      refine aw_iload_n C 1 dX12_desecrated_28 rfl ?_
      refine aw_iload_n C 3 dX12_desecrated_29 rfl ?_
      obtain ⟨⟨v6, s7⟩, cw8, h⟩ := oC_e h
      have h := oL_e (x := s7) rfl (oL_e (x := v6) rfl h)
      refine aw_callSi (n := 2) (As := [.int x1, .int x3]) (rest := [.int (s2.2.1 8 (Int32.toNatClampNeg x3)), .int x2]) C (c_X12_sideOf l D N s2 s7 x1 x3 v6 cw8) lw_40_7 lw_40_8 lw_1_5 lw_40_9 rfl rfl (by decide +kernel) ⟨Nat.le_of_ble_eq_true rfl, Nat.le_of_ble_eq_true rfl⟩ rfl rfl (Nat.le_of_ble_eq_true rfl) dX12_desecrated_30 ?_
      refine aw_icmp_eq (tgt := 40) C dX12_desecrated_33 (by decide) (fun q => ?_) (fun q => ?_)
      · have h := bq_t q h
        refine aw_sub (lv' := [(0, .ref (N.1 0)), (1, .int x1), (3, .int x3)]) [0, 1, 3] rfl ?_
        exact T_X12_desecrated_40 C hE hk4 s7 x1 x3 x2 h
      · have h := bq_f q h
        refine aw_iconst (v := 1) C dX12_desecrated_36 (by decide) ?_
        refine aw_goto (tgt := 41) C dX12_desecrated_37 (by decide) ?_
        refine aw_sub (lv' := [(0, .ref (N.1 0)), (1, .int x1), (3, .int x3)]) [0, 1, 3] rfl ?_
        exact T_X12_desecrated_41 C hE hk4 s7 x1 x3 (1 : Int32) x2 h
def F_X12_desecrated_4 : Nat → St → Int32 → Int32 → Int32 → Option (Int32 × St)
  | 0 => fun _ _ _ _ => none
  | n + 1 => F_X12_desecrated_4_b (F_X12_desecrated_4 n)
theorem T_X12_desecrated_4 {r : Int32} {z1 : St} (C : Cx p rm_X12_desecrated s m args c D A cX12_desecrated 4 RX12 rm_X12_desecrated N) (hE : En p l e rm_X12_desecrated s m args below meth c Q D A cX12_desecrated .ireturn (wR N z1) [.int r])  : ∀ (n : Nat) (s0 : St) (x1 : Int32) (x2 : Int32) (x3 : Int32), F_X12_desecrated_4 n s0 x1 x2 x3 = some (r, z1) → Aw p l e rm_X12_desecrated s m args below meth c Q D A 4 (wR N s0) 4 [(0, .ref (N.1 0)), (1, .int x1), (2, .int x2), (3, .int x3)] [] := by
  intro n
  induction n with
  | zero => intro s0 x1 x2 x3 h; cases h
  | succ n ih => intro s0 x1 x2 x3 h; exact T_X12_desecrated_4_b C hE ih s0 x1 x2 x3 h
def F_X12_desecrated_0 (s0 : St) (x1 : Int32) : Option (Int32 × St) :=
  oL (0 : Int32) fun y1 =>
  oL (0 : Int32) fun y2 =>
  F_X12_desecrated_4 100000 s0 x1 y1 y2
set_option maxHeartbeats 4000000 in
set_option maxRecDepth 100000 in
theorem T_X12_desecrated_0 {r : Int32} {z1 : St} (C : Cx p rm_X12_desecrated s m args c D A cX12_desecrated 4 RX12 rm_X12_desecrated N) (hE : En p l e rm_X12_desecrated s m args below meth c Q D A cX12_desecrated .ireturn (wR N z1) [.int r])  (s0 : St) (x1 : Int32) (h : F_X12_desecrated_0 s0 x1 = some (r, z1)) : Aw p l e rm_X12_desecrated s m args below meth c Q D A 4 (wR N s0) 0 [(0, .ref (N.1 0)), (1, .int x1)] [] := by
  unfold F_X12_desecrated_0 at h
  refine aw_iconst (v := 0) C dX12_desecrated_0 (by decide) ?_
  refine aw_topi (fun y1 ey1 => ?_)
  have h := oL_e ey1 h
  refine aw_istore_n (lv' := [(0, .ref (N.1 0)), (1, .int x1), (2, .int y1)]) C [1, 2, 0] dX12_desecrated_1 rfl (by decide) rfl ?_
  refine aw_iconst (v := 0) C dX12_desecrated_2 (by decide) ?_
  refine aw_topi (fun y2 ey2 => ?_)
  have h := oL_e ey2 h
  refine aw_istore_n (lv' := [(0, .ref (N.1 0)), (1, .int x1), (2, .int y1), (3, .int y2)]) C [1, 2, 3, 0] dX12_desecrated_3 rfl (by decide) rfl ?_
  refine aw_sub (lv' := [(0, .ref (N.1 0)), (1, .int x1), (2, .int y1), (3, .int y2)]) [0, 1, 2, 3] rfl ?_
  exact T_X12_desecrated_4 C hE 100000 s0 x1 y1 y2 h
def f_X12_desecrated (s0 : St) (x1 : Int32) : Option (Int32 × St) := F_X12_desecrated_0 s0 x1
theorem c_X12_desecrated (l : Launch) (D : va_G) (N : Nm) (s0 z1 : St) (x1 : Int32) (r : Int32) (h : f_X12_desecrated s0 x1 = some (r, z1)) : Meti l yX12_desecrated (tsU yX12_desecrated cX12_desecrated 4 (some .int)) rm_X12_desecrated D N [.ref (N.1 0), .int x1] (wR N s0) r (wR N z1) :=
  met_i (cc := cX12_desecrated) (nL := 4) (own := RX12) (by decide) rfl (Nat.le_of_ble_eq_true rfl) (fun p e s m args below meth c Q A C hE => aw_sub [0, 1] rfl (T_X12_desecrated_0 C hE s0 x1 h))
/-! AwardLineModel.harm(I)I -/
def rm_X12_harm : Room := { frames := 2, cells := 0, slots := 0, locals := 45 }
def F_X12_harm_0 (s0 : St) (x1 : Int32) : Option (Int32 × St) :=
  oC (f_X12_wrongOnes s0 x1) fun w3 =>
  oL w3.1 fun v1 => oL w3.2 fun s2 =>
  oA (1 : Int32) 12 <|
  oC (f_X12_desecrated s2 x1) fun w7 =>
  oL w7.1 fun v5 => oL w7.2 fun s6 =>
  oA (2 : Int32) 12 <|
  oC (f_X12_severed s6 x1) fun w11 =>
  oL w11.1 fun v9 => oL w11.2 fun s10 =>
  oA (3 : Int32) 12 <|
  oC (f_X12_cutOf s10 x1) fun w15 =>
  oL w15.1 fun v13 => oL w15.2 fun s14 =>
  some (((v1 + ((s2.2.1 3 (Int32.toNatClampNeg (1 : Int32))) * v5)) + ((s6.2.1 3 (Int32.toNatClampNeg (2 : Int32))) * v9)) + ((s10.2.1 3 (Int32.toNatClampNeg (3 : Int32))) * v13), s14)
set_option maxHeartbeats 4000000 in
set_option maxRecDepth 100000 in
theorem T_X12_harm_0 {r : Int32} {z1 : St} (C : Cx p rm_X12_harm s m args c D A cX12_harm 2 RX12 rm_X12_harm N) (hE : En p l e rm_X12_harm s m args below meth c Q D A cX12_harm .ireturn (wR N z1) [.int r])  (s0 : St) (x1 : Int32) (h : F_X12_harm_0 s0 x1 = some (r, z1)) : Aw p l e rm_X12_harm s m args below meth c Q D A 2 (wR N s0) 0 [(0, .ref (N.1 0)), (1, .int x1)] [] := by
  unfold F_X12_harm_0 at h
  refine aw_aload_n C 0 dX12_harm_0 rfl ?_
  refine aw_iload_n C 1 dX12_harm_1 rfl ?_
  obtain ⟨⟨v1, s2⟩, cw3, h⟩ := oC_e h
  have h := oL_e (x := s2) rfl (oL_e (x := v1) rfl h)
  refine aw_callVi (n := 1) (As := [.int x1]) (rest := []) (q0 := 0) C (c_X12_wrongOnes l D N s0 s2 x1 v1 cw3) lw_40_3 lw_40_4 lw_40_5 lw_1_5 lw_40_6 rfl rfl (by decide +kernel) ⟨Nat.le_of_ble_eq_true rfl, Nat.le_of_ble_eq_true rfl⟩ rfl rfl rfl rfl rfl (Nat.le_of_ble_eq_true rfl) dX12_harm_2 ?_
  refine aw_aload_n C 0 dX12_harm_5 rfl ?_
  refine rg_md_rule C lw_8_3 dX12_harm_6 ?_
  refine aw_iconst (v := 1) C dX12_harm_9 (by decide) ?_
  obtain ⟨q4, h⟩ := oA_e h
  refine ra_iald (k := 3) C (by decide) rfl q4 dX12_harm_10 ?_
  refine aw_aload_n C 0 dX12_harm_11 rfl ?_
  refine aw_iload_n C 1 dX12_harm_12 rfl ?_
  obtain ⟨⟨v5, s6⟩, cw7, h⟩ := oC_e h
  have h := oL_e (x := s6) rfl (oL_e (x := v5) rfl h)
  refine aw_callVi (n := 1) (As := [.int x1]) (rest := [.int (s2.2.1 3 (Int32.toNatClampNeg (1 : Int32))), .int v1]) (q0 := 0) C (c_X12_desecrated l D N s2 s6 x1 v5 cw7) lw_41_6 lw_41_7 lw_41_8 lw_1_5 lw_41_9 rfl rfl (by decide +kernel) ⟨Nat.le_of_ble_eq_true rfl, Nat.le_of_ble_eq_true rfl⟩ rfl rfl rfl rfl rfl (Nat.le_of_ble_eq_true rfl) dX12_harm_13 ?_
  refine aw_imul C dX12_harm_16 ?_
  refine aw_iadd C dX12_harm_17 ?_
  refine aw_aload_n C 0 dX12_harm_18 rfl ?_
  refine rg_md_rule C lw_8_3 dX12_harm_19 ?_
  refine aw_iconst (v := 2) C dX12_harm_22 (by decide) ?_
  obtain ⟨q8, h⟩ := oA_e h
  refine ra_iald (k := 3) C (by decide) rfl q8 dX12_harm_23 ?_
  refine aw_aload_n C 0 dX12_harm_24 rfl ?_
  refine aw_iload_n C 1 dX12_harm_25 rfl ?_
  obtain ⟨⟨v9, s10⟩, cw11, h⟩ := oC_e h
  have h := oL_e (x := s10) rfl (oL_e (x := v9) rfl h)
  refine aw_callVi (n := 1) (As := [.int x1]) (rest := [.int (s6.2.1 3 (Int32.toNatClampNeg (2 : Int32))), .int (v1 + ((s2.2.1 3 (Int32.toNatClampNeg (1 : Int32))) * v5))]) (q0 := 0) C (c_X12_severed l D N s6 s10 x1 v9 cw11) lw_41_2 lw_41_3 lw_41_4 lw_1_5 lw_41_5 rfl rfl (by decide +kernel) ⟨Nat.le_of_ble_eq_true rfl, Nat.le_of_ble_eq_true rfl⟩ rfl rfl rfl rfl rfl (Nat.le_of_ble_eq_true rfl) dX12_harm_26 ?_
  refine aw_imul C dX12_harm_29 ?_
  refine aw_iadd C dX12_harm_30 ?_
  refine aw_aload_n C 0 dX12_harm_31 rfl ?_
  refine rg_md_rule C lw_8_3 dX12_harm_32 ?_
  refine aw_iconst (v := 3) C dX12_harm_35 (by decide) ?_
  obtain ⟨q12, h⟩ := oA_e h
  refine ra_iald (k := 3) C (by decide) rfl q12 dX12_harm_36 ?_
  refine aw_aload_n C 0 dX12_harm_37 rfl ?_
  refine aw_iload_n C 1 dX12_harm_38 rfl ?_
  obtain ⟨⟨v13, s14⟩, cw15, h⟩ := oC_e h
  have h := oL_e (x := s14) rfl (oL_e (x := v13) rfl h)
  refine aw_callVi (n := 1) (As := [.int x1]) (rest := [.int (s10.2.1 3 (Int32.toNatClampNeg (3 : Int32))), .int ((v1 + ((s2.2.1 3 (Int32.toNatClampNeg (1 : Int32))) * v5)) + ((s6.2.1 3 (Int32.toNatClampNeg (2 : Int32))) * v9))]) (q0 := 0) C (c_X12_cutOf l D N s10 s14 x1 v13 cw15) lw_40_22 lw_40_23 lw_41_0 lw_1_5 lw_41_1 rfl rfl (by decide +kernel) ⟨Nat.le_of_ble_eq_true rfl, Nat.le_of_ble_eq_true rfl⟩ rfl rfl rfl rfl rfl (Nat.le_of_ble_eq_true rfl) dX12_harm_39 ?_
  refine aw_imul C dX12_harm_42 ?_
  refine aw_iadd C dX12_harm_43 ?_
  cases h
  exact aw_ret hE dX12_harm_44
def f_X12_harm (s0 : St) (x1 : Int32) : Option (Int32 × St) := F_X12_harm_0 s0 x1
theorem c_X12_harm (l : Launch) (D : va_G) (N : Nm) (s0 z1 : St) (x1 : Int32) (r : Int32) (h : f_X12_harm s0 x1 = some (r, z1)) : Meti l yX12_harm (tsU yX12_harm cX12_harm 2 (some .int)) rm_X12_harm D N [.ref (N.1 0), .int x1] (wR N s0) r (wR N z1) :=
  met_i (cc := cX12_harm) (nL := 2) (own := RX12) (by decide) rfl (Nat.le_of_ble_eq_true rfl) (fun p e s m args below meth c Q A C hE => aw_sub [0, 1] rfl (T_X12_harm_0 C hE s0 x1 h))
/-! AwardLineModel.all()I -/
def rm_X12_all : Room := { frames := 1, cells := 0, slots := 0, locals := 20 }
def F_X12_all_0 (s0 : St) : Option (Int32 × St) :=
  oC (f_X12_cells s0) fun w3 =>
  oL w3.1 fun v1 => oL w3.2 fun s2 =>
  some (((1 : Int32) <<< (v1 &&& 31)) - (1 : Int32), s2)
set_option maxHeartbeats 4000000 in
set_option maxRecDepth 100000 in
theorem T_X12_all_0 {r : Int32} {z1 : St} (C : Cx p rm_X12_all s m args c D A cX12_all 1 RX12 rm_X12_all N) (hE : En p l e rm_X12_all s m args below meth c Q D A cX12_all .ireturn (wR N z1) [.int r])  (s0 : St) (h : F_X12_all_0 s0 = some (r, z1)) : Aw p l e rm_X12_all s m args below meth c Q D A 1 (wR N s0) 0 [(0, .ref (N.1 0))] [] := by
  unfold F_X12_all_0 at h
  refine aw_iconst (v := 1) C dX12_all_0 (by decide) ?_
  refine aw_aload_n C 0 dX12_all_1 rfl ?_
  obtain ⟨⟨v1, s2⟩, cw3, h⟩ := oC_e h
  have h := oL_e (x := s2) rfl (oL_e (x := v1) rfl h)
  refine aw_callVi (n := 0) (As := []) (rest := [.int (1 : Int32)]) (q0 := 0) C (c_X12_cells l D N s0 s2 v1 cw3) lw_23_23 lw_24_0 lw_24_1 lw_1_5 lw_24_2 rfl rfl (by decide +kernel) ⟨Nat.le_of_ble_eq_true rfl, Nat.le_of_ble_eq_true rfl⟩ rfl rfl rfl rfl rfl (Nat.le_of_ble_eq_true rfl) dX12_all_2 ?_
  refine aw_ishl C dX12_all_5 ?_
  refine aw_iconst (v := 1) C dX12_all_6 (by decide) ?_
  refine aw_isub C dX12_all_7 ?_
  cases h
  exact aw_ret hE dX12_all_8
def f_X12_all (s0 : St) : Option (Int32 × St) := F_X12_all_0 s0
theorem c_X12_all (l : Launch) (D : va_G) (N : Nm) (s0 z1 : St) (r : Int32) (h : f_X12_all s0 = some (r, z1)) : Meti l yX12_all (tsU yX12_all cX12_all 1 (some .int)) rm_X12_all D N [.ref (N.1 0)] (wR N s0) r (wR N z1) :=
  met_i (cc := cX12_all) (nL := 1) (own := RX12) (by decide) rfl (Nat.le_of_ble_eq_true rfl) (fun p e s m args below meth c Q A C hE => aw_sub [0] rfl (T_X12_all_0 C hE s0 h))
/-! AwardLineModel.does(III)I -/
def rm_X12_does_ : Room := { frames := 3, cells := 0, slots := 0, locals := 68 }
def F_X12_does__20 (s0 : St) : Option (Int32 × St) :=
  some ((-1 : Int32), s0)
set_option maxHeartbeats 4000000 in
set_option maxRecDepth 100000 in
theorem T_X12_does__20 {r : Int32} {z1 : St} (C : Cx p rm_X12_does_ s m args c D A cX12_does_ 4 RX12 rm_X12_does_ N) (hE : En p l e rm_X12_does_ s m args below meth c Q D A cX12_does_ .ireturn (wR N z1) [.int r])  (s0 : St) (h : F_X12_does__20 s0 = some (r, z1)) : Aw p l e rm_X12_does_ s m args below meth c Q D A 4 (wR N s0) 20 [] [] := by
  unfold F_X12_does__20 at h
  refine aw_iconst (v := -1) C dX12_does__20 (by decide) ?_
  cases h
  exact aw_ret hE dX12_does__21
def F_X12_does__0 (s0 : St) (x1 : Int32) (x2 : Int32) (x3 : Int32) : Option (Int32 × St) :=
  oL (sI s0 0 (0 : Int32)) fun s1 =>
  oC (f_X12_isLine s1 x1) fun w4 =>
  oL w4.1 fun v2 => oL w4.2 fun s3 =>
  if v2 = 0 then (
    F_X12_does__20 s3)
  else (
    oC (f_X12_isDay s3 x2) fun w7 =>
    oL w7.1 fun v5 => oL w7.2 fun s6 =>
    if v5 = 0 then (
      F_X12_does__20 s6)
    else (
      oC (f_X12_reckons s6 x2) fun w10 =>
      oL w10 fun s9 =>
      if x3 = 0 then (
        oC (f_X12_wrongOnes s9 x1) fun w13 =>
        oL w13.1 fun v11 => oL w13.2 fun s12 =>
        some (v11, s12))
      else (
      if x3 = 1 then (
        oC (f_X12_pieces s9 x1) fun w16 =>
        oL w16.1 fun v14 => oL w16.2 fun s15 =>
        some (v14, s15))
      else (
      if x3 = 2 then (
        oC (f_X12_all s9) fun w19 =>
        oL w19.1 fun v17 => oL w19.2 fun s18 =>
        oC (f_X12_pieces s18 (v17 &&& (x1 ^^^ (-1 : Int32)))) fun w22 =>
        oL w22.1 fun v20 => oL w22.2 fun s21 =>
        some (v20, s21))
      else (
      if x3 = 3 then (
        oC (f_X12_cutOf s9 x1) fun w25 =>
        oL w25.1 fun v23 => oL w25.2 fun s24 =>
        some (v23, s24))
      else (
      if x3 = 4 then (
        oC (f_X12_severed s9 x1) fun w28 =>
        oL w28.1 fun v26 => oL w28.2 fun s27 =>
        some (v26, s27))
      else (
      if x3 = 5 then (
        oC (f_X12_desecrated s9 x1) fun w31 =>
        oL w31.1 fun v29 => oL w31.2 fun s30 =>
        some (v29, s30))
      else (
      if x3 = 6 then (
        oC (f_X12_harm s9 x1) fun w34 =>
        oL w34.1 fun v32 => oL w34.2 fun s33 =>
        some (v32, s33))
      else (
        some ((-1 : Int32), s9))))))))))
set_option maxHeartbeats 4000000 in
set_option maxRecDepth 100000 in
theorem T_X12_does__0 {r : Int32} {z1 : St} (C : Cx p rm_X12_does_ s m args c D A cX12_does_ 4 RX12 rm_X12_does_ N) (hE : En p l e rm_X12_does_ s m args below meth c Q D A cX12_does_ .ireturn (wR N z1) [.int r])  (s0 : St) (x1 : Int32) (x2 : Int32) (x3 : Int32) (h : F_X12_does__0 s0 x1 x2 x3 = some (r, z1)) : Aw p l e rm_X12_does_ s m args below meth c Q D A 4 (wR N s0) 0 [(0, .ref (N.1 0)), (1, .int x1), (2, .int x2), (3, .int x3)] [] := by
  unfold F_X12_does__0 at h
  refine aw_aload_n C 0 dX12_does__0 rfl ?_
  refine aw_iconst (v := 0) C dX12_does__1 (by decide) ?_
  refine rp_md_thrown C lw_10_11 dX12_does__2 ?_
  refine ra_name (fun s1 es1 => ?_)
  have h := oL_e es1 h
  refine aw_aload_n C 0 dX12_does__5 rfl ?_
  refine aw_iload_n C 1 dX12_does__6 rfl ?_
  obtain ⟨⟨v2, s3⟩, cw4, h⟩ := oC_e h
  have h := oL_e (x := s3) rfl (oL_e (x := v2) rfl h)
  refine aw_callVi (n := 1) (As := [.int x1]) (rest := []) (q0 := 0) C (c_X12_isLine l D N s1 s3 x1 v2 cw4) lw_36_9 lw_36_10 lw_36_11 lw_1_5 lw_36_12 rfl rfl (by decide +kernel) ⟨Nat.le_of_ble_eq_true rfl, Nat.le_of_ble_eq_true rfl⟩ rfl rfl rfl rfl rfl (Nat.le_of_ble_eq_true rfl) dX12_does__7 ?_
  refine aw_if_eq (tgt := 20) C dX12_does__10 (by decide) (fun q => ?_) (fun q => ?_)
  · have h := bq_t q h
    refine aw_sub (lv' := []) [] rfl ?_
    exact T_X12_does__20 C hE s3 h
  · have h := bq_f q h
    refine aw_iload_n C 2 dX12_does__13 rfl ?_
    obtain ⟨⟨v5, s6⟩, cw7, h⟩ := oC_e h
    have h := oL_e (x := s6) rfl (oL_e (x := v5) rfl h)
    refine aw_callSi (n := 1) (As := [.int x2]) (rest := []) C (c_X12_isDay l D N s3 s6 x2 v5 cw7) lw_29_4 lw_29_5 lw_1_5 lw_29_6 rfl rfl (by decide +kernel) ⟨Nat.le_of_ble_eq_true rfl, Nat.le_of_ble_eq_true rfl⟩ rfl rfl (Nat.le_of_ble_eq_true rfl) dX12_does__14 ?_
    refine aw_if_ne (tgt := 22) C dX12_does__17 (by decide) (fun q => ?_) (fun q => ?_)
    · have h := bq_f q h
      refine aw_aload_n C 0 dX12_does__22 rfl ?_
      refine aw_iload_n C 2 dX12_does__23 rfl ?_
      obtain ⟨s9, cw10, h⟩ := oC_e h
      have h := oL_e (x := s9) rfl h
      refine aw_callVv (n := 1) (As := [.int x2]) (rest := []) (q0 := 0) C (c_X12_reckons l D N s6 s9 x2 cw10) lw_33_17 lw_33_18 lw_33_19 lw_1_5 lw_33_20 rfl rfl (by decide +kernel) ⟨Nat.le_of_ble_eq_true rfl, Nat.le_of_ble_eq_true rfl⟩ rfl rfl rfl rfl rfl (Nat.le_of_ble_eq_true rfl) dX12_does__24 ?_
      refine aw_iload_n C 3 dX12_does__27 rfl ?_
      by_cases q0 : x3 = (0 : Int32)
      · have h := bq_t q0 h
        refine aw_table (tgt := 72) C 44 dX12_does__28 (by rw [q0]; decide) (by rw [q0]; decide) (by rw [q0]; decide) (by decide) ?_
        refine aw_aload_n C 0 dX12_does__72 rfl ?_
        refine aw_iload_n C 1 dX12_does__73 rfl ?_
        obtain ⟨⟨v11, s12⟩, cw13, h⟩ := oC_e h
        have h := oL_e (x := s12) rfl (oL_e (x := v11) rfl h)
        refine aw_callVi (n := 1) (As := [.int x1]) (rest := []) (q0 := 0) C (c_X12_wrongOnes l D N s9 s12 x1 v11 cw13) lw_40_3 lw_40_4 lw_40_5 lw_1_5 lw_40_6 rfl rfl (by decide +kernel) ⟨Nat.le_of_ble_eq_true rfl, Nat.le_of_ble_eq_true rfl⟩ rfl rfl rfl rfl rfl (Nat.le_of_ble_eq_true rfl) dX12_does__74 ?_
        cases h
        exact aw_ret hE dX12_does__77
      have h := bq_f q0 h
      by_cases q1 : x3 = (1 : Int32)
      · have h := bq_t q1 h
        refine aw_table (tgt := 78) C 50 dX12_does__28 (by rw [q1]; decide) (by rw [q1]; decide) (by rw [q1]; decide) (by decide) ?_
        refine aw_aload_n C 0 dX12_does__78 rfl ?_
        refine aw_iload_n C 1 dX12_does__79 rfl ?_
        obtain ⟨⟨v14, s15⟩, cw16, h⟩ := oC_e h
        have h := oL_e (x := s15) rfl (oL_e (x := v14) rfl h)
        refine aw_callVi (n := 1) (As := [.int x1]) (rest := []) (q0 := 0) C (c_X12_pieces l D N s9 s15 x1 v14 cw16) lw_40_10 lw_40_11 lw_40_12 lw_1_5 lw_40_13 rfl rfl (by decide +kernel) ⟨Nat.le_of_ble_eq_true rfl, Nat.le_of_ble_eq_true rfl⟩ rfl rfl rfl rfl rfl (Nat.le_of_ble_eq_true rfl) dX12_does__80 ?_
        cases h
        exact aw_ret hE dX12_does__83
      have h := bq_f q1 h
      by_cases q2 : x3 = (2 : Int32)
      · have h := bq_t q2 h
        refine aw_table (tgt := 84) C 56 dX12_does__28 (by rw [q2]; decide) (by rw [q2]; decide) (by rw [q2]; decide) (by decide) ?_
        refine aw_aload_n C 0 dX12_does__84 rfl ?_
        refine aw_aload_n C 0 dX12_does__85 rfl ?_
        obtain ⟨⟨v17, s18⟩, cw19, h⟩ := oC_e h
        have h := oL_e (x := s18) rfl (oL_e (x := v17) rfl h)
        refine aw_callVi (n := 0) (As := []) (rest := [.ref (N.1 0)]) (q0 := 0) C (c_X12_all l D N s9 s18 v17 cw19) lw_40_18 lw_40_19 lw_40_20 lw_1_5 lw_40_21 rfl rfl (by decide +kernel) ⟨Nat.le_of_ble_eq_true rfl, Nat.le_of_ble_eq_true rfl⟩ rfl rfl rfl rfl rfl (Nat.le_of_ble_eq_true rfl) dX12_does__86 ?_
        refine aw_iload_n C 1 dX12_does__89 rfl ?_
        refine aw_iconst (v := -1) C dX12_does__90 (by decide) ?_
        refine aw_ixor C dX12_does__91 ?_
        refine aw_iand C dX12_does__92 ?_
        obtain ⟨⟨v20, s21⟩, cw22, h⟩ := oC_e h
        have h := oL_e (x := s21) rfl (oL_e (x := v20) rfl h)
        refine aw_callVi (n := 1) (As := [.int (v17 &&& (x1 ^^^ (-1 : Int32)))]) (rest := []) (q0 := 0) C (c_X12_pieces l D N s18 s21 (v17 &&& (x1 ^^^ (-1 : Int32))) v20 cw22) lw_40_10 lw_40_11 lw_40_12 lw_1_5 lw_40_13 rfl rfl (by decide +kernel) ⟨Nat.le_of_ble_eq_true rfl, Nat.le_of_ble_eq_true rfl⟩ rfl rfl rfl rfl rfl (Nat.le_of_ble_eq_true rfl) dX12_does__93 ?_
        cases h
        exact aw_ret hE dX12_does__96
      have h := bq_f q2 h
      by_cases q3 : x3 = (3 : Int32)
      · have h := bq_t q3 h
        refine aw_table (tgt := 97) C 69 dX12_does__28 (by rw [q3]; decide) (by rw [q3]; decide) (by rw [q3]; decide) (by decide) ?_
        refine aw_aload_n C 0 dX12_does__97 rfl ?_
        refine aw_iload_n C 1 dX12_does__98 rfl ?_
        obtain ⟨⟨v23, s24⟩, cw25, h⟩ := oC_e h
        have h := oL_e (x := s24) rfl (oL_e (x := v23) rfl h)
        refine aw_callVi (n := 1) (As := [.int x1]) (rest := []) (q0 := 0) C (c_X12_cutOf l D N s9 s24 x1 v23 cw25) lw_40_22 lw_40_23 lw_41_0 lw_1_5 lw_41_1 rfl rfl (by decide +kernel) ⟨Nat.le_of_ble_eq_true rfl, Nat.le_of_ble_eq_true rfl⟩ rfl rfl rfl rfl rfl (Nat.le_of_ble_eq_true rfl) dX12_does__99 ?_
        cases h
        exact aw_ret hE dX12_does__102
      have h := bq_f q3 h
      by_cases q4 : x3 = (4 : Int32)
      · have h := bq_t q4 h
        refine aw_table (tgt := 103) C 75 dX12_does__28 (by rw [q4]; decide) (by rw [q4]; decide) (by rw [q4]; decide) (by decide) ?_
        refine aw_aload_n C 0 dX12_does__103 rfl ?_
        refine aw_iload_n C 1 dX12_does__104 rfl ?_
        obtain ⟨⟨v26, s27⟩, cw28, h⟩ := oC_e h
        have h := oL_e (x := s27) rfl (oL_e (x := v26) rfl h)
        refine aw_callVi (n := 1) (As := [.int x1]) (rest := []) (q0 := 0) C (c_X12_severed l D N s9 s27 x1 v26 cw28) lw_41_2 lw_41_3 lw_41_4 lw_1_5 lw_41_5 rfl rfl (by decide +kernel) ⟨Nat.le_of_ble_eq_true rfl, Nat.le_of_ble_eq_true rfl⟩ rfl rfl rfl rfl rfl (Nat.le_of_ble_eq_true rfl) dX12_does__105 ?_
        cases h
        exact aw_ret hE dX12_does__108
      have h := bq_f q4 h
      by_cases q5 : x3 = (5 : Int32)
      · have h := bq_t q5 h
        refine aw_table (tgt := 109) C 81 dX12_does__28 (by rw [q5]; decide) (by rw [q5]; decide) (by rw [q5]; decide) (by decide) ?_
        refine aw_aload_n C 0 dX12_does__109 rfl ?_
        refine aw_iload_n C 1 dX12_does__110 rfl ?_
        obtain ⟨⟨v29, s30⟩, cw31, h⟩ := oC_e h
        have h := oL_e (x := s30) rfl (oL_e (x := v29) rfl h)
        refine aw_callVi (n := 1) (As := [.int x1]) (rest := []) (q0 := 0) C (c_X12_desecrated l D N s9 s30 x1 v29 cw31) lw_41_6 lw_41_7 lw_41_8 lw_1_5 lw_41_9 rfl rfl (by decide +kernel) ⟨Nat.le_of_ble_eq_true rfl, Nat.le_of_ble_eq_true rfl⟩ rfl rfl rfl rfl rfl (Nat.le_of_ble_eq_true rfl) dX12_does__111 ?_
        cases h
        exact aw_ret hE dX12_does__114
      have h := bq_f q5 h
      by_cases q6 : x3 = (6 : Int32)
      · have h := bq_t q6 h
        refine aw_table (tgt := 115) C 87 dX12_does__28 (by rw [q6]; decide) (by rw [q6]; decide) (by rw [q6]; decide) (by decide) ?_
        refine aw_aload_n C 0 dX12_does__115 rfl ?_
        refine aw_iload_n C 1 dX12_does__116 rfl ?_
        obtain ⟨⟨v32, s33⟩, cw34, h⟩ := oC_e h
        have h := oL_e (x := s33) rfl (oL_e (x := v32) rfl h)
        refine aw_callVi (n := 1) (As := [.int x1]) (rest := []) (q0 := 0) C (c_X12_harm l D N s9 s33 x1 v32 cw34) lw_41_10 lw_41_11 lw_41_12 lw_1_5 lw_41_13 rfl rfl (by decide +kernel) ⟨Nat.le_of_ble_eq_true rfl, Nat.le_of_ble_eq_true rfl⟩ rfl rfl rfl rfl rfl (Nat.le_of_ble_eq_true rfl) dX12_does__117 ?_
        cases h
        exact aw_ret hE dX12_does__120
      have h := bq_f q6 h
      refine aw_tableO (tgt := 121) C dX12_does__28 (by have n0 := sw_ne (k := 0) (by decide) q0; have n1 := sw_ne (k := 1) (by decide) q1; have n2 := sw_ne (k := 2) (by decide) q2; have n3 := sw_ne (k := 3) (by decide) q3; have n4 := sw_ne (k := 4) (by decide) q4; have n5 := sw_ne (k := 5) (by decide) q5; have n6 := sw_ne (k := 6) (by decide) q6; omega) (by decide) ?_
      refine aw_iconst (v := -1) C dX12_does__121 (by decide) ?_
      cases h
      exact aw_ret hE dX12_does__122
    · have h := bq_t q h
      refine aw_sub (lv' := []) [] rfl ?_
      exact T_X12_does__20 C hE s6 h
def f_X12_does_ (s0 : St) (x1 : Int32) (x2 : Int32) (x3 : Int32) : Option (Int32 × St) := F_X12_does__0 s0 x1 x2 x3
theorem c_X12_does_ (l : Launch) (D : va_G) (N : Nm) (s0 z1 : St) (x1 : Int32) (x2 : Int32) (x3 : Int32) (r : Int32) (h : f_X12_does_ s0 x1 x2 x3 = some (r, z1)) : Meti l yX12_does_ (tsU yX12_does_ cX12_does_ 4 (some .int)) rm_X12_does_ D N [.ref (N.1 0), .int x1, .int x2, .int x3] (wR N s0) r (wR N z1) :=
  met_i (cc := cX12_does_) (nL := 4) (own := RX12) (by decide) rfl (Nat.le_of_ble_eq_true rfl) (fun p e s m args below meth c Q A C hE => aw_sub [0, 1, 2, 3] rfl (T_X12_does__0 C hE s0 x1 x2 x3 h))
/-! AwardLineModel.best(II)I -/
def rm_X12_best : Room := { frames := 3, cells := 0, slots := 0, locals := 68 }
def F_X12_best_30 (s0 : St) : Option (Int32 × St) :=
  some ((-1 : Int32), s0)
set_option maxHeartbeats 4000000 in
set_option maxRecDepth 100000 in
theorem T_X12_best_30 {r : Int32} {z1 : St} (C : Cx p rm_X12_best s m args c D A cX12_best 7 RX12 rm_X12_best N) (hE : En p l e rm_X12_best s m args below meth c Q D A cX12_best .ireturn (wR N z1) [.int r])  (s0 : St) (h : F_X12_best_30 s0 = some (r, z1)) : Aw p l e rm_X12_best s m args below meth c Q D A 7 (wR N s0) 30 [] [] := by
  unfold F_X12_best_30 at h
  refine aw_iconst (v := -1) C dX12_best_30 (by decide) ?_
  cases h
  exact aw_ret hE dX12_best_31
def F_X12_best_130 (s0 : St) (t0 : Int32) : Option (Int32 × St) :=
  some (t0, s0)
set_option maxHeartbeats 4000000 in
set_option maxRecDepth 100000 in
theorem T_X12_best_130 {r : Int32} {z1 : St} (C : Cx p rm_X12_best s m args c D A cX12_best 7 RX12 rm_X12_best N) (hE : En p l e rm_X12_best s m args below meth c Q D A cX12_best .ireturn (wR N z1) [.int r])  (s0 : St) (t0 : Int32) (h : F_X12_best_130 s0 t0 = some (r, z1)) : Aw p l e rm_X12_best s m args below meth c Q D A 7 (wR N s0) 130 [] [.int t0] := by
  unfold F_X12_best_130 at h
  cases h
  exact aw_ret hE dX12_best_130
def F_X12_best_114 (k45 : St → Int32 → Int32 → Int32 → Int32 → Option (Int32 × St)) (s0 : St) (x2 : Int32) (x3 : Int32) (x4 : Int32) (x5 : Int32) : Option (Int32 × St) :=
  oL (x5 + (1 : Int32)) fun y1 =>
  k45 s0 x2 x3 x4 y1
set_option maxHeartbeats 4000000 in
set_option maxRecDepth 100000 in
theorem T_X12_best_114 {r : Int32} {z1 : St} {k45 : St → Int32 → Int32 → Int32 → Int32 → Option (Int32 × St)} (C : Cx p rm_X12_best s m args c D A cX12_best 7 RX12 rm_X12_best N) (hE : En p l e rm_X12_best s m args below meth c Q D A cX12_best .ireturn (wR N z1) [.int r]) (hk45 : ∀ (s0 : St) (x2 : Int32) (x3 : Int32) (x4 : Int32) (x5 : Int32), k45 s0 x2 x3 x4 x5 = some (r, z1) → Aw p l e rm_X12_best s m args below meth c Q D A 7 (wR N s0) 45 [(0, .ref (N.1 0)), (2, .int x2), (3, .int x3), (4, .int x4), (5, .int x5)] []) (s0 : St) (x2 : Int32) (x3 : Int32) (x4 : Int32) (x5 : Int32) (h : F_X12_best_114 k45 s0 x2 x3 x4 x5 = some (r, z1)) : Aw p l e rm_X12_best s m args below meth c Q D A 7 (wR N s0) 114 [(0, .ref (N.1 0)), (2, .int x2), (3, .int x3), (4, .int x4), (5, .int x5)] [] := by
  unfold F_X12_best_114 at h
  obtain ⟨y1, ey1⟩ : ∃ q : Int32, q = x5 + (1 : Int32) := ⟨_, rfl⟩
  have h := oL_e ey1 h
  refine aw_iinc (v := y1) (k := 4) (lv' := [(0, .ref (N.1 0)), (2, .int x2), (3, .int x3), (4, .int x4), (5, .int y1)]) C [1, 2, 3, 4, 0] dX12_best_114 rfl (by rw [ey1]; rfl) (by decide) rfl ?_
  refine aw_goto (tgt := 45) C dX12_best_117 (by decide) ?_
  refine aw_sub (lv' := [(0, .ref (N.1 0)), (2, .int x2), (3, .int x3), (4, .int x4), (5, .int y1)]) [0, 1, 2, 3, 4] rfl ?_
  exact hk45 s0 x2 x3 x4 y1 h
def F_X12_best_107 (k45 : St → Int32 → Int32 → Int32 → Int32 → Option (Int32 × St)) (s0 : St) (x2 : Int32) (x5 : Int32) (x6 : Int32) : Option (Int32 × St) :=
  F_X12_best_114 k45 s0 x2 x5 x6 x5
set_option maxHeartbeats 4000000 in
set_option maxRecDepth 100000 in
theorem T_X12_best_107 {r : Int32} {z1 : St} {k45 : St → Int32 → Int32 → Int32 → Int32 → Option (Int32 × St)} (C : Cx p rm_X12_best s m args c D A cX12_best 7 RX12 rm_X12_best N) (hE : En p l e rm_X12_best s m args below meth c Q D A cX12_best .ireturn (wR N z1) [.int r]) (hk45 : ∀ (s0 : St) (x2 : Int32) (x3 : Int32) (x4 : Int32) (x5 : Int32), k45 s0 x2 x3 x4 x5 = some (r, z1) → Aw p l e rm_X12_best s m args below meth c Q D A 7 (wR N s0) 45 [(0, .ref (N.1 0)), (2, .int x2), (3, .int x3), (4, .int x4), (5, .int x5)] []) (s0 : St) (x2 : Int32) (x5 : Int32) (x6 : Int32) (h : F_X12_best_107 k45 s0 x2 x5 x6 = some (r, z1)) : Aw p l e rm_X12_best s m args below meth c Q D A 7 (wR N s0) 107 [(0, .ref (N.1 0)), (2, .int x2), (5, .int x5), (6, .int x6)] [] := by
  unfold F_X12_best_107 at h
  refine aw_iload C 2 dX12_best_107 rfl ?_
  refine aw_istore_n (lv' := [(0, .ref (N.1 0)), (2, .int x2), (3, .int x5), (5, .int x5), (6, .int x6)]) C [1, 2, 0, 3, 4] dX12_best_109 rfl (by decide) rfl ?_
  refine aw_iload C 4 dX12_best_110 rfl ?_
  refine aw_istore (lv' := [(0, .ref (N.1 0)), (2, .int x2), (3, .int x5), (4, .int x6), (5, .int x5), (6, .int x6)]) C [1, 2, 3, 0, 4, 5] dX12_best_112 (by decide) rfl ?_
  refine aw_sub (lv' := [(0, .ref (N.1 0)), (2, .int x2), (3, .int x5), (4, .int x6), (5, .int x5)]) [0, 1, 2, 3, 4] rfl ?_
  exact T_X12_best_114 C hE hk45 s0 x2 x5 x6 x5 h
def F_X12_best_45_b (k45 : St → Int32 → Int32 → Int32 → Int32 → Option (Int32 × St)) (s0 : St) (x2 : Int32) (x3 : Int32) (x4 : Int32) (x5 : Int32) : Option (Int32 × St) :=
  oC (f_X12_all s0) fun w3 =>
  oL w3.1 fun v1 => oL w3.2 fun s2 =>
  if v1 < x5 then (
    if x2 = 0 then (
      F_X12_best_130 s2 x3)
    else (
      F_X12_best_130 s2 x4))
  else (
    oC (f_X12_pieces s2 x5) fun w6 =>
    oL w6.1 fun v4 => oL w6.2 fun s5 =>
    if (1 : Int32) < v4 then (
      F_X12_best_114 k45 s5 x2 x3 x4 x5)
    else (
      oC (f_X12_all s5) fun w9 =>
      oL w9.1 fun v7 => oL w9.2 fun s8 =>
      oC (f_X12_pieces s8 (v7 &&& (x5 ^^^ (-1 : Int32)))) fun w12 =>
      oL w12.1 fun v10 => oL w12.2 fun s11 =>
      if v10 ≤ (1 : Int32) then (
        oC (f_X12_harm s11 x5) fun w15 =>
        oL w15.1 fun v13 => oL w15.2 fun s14 =>
        if x3 = (-1 : Int32) then (
          F_X12_best_107 k45 s14 x2 x5 v13)
        else (
          if v13 < x4 then (
            F_X12_best_107 k45 s14 x2 x5 v13)
          else (
            F_X12_best_114 k45 s14 x2 x3 x4 x5)))
      else (
        F_X12_best_114 k45 s11 x2 x3 x4 x5)))
set_option maxHeartbeats 4000000 in
set_option maxRecDepth 100000 in
theorem T_X12_best_45_b {r : Int32} {z1 : St} {k45 : St → Int32 → Int32 → Int32 → Int32 → Option (Int32 × St)} (C : Cx p rm_X12_best s m args c D A cX12_best 7 RX12 rm_X12_best N) (hE : En p l e rm_X12_best s m args below meth c Q D A cX12_best .ireturn (wR N z1) [.int r]) (hk45 : ∀ (s0 : St) (x2 : Int32) (x3 : Int32) (x4 : Int32) (x5 : Int32), k45 s0 x2 x3 x4 x5 = some (r, z1) → Aw p l e rm_X12_best s m args below meth c Q D A 7 (wR N s0) 45 [(0, .ref (N.1 0)), (2, .int x2), (3, .int x3), (4, .int x4), (5, .int x5)] []) (s0 : St) (x2 : Int32) (x3 : Int32) (x4 : Int32) (x5 : Int32) (h : F_X12_best_45_b k45 s0 x2 x3 x4 x5 = some (r, z1)) : Aw p l e rm_X12_best s m args below meth c Q D A 7 (wR N s0) 45 [(0, .ref (N.1 0)), (2, .int x2), (3, .int x3), (4, .int x4), (5, .int x5)] [] := by
  unfold F_X12_best_45_b at h
  refine aw_iload C 4 dX12_best_45 rfl ?_
  refine aw_aload_n C 0 dX12_best_47 rfl ?_
  obtain ⟨⟨v1, s2⟩, cw3, h⟩ := oC_e h
  have h := oL_e (x := s2) rfl (oL_e (x := v1) rfl h)
  refine aw_callVi (n := 0) (As := []) (rest := [.int x5]) (q0 := 0) C (c_X12_all l D N s0 s2 v1 cw3) lw_40_18 lw_40_19 lw_40_20 lw_1_5 lw_40_21 rfl rfl (by decide +kernel) ⟨Nat.le_of_ble_eq_true rfl, Nat.le_of_ble_eq_true rfl⟩ rfl rfl rfl rfl rfl (Nat.le_of_ble_eq_true rfl) dX12_best_48 ?_
  refine aw_icmp_gt (tgt := 120) C dX12_best_51 (by decide) (fun q => ?_) (fun q => ?_)
  · have h := bq_t q h
    refine aw_iload_n C 1 dX12_best_120 rfl ?_
    refine aw_if_ne (tgt := 128) C dX12_best_121 (by decide) (fun q => ?_) (fun q => ?_)
    · have h := bq_f q h
      refine aw_iload C 3 dX12_best_128 rfl ?_
      refine aw_sub (lv' := []) [] rfl ?_
      exact T_X12_best_130 C hE s2 x4 h
    · have h := bq_t q h
      refine aw_iload_n C 2 dX12_best_124 rfl ?_
      refine aw_goto (tgt := 130) C dX12_best_125 (by decide) ?_
      refine aw_sub (lv' := []) [] rfl ?_
      exact T_X12_best_130 C hE s2 x3 h
  · have h := bq_f q h
    refine aw_aload_n C 0 dX12_best_54 rfl ?_
    refine aw_iload C 4 dX12_best_55 rfl ?_
    obtain ⟨⟨v4, s5⟩, cw6, h⟩ := oC_e h
    have h := oL_e (x := s5) rfl (oL_e (x := v4) rfl h)
    refine aw_callVi (n := 1) (As := [.int x5]) (rest := []) (q0 := 0) C (c_X12_pieces l D N s2 s5 x5 v4 cw6) lw_40_10 lw_40_11 lw_40_12 lw_1_5 lw_40_13 rfl rfl (by decide +kernel) ⟨Nat.le_of_ble_eq_true rfl, Nat.le_of_ble_eq_true rfl⟩ rfl rfl rfl rfl rfl (Nat.le_of_ble_eq_true rfl) dX12_best_57 ?_
    refine aw_iconst (v := 1) C dX12_best_60 (by decide) ?_
    refine aw_icmp_gt (tgt := 114) C dX12_best_61 (by decide) (fun q => ?_) (fun q => ?_)
    · have h := bq_t q h
      refine aw_sub (lv' := [(0, .ref (N.1 0)), (2, .int x2), (3, .int x3), (4, .int x4), (5, .int x5)]) [0, 1, 2, 3, 4] rfl ?_
      exact T_X12_best_114 C hE hk45 s5 x2 x3 x4 x5 h
    · have h := bq_f q h
      refine aw_aload_n C 0 dX12_best_64 rfl ?_
      refine aw_aload_n C 0 dX12_best_65 rfl ?_
      obtain ⟨⟨v7, s8⟩, cw9, h⟩ := oC_e h
      have h := oL_e (x := s8) rfl (oL_e (x := v7) rfl h)
      refine aw_callVi (n := 0) (As := []) (rest := [.ref (N.1 0)]) (q0 := 0) C (c_X12_all l D N s5 s8 v7 cw9) lw_40_18 lw_40_19 lw_40_20 lw_1_5 lw_40_21 rfl rfl (by decide +kernel) ⟨Nat.le_of_ble_eq_true rfl, Nat.le_of_ble_eq_true rfl⟩ rfl rfl rfl rfl rfl (Nat.le_of_ble_eq_true rfl) dX12_best_66 ?_
      refine aw_iload C 4 dX12_best_69 rfl ?_
      refine aw_iconst (v := -1) C dX12_best_71 (by decide) ?_
      refine aw_ixor C dX12_best_72 ?_
      refine aw_iand C dX12_best_73 ?_
      obtain ⟨⟨v10, s11⟩, cw12, h⟩ := oC_e h
      have h := oL_e (x := s11) rfl (oL_e (x := v10) rfl h)
      refine aw_callVi (n := 1) (As := [.int (v7 &&& (x5 ^^^ (-1 : Int32)))]) (rest := []) (q0 := 0) C (c_X12_pieces l D N s8 s11 (v7 &&& (x5 ^^^ (-1 : Int32))) v10 cw12) lw_40_10 lw_40_11 lw_40_12 lw_1_5 lw_40_13 rfl rfl (by decide +kernel) ⟨Nat.le_of_ble_eq_true rfl, Nat.le_of_ble_eq_true rfl⟩ rfl rfl rfl rfl rfl (Nat.le_of_ble_eq_true rfl) dX12_best_74 ?_
      refine aw_iconst (v := 1) C dX12_best_77 (by decide) ?_
      refine aw_icmp_le (tgt := 84) C dX12_best_78 (by decide) (fun q => ?_) (fun q => ?_)
      · have h := bq_t q h
        refine aw_aload_n C 0 dX12_best_84 rfl ?_
        refine aw_iload C 4 dX12_best_85 rfl ?_
        obtain ⟨⟨v13, s14⟩, cw15, h⟩ := oC_e h
        have h := oL_e (x := s14) rfl (oL_e (x := v13) rfl h)
        refine aw_callVi (n := 1) (As := [.int x5]) (rest := []) (q0 := 0) C (c_X12_harm l D N s11 s14 x5 v13 cw15) lw_41_10 lw_41_11 lw_41_12 lw_1_5 lw_41_13 rfl rfl (by decide +kernel) ⟨Nat.le_of_ble_eq_true rfl, Nat.le_of_ble_eq_true rfl⟩ rfl rfl rfl rfl rfl (Nat.le_of_ble_eq_true rfl) dX12_best_87 ?_
        refine aw_istore (lv' := [(0, .ref (N.1 0)), (2, .int x2), (3, .int x3), (4, .int x4), (5, .int x5), (6, .int v13)]) C [1, 2, 3, 4, 5, 0] dX12_best_90 (by decide) rfl ?_
        refine aw_iload_n C 2 dX12_best_92 rfl ?_
        refine aw_iconst (v := -1) C dX12_best_93 (by decide) ?_
        refine aw_icmp_eq (tgt := 107) C dX12_best_94 (by decide) (fun q => ?_) (fun q => ?_)
        · have h := bq_t q h
          refine aw_sub (lv' := [(0, .ref (N.1 0)), (2, .int x2), (5, .int x5), (6, .int v13)]) [0, 1, 4, 5] rfl ?_
          exact T_X12_best_107 C hE hk45 s14 x2 x5 v13 h
        · have h := bq_f q h
          refine aw_iload C 5 dX12_best_97 rfl ?_
          refine aw_iload C 3 dX12_best_99 rfl ?_
          refine aw_icmp_lt (tgt := 107) C dX12_best_101 (by decide) (fun q => ?_) (fun q => ?_)
          · have h := bq_t q h
            refine aw_sub (lv' := [(0, .ref (N.1 0)), (2, .int x2), (5, .int x5), (6, .int v13)]) [0, 1, 4, 5] rfl ?_
            exact T_X12_best_107 C hE hk45 s14 x2 x5 v13 h
          · have h := bq_f q h
            refine aw_goto (tgt := 114) C dX12_best_104 (by decide) ?_
            refine aw_sub (lv' := [(0, .ref (N.1 0)), (2, .int x2), (3, .int x3), (4, .int x4), (5, .int x5)]) [0, 1, 2, 3, 4] rfl ?_
            exact T_X12_best_114 C hE hk45 s14 x2 x3 x4 x5 h
      · have h := bq_f q h
        refine aw_goto (tgt := 114) C dX12_best_81 (by decide) ?_
        refine aw_sub (lv' := [(0, .ref (N.1 0)), (2, .int x2), (3, .int x3), (4, .int x4), (5, .int x5)]) [0, 1, 2, 3, 4] rfl ?_
        exact T_X12_best_114 C hE hk45 s11 x2 x3 x4 x5 h
def F_X12_best_45 : Nat → St → Int32 → Int32 → Int32 → Int32 → Option (Int32 × St)
  | 0 => fun _ _ _ _ _ => none
  | n + 1 => F_X12_best_45_b (F_X12_best_45 n)
theorem T_X12_best_45 {r : Int32} {z1 : St} (C : Cx p rm_X12_best s m args c D A cX12_best 7 RX12 rm_X12_best N) (hE : En p l e rm_X12_best s m args below meth c Q D A cX12_best .ireturn (wR N z1) [.int r])  : ∀ (n : Nat) (s0 : St) (x2 : Int32) (x3 : Int32) (x4 : Int32) (x5 : Int32), F_X12_best_45 n s0 x2 x3 x4 x5 = some (r, z1) → Aw p l e rm_X12_best s m args below meth c Q D A 7 (wR N s0) 45 [(0, .ref (N.1 0)), (2, .int x2), (3, .int x3), (4, .int x4), (5, .int x5)] [] := by
  intro n
  induction n with
  | zero => intro s0 x2 x3 x4 x5 h; cases h
  | succ n ih => intro s0 x2 x3 x4 x5 h; exact T_X12_best_45_b C hE ih s0 x2 x3 x4 x5 h
def F_X12_best_0 (s0 : St) (x1 : Int32) (x2 : Int32) : Option (Int32 × St) :=
  oL (sI s0 0 (0 : Int32)) fun s1 =>
  oC (f_X12_isDay s1 x1) fun w4 =>
  oL w4.1 fun v2 => oL w4.2 fun s3 =>
  if v2 = 0 then (
    F_X12_best_30 s3)
  else (
    if x2 < 0 then (
      F_X12_best_30 s3)
    else (
      if (1 : Int32) < x2 then (
        F_X12_best_30 s3)
      else (
        oC (f_X12_cells s3) fun w7 =>
        oL w7.1 fun v5 => oL w7.2 fun s6 =>
        if v5 ≤ (16 : Int32) then (
          oC (f_X12_reckons s6 x1) fun w10 =>
          oL w10 fun s9 =>
          oL (-1 : Int32) fun y11 =>
          oL (0 : Int32) fun y12 =>
          oL (0 : Int32) fun y13 =>
          F_X12_best_45 100000 s9 x2 y11 y12 y13)
        else (
          F_X12_best_30 s6))))
set_option maxHeartbeats 4000000 in
set_option maxRecDepth 100000 in
theorem T_X12_best_0 {r : Int32} {z1 : St} (C : Cx p rm_X12_best s m args c D A cX12_best 7 RX12 rm_X12_best N) (hE : En p l e rm_X12_best s m args below meth c Q D A cX12_best .ireturn (wR N z1) [.int r])  (s0 : St) (x1 : Int32) (x2 : Int32) (h : F_X12_best_0 s0 x1 x2 = some (r, z1)) : Aw p l e rm_X12_best s m args below meth c Q D A 7 (wR N s0) 0 [(0, .ref (N.1 0)), (1, .int x1), (2, .int x2)] [] := by
  unfold F_X12_best_0 at h
  refine aw_aload_n C 0 dX12_best_0 rfl ?_
  refine aw_iconst (v := 0) C dX12_best_1 (by decide) ?_
  refine rp_md_thrown C lw_10_11 dX12_best_2 ?_
  refine ra_name (fun s1 es1 => ?_)
  have h := oL_e es1 h
  refine aw_iload_n C 1 dX12_best_5 rfl ?_
  obtain ⟨⟨v2, s3⟩, cw4, h⟩ := oC_e h
  have h := oL_e (x := s3) rfl (oL_e (x := v2) rfl h)
  refine aw_callSi (n := 1) (As := [.int x1]) (rest := []) C (c_X12_isDay l D N s1 s3 x1 v2 cw4) lw_29_4 lw_29_5 lw_1_5 lw_29_6 rfl rfl (by decide +kernel) ⟨Nat.le_of_ble_eq_true rfl, Nat.le_of_ble_eq_true rfl⟩ rfl rfl (Nat.le_of_ble_eq_true rfl) dX12_best_6 ?_
  refine aw_if_eq (tgt := 30) C dX12_best_9 (by decide) (fun q => ?_) (fun q => ?_)
  · have h := bq_t q h
    refine aw_sub (lv' := []) [] rfl ?_
    exact T_X12_best_30 C hE s3 h
  · have h := bq_f q h
    refine aw_iload_n C 2 dX12_best_12 rfl ?_
    refine aw_if_lt (tgt := 30) C dX12_best_13 (by decide) (fun q => ?_) (fun q => ?_)
    · have h := bq_t q h
      refine aw_sub (lv' := []) [] rfl ?_
      exact T_X12_best_30 C hE s3 h
    · have h := bq_f q h
      refine aw_iload_n C 2 dX12_best_16 rfl ?_
      refine aw_iconst (v := 1) C dX12_best_17 (by decide) ?_
      refine aw_icmp_gt (tgt := 30) C dX12_best_18 (by decide) (fun q => ?_) (fun q => ?_)
      · have h := bq_t q h
        refine aw_sub (lv' := []) [] rfl ?_
        exact T_X12_best_30 C hE s3 h
      · have h := bq_f q h
        refine aw_aload_n C 0 dX12_best_21 rfl ?_
        obtain ⟨⟨v5, s6⟩, cw7, h⟩ := oC_e h
        have h := oL_e (x := s6) rfl (oL_e (x := v5) rfl h)
        refine aw_callVi (n := 0) (As := []) (rest := []) (q0 := 0) C (c_X12_cells l D N s3 s6 v5 cw7) lw_23_23 lw_24_0 lw_24_1 lw_1_5 lw_24_2 rfl rfl (by decide +kernel) ⟨Nat.le_of_ble_eq_true rfl, Nat.le_of_ble_eq_true rfl⟩ rfl rfl rfl rfl rfl (Nat.le_of_ble_eq_true rfl) dX12_best_22 ?_
        refine aw_bipush (v := 16) C dX12_best_25 (by decide) ?_
        refine aw_icmp_le (tgt := 32) C dX12_best_27 (by decide) (fun q => ?_) (fun q => ?_)
        · have h := bq_t q h
          refine aw_aload_n C 0 dX12_best_32 rfl ?_
          refine aw_iload_n C 1 dX12_best_33 rfl ?_
          obtain ⟨s9, cw10, h⟩ := oC_e h
          have h := oL_e (x := s9) rfl h
          refine aw_callVv (n := 1) (As := [.int x1]) (rest := []) (q0 := 0) C (c_X12_reckons l D N s6 s9 x1 cw10) lw_33_17 lw_33_18 lw_33_19 lw_1_5 lw_33_20 rfl rfl (by decide +kernel) ⟨Nat.le_of_ble_eq_true rfl, Nat.le_of_ble_eq_true rfl⟩ rfl rfl rfl rfl rfl (Nat.le_of_ble_eq_true rfl) dX12_best_34 ?_
          refine aw_iconst (v := -1) C dX12_best_37 (by decide) ?_
          refine aw_topi (fun y11 ey11 => ?_)
          have h := oL_e ey11 h
          refine aw_istore_n (lv' := [(0, .ref (N.1 0)), (1, .int x1), (2, .int x2), (3, .int y11)]) C [1, 2, 3, 0] dX12_best_38 rfl (by decide) rfl ?_
          refine aw_iconst (v := 0) C dX12_best_39 (by decide) ?_
          refine aw_topi (fun y12 ey12 => ?_)
          have h := oL_e ey12 h
          refine aw_istore (lv' := [(0, .ref (N.1 0)), (1, .int x1), (2, .int x2), (3, .int y11), (4, .int y12)]) C [1, 2, 3, 4, 0] dX12_best_40 (by decide) rfl ?_
          refine aw_iconst (v := 0) C dX12_best_42 (by decide) ?_
          refine aw_topi (fun y13 ey13 => ?_)
          have h := oL_e ey13 h
          refine aw_istore (lv' := [(0, .ref (N.1 0)), (1, .int x1), (2, .int x2), (3, .int y11), (4, .int y12), (5, .int y13)]) C [1, 2, 3, 4, 5, 0] dX12_best_43 (by decide) rfl ?_
          refine aw_sub (lv' := [(0, .ref (N.1 0)), (2, .int x2), (3, .int y11), (4, .int y12), (5, .int y13)]) [0, 2, 3, 4, 5] rfl ?_
          exact T_X12_best_45 C hE 100000 s9 x2 y11 y12 y13 h
        · have h := bq_f q h
          refine aw_sub (lv' := []) [] rfl ?_
          exact T_X12_best_30 C hE s6 h
def f_X12_best (s0 : St) (x1 : Int32) (x2 : Int32) : Option (Int32 × St) := F_X12_best_0 s0 x1 x2
theorem c_X12_best (l : Launch) (D : va_G) (N : Nm) (s0 z1 : St) (x1 : Int32) (x2 : Int32) (r : Int32) (h : f_X12_best s0 x1 x2 = some (r, z1)) : Meti l yX12_best (tsU yX12_best cX12_best 7 (some .int)) rm_X12_best D N [.ref (N.1 0), .int x1, .int x2] (wR N s0) r (wR N z1) :=
  met_i (cc := cX12_best) (nL := 7) (own := RX12) (by decide) rfl (Nat.le_of_ble_eq_true rfl) (fun p e s m args below meth c Q A C hE => aw_sub [0, 1, 2] rfl (T_X12_best_0 C hE s0 x1 x2 h))
/-! AwardLineModel.gives(IIII)Z -/
def rm_X12_gives : Room := { frames := 1, cells := 0, slots := 0, locals := 21 }
def F_X12_gives_78 (k3 : St → Int32 → Int32 → Int32 → Int32 → Int32 → Option (Int32 × St)) (s0 : St) (x1 : Int32) (x2 : Int32) (x3 : Int32) (x4 : Int32) (x5 : Int32) (t0 : Int32) (t1 : Int32) : Option (Int32 × St) :=
  if t1 = t0 then (
    oL (x5 + (1 : Int32)) fun y1 =>
    k3 s0 x1 x2 x3 x4 y1)
  else (
    some ((0 : Int32), s0))
set_option maxHeartbeats 4000000 in
set_option maxRecDepth 100000 in
theorem T_X12_gives_78 {r : Int32} {z1 : St} {k3 : St → Int32 → Int32 → Int32 → Int32 → Int32 → Option (Int32 × St)} (C : Cx p rm_X12_gives s m args c D A cX12_gives 7 RX12 rm_X12_gives N) (hE : En p l e rm_X12_gives s m args below meth c Q D A cX12_gives .ireturn (wR N z1) [.int r]) (hk3 : ∀ (s0 : St) (x1 : Int32) (x2 : Int32) (x3 : Int32) (x4 : Int32) (x5 : Int32), k3 s0 x1 x2 x3 x4 x5 = some (r, z1) → Aw p l e rm_X12_gives s m args below meth c Q D A 7 (wR N s0) 3 [(0, .ref (N.1 0)), (1, .int x1), (2, .int x2), (3, .int x3), (4, .int x4), (5, .int x5)] []) (s0 : St) (x1 : Int32) (x2 : Int32) (x3 : Int32) (x4 : Int32) (x5 : Int32) (t0 : Int32) (t1 : Int32) (h : F_X12_gives_78 k3 s0 x1 x2 x3 x4 x5 t0 t1 = some (r, z1)) : Aw p l e rm_X12_gives s m args below meth c Q D A 7 (wR N s0) 78 [(0, .ref (N.1 0)), (1, .int x1), (2, .int x2), (3, .int x3), (4, .int x4), (5, .int x5)] [.int t0, .int t1] := by
  unfold F_X12_gives_78 at h
  refine aw_icmp_eq (tgt := 83) C dX12_gives_78 (by decide) (fun q => ?_) (fun q => ?_)
  · have h := bq_t q h
    obtain ⟨y1, ey1⟩ : ∃ q : Int32, q = x5 + (1 : Int32) := ⟨_, rfl⟩
    have h := oL_e ey1 h
    refine aw_iinc (v := y1) (k := 5) (lv' := [(0, .ref (N.1 0)), (1, .int x1), (2, .int x2), (3, .int x3), (4, .int x4), (5, .int y1)]) C [1, 2, 3, 4, 5, 0] dX12_gives_83 rfl (by rw [ey1]; rfl) (by decide) rfl ?_
    refine aw_goto (tgt := 3) C dX12_gives_86 (by decide) ?_
    refine aw_sub (lv' := [(0, .ref (N.1 0)), (1, .int x1), (2, .int x2), (3, .int x3), (4, .int x4), (5, .int y1)]) [0, 1, 2, 3, 4, 5] rfl ?_
    exact hk3 s0 x1 x2 x3 x4 y1 h
  · have h := bq_f q h
    refine aw_iconst (v := 0) C dX12_gives_81 (by decide) ?_
    cases h
    exact aw_ret hE dX12_gives_82
def F_X12_gives_60 (k3 : St → Int32 → Int32 → Int32 → Int32 → Int32 → Option (Int32 × St)) (s0 : St) (x1 : Int32) (x2 : Int32) (x3 : Int32) (x4 : Int32) (x5 : Int32) (t0 : Int32) : Option (Int32 × St) :=
  oC (f_X12_sideOf s0 x1 x5) fun w3 =>
  oL w3.1 fun v1 => oL w3.2 fun s2 =>
  if v1 = 0 then (
    F_X12_gives_78 k3 s2 x1 x2 x3 x4 x5 (1 : Int32) t0)
  else (
    F_X12_gives_78 k3 s2 x1 x2 x3 x4 x5 (0 : Int32) t0)
set_option maxHeartbeats 4000000 in
set_option maxRecDepth 100000 in
theorem T_X12_gives_60 {r : Int32} {z1 : St} {k3 : St → Int32 → Int32 → Int32 → Int32 → Int32 → Option (Int32 × St)} (C : Cx p rm_X12_gives s m args c D A cX12_gives 7 RX12 rm_X12_gives N) (hE : En p l e rm_X12_gives s m args below meth c Q D A cX12_gives .ireturn (wR N z1) [.int r]) (hk3 : ∀ (s0 : St) (x1 : Int32) (x2 : Int32) (x3 : Int32) (x4 : Int32) (x5 : Int32), k3 s0 x1 x2 x3 x4 x5 = some (r, z1) → Aw p l e rm_X12_gives s m args below meth c Q D A 7 (wR N s0) 3 [(0, .ref (N.1 0)), (1, .int x1), (2, .int x2), (3, .int x3), (4, .int x4), (5, .int x5)] []) (s0 : St) (x1 : Int32) (x2 : Int32) (x3 : Int32) (x4 : Int32) (x5 : Int32) (t0 : Int32) (h : F_X12_gives_60 k3 s0 x1 x2 x3 x4 x5 t0 = some (r, z1)) : Aw p l e rm_X12_gives s m args below meth c Q D A 7 (wR N s0) 60 [(0, .ref (N.1 0)), (1, .int x1), (2, .int x2), (3, .int x3), (4, .int x4), (5, .int x5)] [.int t0] := by
  unfold F_X12_gives_60 at h
  refine aw_istore (lv' := [(0, .ref (N.1 0)), (1, .int x1), (2, .int x2), (3, .int x3), (4, .int x4), (5, .int x5), (6, .int t0)]) C [1, 2, 3, 4, 5, 6, 0] dX12_gives_60 (by decide) rfl ?_
  refine aw_iload C 6 dX12_gives_62 rfl ?_
  refine aw_iload_n C 1 dX12_gives_64 rfl ?_
  refine aw_iload C 5 dX12_gives_65 rfl ?_
  obtain ⟨⟨v1, s2⟩, cw3, h⟩ := oC_e h
  have h := oL_e (x := s2) rfl (oL_e (x := v1) rfl h)
  refine aw_callSi (n := 2) (As := [.int x1, .int x5]) (rest := [.int t0]) C (c_X12_sideOf l D N s0 s2 x1 x5 v1 cw3) lw_40_7 lw_40_8 lw_1_5 lw_40_9 rfl rfl (by decide +kernel) ⟨Nat.le_of_ble_eq_true rfl, Nat.le_of_ble_eq_true rfl⟩ rfl rfl (Nat.le_of_ble_eq_true rfl) dX12_gives_67 ?_
  refine aw_if_ne (tgt := 77) C dX12_gives_70 (by decide) (fun q => ?_) (fun q => ?_)
  · have h := bq_f q h
    refine aw_iconst (v := 0) C dX12_gives_77 (by decide) ?_
    refine aw_sub (lv' := [(0, .ref (N.1 0)), (1, .int x1), (2, .int x2), (3, .int x3), (4, .int x4), (5, .int x5)]) [0, 1, 2, 3, 4, 5] rfl ?_
    exact T_X12_gives_78 C hE hk3 s2 x1 x2 x3 x4 x5 (0 : Int32) t0 h
  · have h := bq_t q h
    refine aw_iconst (v := 1) C dX12_gives_73 (by decide) ?_
    refine aw_goto (tgt := 78) C dX12_gives_74 (by decide) ?_
    refine aw_sub (lv' := [(0, .ref (N.1 0)), (1, .int x1), (2, .int x2), (3, .int x3), (4, .int x4), (5, .int x5)]) [0, 1, 2, 3, 4, 5] rfl ?_
    exact T_X12_gives_78 C hE hk3 s2 x1 x2 x3 x4 x5 (1 : Int32) t0 h
def F_X12_gives_3_b (k3 : St → Int32 → Int32 → Int32 → Int32 → Int32 → Option (Int32 × St)) (s0 : St) (x1 : Int32) (x2 : Int32) (x3 : Int32) (x4 : Int32) (x5 : Int32) : Option (Int32 × St) :=
  oC (f_X12_cells s0) fun w3 =>
  oL w3.1 fun v1 => oL w3.2 fun s2 =>
  if v1 ≤ x5 then (
    some ((1 : Int32), s2))
  else (
    oA ((3 : Int32) * x5) 75 <|
    oA (((3 : Int32) * x5) + (1 : Int32)) 75 <|
    oA (((3 : Int32) * x5) + (2 : Int32)) 75 <|
    if ((x2 * (s2.2.1 25 (Int32.toNatClampNeg ((3 : Int32) * x5)))) + (x3 * (s2.2.1 25 (Int32.toNatClampNeg (((3 : Int32) * x5) + (1 : Int32)))))) + (x4 * (s2.2.1 25 (Int32.toNatClampNeg (((3 : Int32) * x5) + (2 : Int32))))) ≤ 0 then (
      F_X12_gives_60 k3 s2 x1 x2 x3 x4 x5 (0 : Int32))
    else (
      F_X12_gives_60 k3 s2 x1 x2 x3 x4 x5 (1 : Int32)))
set_option maxHeartbeats 4000000 in
set_option maxRecDepth 100000 in
theorem T_X12_gives_3_b {r : Int32} {z1 : St} {k3 : St → Int32 → Int32 → Int32 → Int32 → Int32 → Option (Int32 × St)} (C : Cx p rm_X12_gives s m args c D A cX12_gives 7 RX12 rm_X12_gives N) (hE : En p l e rm_X12_gives s m args below meth c Q D A cX12_gives .ireturn (wR N z1) [.int r]) (hk3 : ∀ (s0 : St) (x1 : Int32) (x2 : Int32) (x3 : Int32) (x4 : Int32) (x5 : Int32), k3 s0 x1 x2 x3 x4 x5 = some (r, z1) → Aw p l e rm_X12_gives s m args below meth c Q D A 7 (wR N s0) 3 [(0, .ref (N.1 0)), (1, .int x1), (2, .int x2), (3, .int x3), (4, .int x4), (5, .int x5)] []) (s0 : St) (x1 : Int32) (x2 : Int32) (x3 : Int32) (x4 : Int32) (x5 : Int32) (h : F_X12_gives_3_b k3 s0 x1 x2 x3 x4 x5 = some (r, z1)) : Aw p l e rm_X12_gives s m args below meth c Q D A 7 (wR N s0) 3 [(0, .ref (N.1 0)), (1, .int x1), (2, .int x2), (3, .int x3), (4, .int x4), (5, .int x5)] [] := by
  unfold F_X12_gives_3_b at h
  refine aw_iload C 5 dX12_gives_3 rfl ?_
  refine aw_aload_n C 0 dX12_gives_5 rfl ?_
  obtain ⟨⟨v1, s2⟩, cw3, h⟩ := oC_e h
  have h := oL_e (x := s2) rfl (oL_e (x := v1) rfl h)
  refine aw_callVi (n := 0) (As := []) (rest := [.int x5]) (q0 := 0) C (c_X12_cells l D N s0 s2 v1 cw3) lw_23_23 lw_24_0 lw_24_1 lw_1_5 lw_24_2 rfl rfl (by decide +kernel) ⟨Nat.le_of_ble_eq_true rfl, Nat.le_of_ble_eq_true rfl⟩ rfl rfl rfl rfl rfl (Nat.le_of_ble_eq_true rfl) dX12_gives_6 ?_
  refine aw_icmp_ge (tgt := 89) C dX12_gives_9 (by decide) (fun q => ?_) (fun q => ?_)
  · have h := bq_t q h
    refine aw_iconst (v := 1) C dX12_gives_89 (by decide) ?_
    cases h
    exact aw_ret hE dX12_gives_90
  · have h := bq_f q h
    refine aw_iload_n C 2 dX12_gives_12 rfl ?_
    refine aw_aload_n C 0 dX12_gives_13 rfl ?_
    refine rg_md_lean C lw_9_2 dX12_gives_14 ?_
    refine aw_iconst (v := 3) C dX12_gives_17 (by decide) ?_
    refine aw_iload C 5 dX12_gives_18 rfl ?_
    refine aw_imul C dX12_gives_20 ?_
    obtain ⟨q4, h⟩ := oA_e h
    refine ra_iald (k := 25) C (by decide) rfl q4 dX12_gives_21 ?_
    refine aw_imul C dX12_gives_22 ?_
    refine aw_iload_n C 3 dX12_gives_23 rfl ?_
    refine aw_aload_n C 0 dX12_gives_24 rfl ?_
    refine rg_md_lean C lw_9_2 dX12_gives_25 ?_
    refine aw_iconst (v := 3) C dX12_gives_28 (by decide) ?_
    refine aw_iload C 5 dX12_gives_29 rfl ?_
    refine aw_imul C dX12_gives_31 ?_
    refine aw_iconst (v := 1) C dX12_gives_32 (by decide) ?_
    refine aw_iadd C dX12_gives_33 ?_
    obtain ⟨q5, h⟩ := oA_e h
    refine ra_iald (k := 25) C (by decide) rfl q5 dX12_gives_34 ?_
    refine aw_imul C dX12_gives_35 ?_
    refine aw_iadd C dX12_gives_36 ?_
    refine aw_iload C 4 dX12_gives_37 rfl ?_
    refine aw_aload_n C 0 dX12_gives_39 rfl ?_
    refine rg_md_lean C lw_9_2 dX12_gives_40 ?_
    refine aw_iconst (v := 3) C dX12_gives_43 (by decide) ?_
    refine aw_iload C 5 dX12_gives_44 rfl ?_
    refine aw_imul C dX12_gives_46 ?_
    refine aw_iconst (v := 2) C dX12_gives_47 (by decide) ?_
    refine aw_iadd C dX12_gives_48 ?_
    obtain ⟨q6, h⟩ := oA_e h
    refine ra_iald (k := 25) C (by decide) rfl q6 dX12_gives_49 ?_
    refine aw_imul C dX12_gives_50 ?_
    refine aw_iadd C dX12_gives_51 ?_
    refine aw_if_le (tgt := 59) C dX12_gives_52 (by decide) (fun q => ?_) (fun q => ?_)
    · have h := bq_t q h
      refine aw_iconst (v := 0) C dX12_gives_59 (by decide) ?_
      refine aw_sub (lv' := [(0, .ref (N.1 0)), (1, .int x1), (2, .int x2), (3, .int x3), (4, .int x4), (5, .int x5)]) [0, 1, 2, 3, 4, 5] rfl ?_
      exact T_X12_gives_60 C hE hk3 s2 x1 x2 x3 x4 x5 (0 : Int32) h
    · have h := bq_f q h
      refine aw_iconst (v := 1) C dX12_gives_55 (by decide) ?_
      refine aw_goto (tgt := 60) C dX12_gives_56 (by decide) ?_
      refine aw_sub (lv' := [(0, .ref (N.1 0)), (1, .int x1), (2, .int x2), (3, .int x3), (4, .int x4), (5, .int x5)]) [0, 1, 2, 3, 4, 5] rfl ?_
      exact T_X12_gives_60 C hE hk3 s2 x1 x2 x3 x4 x5 (1 : Int32) h
def F_X12_gives_3 : Nat → St → Int32 → Int32 → Int32 → Int32 → Int32 → Option (Int32 × St)
  | 0 => fun _ _ _ _ _ _ => none
  | n + 1 => F_X12_gives_3_b (F_X12_gives_3 n)
theorem T_X12_gives_3 {r : Int32} {z1 : St} (C : Cx p rm_X12_gives s m args c D A cX12_gives 7 RX12 rm_X12_gives N) (hE : En p l e rm_X12_gives s m args below meth c Q D A cX12_gives .ireturn (wR N z1) [.int r])  : ∀ (n : Nat) (s0 : St) (x1 : Int32) (x2 : Int32) (x3 : Int32) (x4 : Int32) (x5 : Int32), F_X12_gives_3 n s0 x1 x2 x3 x4 x5 = some (r, z1) → Aw p l e rm_X12_gives s m args below meth c Q D A 7 (wR N s0) 3 [(0, .ref (N.1 0)), (1, .int x1), (2, .int x2), (3, .int x3), (4, .int x4), (5, .int x5)] [] := by
  intro n
  induction n with
  | zero => intro s0 x1 x2 x3 x4 x5 h; cases h
  | succ n ih => intro s0 x1 x2 x3 x4 x5 h; exact T_X12_gives_3_b C hE ih s0 x1 x2 x3 x4 x5 h
def F_X12_gives_0 (s0 : St) (x1 : Int32) (x2 : Int32) (x3 : Int32) (x4 : Int32) : Option (Int32 × St) :=
  oL (0 : Int32) fun y1 =>
  F_X12_gives_3 100000 s0 x1 x2 x3 x4 y1
set_option maxHeartbeats 4000000 in
set_option maxRecDepth 100000 in
theorem T_X12_gives_0 {r : Int32} {z1 : St} (C : Cx p rm_X12_gives s m args c D A cX12_gives 7 RX12 rm_X12_gives N) (hE : En p l e rm_X12_gives s m args below meth c Q D A cX12_gives .ireturn (wR N z1) [.int r])  (s0 : St) (x1 : Int32) (x2 : Int32) (x3 : Int32) (x4 : Int32) (h : F_X12_gives_0 s0 x1 x2 x3 x4 = some (r, z1)) : Aw p l e rm_X12_gives s m args below meth c Q D A 7 (wR N s0) 0 [(0, .ref (N.1 0)), (1, .int x1), (2, .int x2), (3, .int x3), (4, .int x4)] [] := by
  unfold F_X12_gives_0 at h
  refine aw_iconst (v := 0) C dX12_gives_0 (by decide) ?_
  refine aw_topi (fun y1 ey1 => ?_)
  have h := oL_e ey1 h
  refine aw_istore (lv' := [(0, .ref (N.1 0)), (1, .int x1), (2, .int x2), (3, .int x3), (4, .int x4), (5, .int y1)]) C [1, 2, 3, 4, 5, 0] dX12_gives_1 (by decide) rfl ?_
  refine aw_sub (lv' := [(0, .ref (N.1 0)), (1, .int x1), (2, .int x2), (3, .int x3), (4, .int x4), (5, .int y1)]) [0, 1, 2, 3, 4, 5] rfl ?_
  exact T_X12_gives_3 C hE 100000 s0 x1 x2 x3 x4 y1 h
def f_X12_gives (s0 : St) (x1 : Int32) (x2 : Int32) (x3 : Int32) (x4 : Int32) : Option (Int32 × St) := oC (F_X12_gives_0 s0 x1 x2 x3 x4) fun w => oZ w.1 (some w)
theorem c_X12_gives (l : Launch) (D : va_G) (N : Nm) (s0 z1 : St) (x1 : Int32) (x2 : Int32) (x3 : Int32) (x4 : Int32) (r : Int32) (h : f_X12_gives s0 x1 x2 x3 x4 = some (r, z1)) : Meti l yX12_gives (tsU yX12_gives cX12_gives 7 (some .boolean)) rm_X12_gives D N [.ref (N.1 0), .int x1, .int x2, .int x3, .int x4] (wR N s0) r (wR N z1) := by
  obtain ⟨w, h1, h2⟩ := oC_e h
  obtain ⟨hz, h2⟩ := oZ_e h2
  cases h2
  exact met_z (cc := cX12_gives) (nL := 7) (own := RX12) (by decide) rfl (Nat.le_of_ble_eq_true rfl) (zN hz) (fun p e s m args below meth c Q A C hE => aw_sub [0, 1, 2, 3, 4] rfl (T_X12_gives_0 C hE s0 x1 x2 x3 x4 h1))
/-! AwardLineModel.weights(II)I -/
def rm_X12_weights : Room := { frames := 3, cells := 0, slots := 0, locals := 64 }
def F_X12_weights_20 (s0 : St) : Option (Int32 × St) :=
  some ((-1 : Int32), s0)
set_option maxHeartbeats 4000000 in
set_option maxRecDepth 100000 in
theorem T_X12_weights_20 {r : Int32} {z1 : St} (C : Cx p rm_X12_weights s m args c D A cX12_weights 5 RX12 rm_X12_weights N) (hE : En p l e rm_X12_weights s m args below meth c Q D A cX12_weights .ireturn (wR N z1) [.int r])  (s0 : St) (h : F_X12_weights_20 s0 = some (r, z1)) : Aw p l e rm_X12_weights s m args below meth c Q D A 5 (wR N s0) 20 [] [] := by
  unfold F_X12_weights_20 at h
  refine aw_iconst (v := -1) C dX12_weights_20 (by decide) ?_
  cases h
  exact aw_ret hE dX12_weights_21
def F_X12_weights_151_b (k151 : St → Int32 → Int32 → Option (Int32 × St)) (s0 : St) (x1 : Int32) (x3 : Int32) : Option (Int32 × St) :=
  if (1000 : Int32) ≤ x3 then (
    some ((-1 : Int32), s0))
  else (
    oD (100 : Int32) <|
    oD (10 : Int32) <|
    oD (10 : Int32) <|
    oD (10 : Int32) <|
    oC (f_X12_gives s0 x1 (x3 / (100 : Int32)) ((x3 / (10 : Int32)) - (x3 / (10 : Int32)) / (10 : Int32) * (10 : Int32)) (x3 - x3 / (10 : Int32) * (10 : Int32))) fun w7 =>
    oL w7.1 fun v5 => oL w7.2 fun s6 =>
    if v5 = 0 then (
      oL (x3 + (1 : Int32)) fun y8 =>
      k151 s6 x1 y8)
    else (
      some (x3, s6)))
set_option maxHeartbeats 4000000 in
set_option maxRecDepth 100000 in
theorem T_X12_weights_151_b {r : Int32} {z1 : St} {k151 : St → Int32 → Int32 → Option (Int32 × St)} (C : Cx p rm_X12_weights s m args c D A cX12_weights 5 RX12 rm_X12_weights N) (hE : En p l e rm_X12_weights s m args below meth c Q D A cX12_weights .ireturn (wR N z1) [.int r]) (hk151 : ∀ (s0 : St) (x1 : Int32) (x3 : Int32), k151 s0 x1 x3 = some (r, z1) → Aw p l e rm_X12_weights s m args below meth c Q D A 5 (wR N s0) 151 [(0, .ref (N.1 0)), (1, .int x1), (3, .int x3)] []) (s0 : St) (x1 : Int32) (x3 : Int32) (h : F_X12_weights_151_b k151 s0 x1 x3 = some (r, z1)) : Aw p l e rm_X12_weights s m args below meth c Q D A 5 (wR N s0) 151 [(0, .ref (N.1 0)), (1, .int x1), (3, .int x3)] [] := by
  unfold F_X12_weights_151_b at h
  refine aw_iload_n C 2 dX12_weights_151 rfl ?_
  refine aw_sipush (v := 1000) C dX12_weights_152 (by decide) ?_
  refine aw_icmp_ge (tgt := 189) C dX12_weights_155 (by decide) (fun q => ?_) (fun q => ?_)
  · have h := bq_t q h
    refine aw_iconst (v := -1) C dX12_weights_189 (by decide) ?_
    cases h
    exact aw_ret hE dX12_weights_190
  · have h := bq_f q h
    refine aw_aload_n C 0 dX12_weights_158 rfl ?_
    refine aw_iload_n C 1 dX12_weights_159 rfl ?_
    refine aw_iload_n C 2 dX12_weights_160 rfl ?_
    refine aw_bipush (v := 100) C dX12_weights_161 (by decide) ?_
    obtain ⟨q1, h⟩ := oD_e h
    refine aw_idiv C dX12_weights_163 q1 ?_
    refine aw_iload_n C 2 dX12_weights_164 rfl ?_
    refine aw_bipush (v := 10) C dX12_weights_165 (by decide) ?_
    obtain ⟨q2, h⟩ := oD_e h
    refine aw_idiv C dX12_weights_167 q2 ?_
    refine aw_bipush (v := 10) C dX12_weights_168 (by decide) ?_
    obtain ⟨q3, h⟩ := oD_e h
    refine aw_irem C dX12_weights_170 q3 ?_
    refine aw_iload_n C 2 dX12_weights_171 rfl ?_
    refine aw_bipush (v := 10) C dX12_weights_172 (by decide) ?_
    obtain ⟨q4, h⟩ := oD_e h
    refine aw_irem C dX12_weights_174 q4 ?_
    obtain ⟨⟨v5, s6⟩, cw7, h⟩ := oC_e h
    have h := oL_e (x := s6) rfl (oL_e (x := v5) rfl h)
    refine aw_callVi (n := 4) (As := [.int x1, .int (x3 / (100 : Int32)), .int ((x3 / (10 : Int32)) - (x3 / (10 : Int32)) / (10 : Int32) * (10 : Int32)), .int (x3 - x3 / (10 : Int32) * (10 : Int32))]) (rest := []) (q0 := 0) C (c_X12_gives l D N s0 s6 x1 (x3 / (100 : Int32)) ((x3 / (10 : Int32)) - (x3 / (10 : Int32)) / (10 : Int32) * (10 : Int32)) (x3 - x3 / (10 : Int32) * (10 : Int32)) v5 cw7) lw_43_19 lw_43_20 lw_43_21 lw_1_5 lw_43_22 rfl rfl (by decide +kernel) ⟨Nat.le_of_ble_eq_true rfl, Nat.le_of_ble_eq_true rfl⟩ rfl rfl rfl rfl rfl (Nat.le_of_ble_eq_true rfl) dX12_weights_175 ?_
    refine aw_if_eq (tgt := 183) C dX12_weights_178 (by decide) (fun q => ?_) (fun q => ?_)
    · have h := bq_t q h
      obtain ⟨y8, ey8⟩ : ∃ q : Int32, q = x3 + (1 : Int32) := ⟨_, rfl⟩
      have h := oL_e ey8 h
      refine aw_iinc (v := y8) (k := 2) (lv' := [(0, .ref (N.1 0)), (1, .int x1), (3, .int y8)]) C [1, 2, 0] dX12_weights_183 rfl (by rw [ey8]; rfl) (by decide) rfl ?_
      refine aw_goto (tgt := 151) C dX12_weights_186 (by decide) ?_
      refine aw_sub (lv' := [(0, .ref (N.1 0)), (1, .int x1), (3, .int y8)]) [0, 1, 2] rfl ?_
      exact hk151 s6 x1 y8 h
    · have h := bq_f q h
      refine aw_iload_n C 2 dX12_weights_181 rfl ?_
      cases h
      exact aw_ret hE dX12_weights_182
def F_X12_weights_151 : Nat → St → Int32 → Int32 → Option (Int32 × St)
  | 0 => fun _ _ _ => none
  | n + 1 => F_X12_weights_151_b (F_X12_weights_151 n)
theorem T_X12_weights_151 {r : Int32} {z1 : St} (C : Cx p rm_X12_weights s m args c D A cX12_weights 5 RX12 rm_X12_weights N) (hE : En p l e rm_X12_weights s m args below meth c Q D A cX12_weights .ireturn (wR N z1) [.int r])  : ∀ (n : Nat) (s0 : St) (x1 : Int32) (x3 : Int32), F_X12_weights_151 n s0 x1 x3 = some (r, z1) → Aw p l e rm_X12_weights s m args below meth c Q D A 5 (wR N s0) 151 [(0, .ref (N.1 0)), (1, .int x1), (3, .int x3)] [] := by
  intro n
  induction n with
  | zero => intro s0 x1 x3 h; cases h
  | succ n ih => intro s0 x1 x3 h; exact T_X12_weights_151_b C hE ih s0 x1 x3 h
def F_X12_weights_112 (k29 : St → Int32 → Int32 → Option (Int32 × St)) (s0 : St) (x1 : Int32) (x3 : Int32) (x4 : Int32) (t0 : Int32) (t1 : Int32) : Option (Int32 × St) :=
  oA t1 75 <|
  oL (sA s0 25 (upd (s0.2.1 25) (Int32.toNatClampNeg t1) t0)) fun s2 =>
  oC (f_X12_bits s2 (x4 &&& x1)) fun w5 =>
  oL w5.1 fun v3 => oL w5.2 fun s4 =>
  oC (f_X12_bits s4 (x4 &&& (x1 ^^^ (-1 : Int32)))) fun w8 =>
  oL w8.1 fun v6 => oL w8.2 fun s7 =>
  oA (((3 : Int32) * x3) + (2 : Int32)) 75 <|
  oL (sA s7 25 (upd (s7.2.1 25) (Int32.toNatClampNeg (((3 : Int32) * x3) + (2 : Int32))) ((10 : Int32) * (v3 - v6)))) fun s10 =>
  oL (x3 + (1 : Int32)) fun y11 =>
  k29 s10 x1 y11
set_option maxHeartbeats 4000000 in
set_option maxRecDepth 100000 in
theorem T_X12_weights_112 {r : Int32} {z1 : St} {k29 : St → Int32 → Int32 → Option (Int32 × St)} (C : Cx p rm_X12_weights s m args c D A cX12_weights 5 RX12 rm_X12_weights N) (hE : En p l e rm_X12_weights s m args below meth c Q D A cX12_weights .ireturn (wR N z1) [.int r]) (hk29 : ∀ (s0 : St) (x1 : Int32) (x3 : Int32), k29 s0 x1 x3 = some (r, z1) → Aw p l e rm_X12_weights s m args below meth c Q D A 5 (wR N s0) 29 [(0, .ref (N.1 0)), (1, .int x1), (3, .int x3)] []) (s0 : St) (x1 : Int32) (x3 : Int32) (x4 : Int32) (t0 : Int32) (t1 : Int32) (h : F_X12_weights_112 k29 s0 x1 x3 x4 t0 t1 = some (r, z1)) : Aw p l e rm_X12_weights s m args below meth c Q D A 5 (wR N s0) 112 [(0, .ref (N.1 0)), (1, .int x1), (3, .int x3), (4, .int x4)] [.int t0, .int t1, .ref (N.2.1 25)] := by
  unfold F_X12_weights_112 at h
  obtain ⟨q1, h⟩ := oA_e h
  refine ra_iast (k := 25) C (by decide) rfl q1 dX12_weights_112 ?_
  refine ra_name (fun s2 es2 => ?_)
  have h := oL_e es2 h
  refine aw_aload_n C 0 dX12_weights_113 rfl ?_
  refine rg_md_lean C lw_9_2 dX12_weights_114 ?_
  refine aw_iconst (v := 3) C dX12_weights_117 (by decide) ?_
  refine aw_iload_n C 2 dX12_weights_118 rfl ?_
  refine aw_imul C dX12_weights_119 ?_
  refine aw_iconst (v := 2) C dX12_weights_120 (by decide) ?_
  refine aw_iadd C dX12_weights_121 ?_
  refine aw_bipush (v := 10) C dX12_weights_122 (by decide) ?_
  refine aw_iload C 3 dX12_weights_124 rfl ?_
  refine aw_iload_n C 1 dX12_weights_126 rfl ?_
  refine aw_iand C dX12_weights_127 ?_
  obtain ⟨⟨v3, s4⟩, cw5, h⟩ := oC_e h
  have h := oL_e (x := s4) rfl (oL_e (x := v3) rfl h)
  refine aw_callSi (n := 1) (As := [.int (x4 &&& x1)]) (rest := [.int (10 : Int32), .int (((3 : Int32) * x3) + (2 : Int32)), .ref (N.2.1 25)]) C (c_X12_bits l D N s2 s4 (x4 &&& x1) v3 cw5) lw_35_14 lw_35_15 lw_1_5 lw_35_16 rfl rfl (by decide +kernel) ⟨Nat.le_of_ble_eq_true rfl, Nat.le_of_ble_eq_true rfl⟩ rfl rfl (Nat.le_of_ble_eq_true rfl) dX12_weights_128 ?_
  refine aw_iload C 3 dX12_weights_131 rfl ?_
  refine aw_iload_n C 1 dX12_weights_133 rfl ?_
  refine aw_iconst (v := -1) C dX12_weights_134 (by decide) ?_
  refine aw_ixor C dX12_weights_135 ?_
  refine aw_iand C dX12_weights_136 ?_
  obtain ⟨⟨v6, s7⟩, cw8, h⟩ := oC_e h
  have h := oL_e (x := s7) rfl (oL_e (x := v6) rfl h)
  refine aw_callSi (n := 1) (As := [.int (x4 &&& (x1 ^^^ (-1 : Int32)))]) (rest := [.int v3, .int (10 : Int32), .int (((3 : Int32) * x3) + (2 : Int32)), .ref (N.2.1 25)]) C (c_X12_bits l D N s4 s7 (x4 &&& (x1 ^^^ (-1 : Int32))) v6 cw8) lw_35_14 lw_35_15 lw_1_5 lw_35_16 rfl rfl (by decide +kernel) ⟨Nat.le_of_ble_eq_true rfl, Nat.le_of_ble_eq_true rfl⟩ rfl rfl (Nat.le_of_ble_eq_true rfl) dX12_weights_137 ?_
  refine aw_isub C dX12_weights_140 ?_
  refine aw_imul C dX12_weights_141 ?_
  obtain ⟨q9, h⟩ := oA_e h
  refine ra_iast (k := 25) C (by decide) rfl q9 dX12_weights_142 ?_
  refine ra_name (fun s10 es10 => ?_)
  have h := oL_e es10 h
  obtain ⟨y11, ey11⟩ : ∃ q : Int32, q = x3 + (1 : Int32) := ⟨_, rfl⟩
  have h := oL_e ey11 h
  refine aw_iinc (v := y11) (k := 2) (lv' := [(0, .ref (N.1 0)), (1, .int x1), (3, .int y11), (4, .int x4)]) C [1, 2, 0, 3] dX12_weights_143 rfl (by rw [ey11]; rfl) (by decide) rfl ?_
  refine aw_goto (tgt := 29) C dX12_weights_146 (by decide) ?_
  refine aw_sub (lv' := [(0, .ref (N.1 0)), (1, .int x1), (3, .int y11)]) [0, 1, 2] rfl ?_
  exact hk29 s10 x1 y11 h
def F_X12_weights_29_b (k29 : St → Int32 → Int32 → Option (Int32 × St)) (s0 : St) (x1 : Int32) (x3 : Int32) : Option (Int32 × St) :=
  oC (f_X12_cells s0) fun w3 =>
  oL w3.1 fun v1 => oL w3.2 fun s2 =>
  if v1 ≤ x3 then (
    oL (0 : Int32) fun y4 =>
    F_X12_weights_151 100000 s2 x1 y4)
  else (
    oC (f_X12_around s2 ((1 : Int32) <<< (x3 &&& 31))) fun w7 =>
    oL w7.1 fun v5 => oL w7.2 fun s6 =>
    oA ((2 : Int32) * x3) 50 <|
    oA (((2 : Int32) * x3) + (1 : Int32)) 50 <|
    oA ((3 : Int32) * x3) 75 <|
    oL (sA s6 25 (upd (s6.2.1 25) (Int32.toNatClampNeg ((3 : Int32) * x3)) ((s6.2.1 24 (Int32.toNatClampNeg ((2 : Int32) * x3))) - (s6.2.1 24 (Int32.toNatClampNeg (((2 : Int32) * x3) + (1 : Int32))))))) fun s11 =>
    oA x3 25 <|
    if (s11.2.1 8 (Int32.toNatClampNeg x3)) = 0 then (
      F_X12_weights_112 k29 s11 x1 x3 v5 (10 : Int32) (((3 : Int32) * x3) + (1 : Int32)))
    else (
      oA x3 25 <|
      if (s11.2.1 8 (Int32.toNatClampNeg x3)) = (1 : Int32) then (
        F_X12_weights_112 k29 s11 x1 x3 v5 (-10 : Int32) (((3 : Int32) * x3) + (1 : Int32)))
      else (
        F_X12_weights_112 k29 s11 x1 x3 v5 (0 : Int32) (((3 : Int32) * x3) + (1 : Int32)))))
set_option maxHeartbeats 4000000 in
set_option maxRecDepth 100000 in
theorem T_X12_weights_29_b {r : Int32} {z1 : St} {k29 : St → Int32 → Int32 → Option (Int32 × St)} (C : Cx p rm_X12_weights s m args c D A cX12_weights 5 RX12 rm_X12_weights N) (hE : En p l e rm_X12_weights s m args below meth c Q D A cX12_weights .ireturn (wR N z1) [.int r]) (hk29 : ∀ (s0 : St) (x1 : Int32) (x3 : Int32), k29 s0 x1 x3 = some (r, z1) → Aw p l e rm_X12_weights s m args below meth c Q D A 5 (wR N s0) 29 [(0, .ref (N.1 0)), (1, .int x1), (3, .int x3)] []) (s0 : St) (x1 : Int32) (x3 : Int32) (h : F_X12_weights_29_b k29 s0 x1 x3 = some (r, z1)) : Aw p l e rm_X12_weights s m args below meth c Q D A 5 (wR N s0) 29 [(0, .ref (N.1 0)), (1, .int x1), (3, .int x3)] [] := by
  unfold F_X12_weights_29_b at h
  refine aw_iload_n C 2 dX12_weights_29 rfl ?_
  refine aw_aload_n C 0 dX12_weights_30 rfl ?_
  obtain ⟨⟨v1, s2⟩, cw3, h⟩ := oC_e h
  have h := oL_e (x := s2) rfl (oL_e (x := v1) rfl h)
  refine aw_callVi (n := 0) (As := []) (rest := [.int x3]) (q0 := 0) C (c_X12_cells l D N s0 s2 v1 cw3) lw_23_23 lw_24_0 lw_24_1 lw_1_5 lw_24_2 rfl rfl (by decide +kernel) ⟨Nat.le_of_ble_eq_true rfl, Nat.le_of_ble_eq_true rfl⟩ rfl rfl rfl rfl rfl (Nat.le_of_ble_eq_true rfl) dX12_weights_31 ?_
  refine aw_icmp_ge (tgt := 149) C dX12_weights_34 (by decide) (fun q => ?_) (fun q => ?_)
  · have h := bq_t q h
    refine aw_iconst (v := 0) C dX12_weights_149 (by decide) ?_
    refine aw_topi (fun y4 ey4 => ?_)
    have h := oL_e ey4 h
    refine aw_istore_n (lv' := [(0, .ref (N.1 0)), (1, .int x1), (3, .int y4)]) C [1, 2, 0] dX12_weights_150 rfl (by decide) rfl ?_
    refine aw_sub (lv' := [(0, .ref (N.1 0)), (1, .int x1), (3, .int y4)]) [0, 1, 2] rfl ?_
    exact T_X12_weights_151 C hE 100000 s2 x1 y4 h
  · have h := bq_f q h
    refine aw_aload_n C 0 dX12_weights_37 rfl ?_
    refine aw_iconst (v := 1) C dX12_weights_38 (by decide) ?_
    refine aw_iload_n C 2 dX12_weights_39 rfl ?_
    refine aw_ishl C dX12_weights_40 ?_
    obtain ⟨⟨v5, s6⟩, cw7, h⟩ := oC_e h
    have h := oL_e (x := s6) rfl (oL_e (x := v5) rfl h)
    refine aw_callVi (n := 1) (As := [.int ((1 : Int32) <<< (x3 &&& 31))]) (rest := []) (q0 := 0) C (c_X12_around l D N s2 s6 ((1 : Int32) <<< (x3 &&& 31)) v5 cw7) lw_40_14 lw_40_15 lw_40_16 lw_1_5 lw_40_17 rfl rfl (by decide +kernel) ⟨Nat.le_of_ble_eq_true rfl, Nat.le_of_ble_eq_true rfl⟩ rfl rfl rfl rfl rfl (Nat.le_of_ble_eq_true rfl) dX12_weights_41 ?_
    refine aw_istore (lv' := [(0, .ref (N.1 0)), (1, .int x1), (3, .int x3), (4, .int v5)]) C [1, 2, 3, 0] dX12_weights_44 (by decide) rfl ?_
    refine aw_aload_n C 0 dX12_weights_46 rfl ?_
    refine rg_md_lean C lw_9_2 dX12_weights_47 ?_
    refine aw_iconst (v := 3) C dX12_weights_50 (by decide) ?_
    refine aw_iload_n C 2 dX12_weights_51 rfl ?_
    refine aw_imul C dX12_weights_52 ?_
    refine aw_aload_n C 0 dX12_weights_53 rfl ?_
    refine rg_md_people C lw_9_1 dX12_weights_54 ?_
    refine aw_iconst (v := 2) C dX12_weights_57 (by decide) ?_
    refine aw_iload_n C 2 dX12_weights_58 rfl ?_
    refine aw_imul C dX12_weights_59 ?_
    obtain ⟨q8, h⟩ := oA_e h
    refine ra_iald (k := 24) C (by decide) rfl q8 dX12_weights_60 ?_
    refine aw_aload_n C 0 dX12_weights_61 rfl ?_
    refine rg_md_people C lw_9_1 dX12_weights_62 ?_
    refine aw_iconst (v := 2) C dX12_weights_65 (by decide) ?_
    refine aw_iload_n C 2 dX12_weights_66 rfl ?_
    refine aw_imul C dX12_weights_67 ?_
    refine aw_iconst (v := 1) C dX12_weights_68 (by decide) ?_
    refine aw_iadd C dX12_weights_69 ?_
    obtain ⟨q9, h⟩ := oA_e h
    refine ra_iald (k := 24) C (by decide) rfl q9 dX12_weights_70 ?_
    refine aw_isub C dX12_weights_71 ?_
    obtain ⟨q10, h⟩ := oA_e h
    refine ra_iast (k := 25) C (by decide) rfl q10 dX12_weights_72 ?_
    refine ra_name (fun s11 es11 => ?_)
    have h := oL_e es11 h
    refine aw_aload_n C 0 dX12_weights_73 rfl ?_
    refine rg_md_lean C lw_9_2 dX12_weights_74 ?_
    refine aw_iconst (v := 3) C dX12_weights_77 (by decide) ?_
    refine aw_iload_n C 2 dX12_weights_78 rfl ?_
    refine aw_imul C dX12_weights_79 ?_
    refine aw_iconst (v := 1) C dX12_weights_80 (by decide) ?_
    refine aw_iadd C dX12_weights_81 ?_
    refine aw_aload_n C 0 dX12_weights_82 rfl ?_
    refine rg_md_shrine C lw_8_9 dX12_weights_83 ?_
    refine aw_iload_n C 2 dX12_weights_86 rfl ?_
    obtain ⟨q12, h⟩ := oA_e h
    refine ra_iald (k := 8) C (by decide) rfl q12 dX12_weights_87 ?_
    refine aw_if_ne (tgt := 96) C dX12_weights_88 (by decide) (fun q => ?_) (fun q => ?_)
    · have h := bq_f q h
      refine aw_aload_n C 0 dX12_weights_96 rfl ?_
      refine rg_md_shrine C lw_8_9 dX12_weights_97 ?_
      refine aw_iload_n C 2 dX12_weights_100 rfl ?_
      obtain ⟨q13, h⟩ := oA_e h
      refine ra_iald (k := 8) C (by decide) rfl q13 dX12_weights_101 ?_
      refine aw_iconst (v := 1) C dX12_weights_102 (by decide) ?_
      refine aw_icmp_ne (tgt := 111) C dX12_weights_103 (by decide) (fun q => ?_) (fun q => ?_)
      · have h := bq_f q h
        refine aw_iconst (v := 0) C dX12_weights_111 (by decide) ?_
        refine aw_sub (lv' := [(0, .ref (N.1 0)), (1, .int x1), (3, .int x3), (4, .int v5)]) [0, 1, 2, 3] rfl ?_
        exact T_X12_weights_112 C hE hk29 s11 x1 x3 v5 (0 : Int32) (((3 : Int32) * x3) + (1 : Int32)) h
      · have h := bq_t q h
        refine aw_bipush (v := -10) C dX12_weights_106 (by decide) ?_
        refine aw_goto (tgt := 112) C dX12_weights_108 (by decide) ?_
        refine aw_sub (lv' := [(0, .ref (N.1 0)), (1, .int x1), (3, .int x3), (4, .int v5)]) [0, 1, 2, 3] rfl ?_
        exact T_X12_weights_112 C hE hk29 s11 x1 x3 v5 (-10 : Int32) (((3 : Int32) * x3) + (1 : Int32)) h
    · have h := bq_t q h
      refine aw_bipush (v := 10) C dX12_weights_91 (by decide) ?_
      refine aw_goto (tgt := 112) C dX12_weights_93 (by decide) ?_
      refine aw_sub (lv' := [(0, .ref (N.1 0)), (1, .int x1), (3, .int x3), (4, .int v5)]) [0, 1, 2, 3] rfl ?_
      exact T_X12_weights_112 C hE hk29 s11 x1 x3 v5 (10 : Int32) (((3 : Int32) * x3) + (1 : Int32)) h
def F_X12_weights_29 : Nat → St → Int32 → Int32 → Option (Int32 × St)
  | 0 => fun _ _ _ => none
  | n + 1 => F_X12_weights_29_b (F_X12_weights_29 n)
theorem T_X12_weights_29 {r : Int32} {z1 : St} (C : Cx p rm_X12_weights s m args c D A cX12_weights 5 RX12 rm_X12_weights N) (hE : En p l e rm_X12_weights s m args below meth c Q D A cX12_weights .ireturn (wR N z1) [.int r])  : ∀ (n : Nat) (s0 : St) (x1 : Int32) (x3 : Int32), F_X12_weights_29 n s0 x1 x3 = some (r, z1) → Aw p l e rm_X12_weights s m args below meth c Q D A 5 (wR N s0) 29 [(0, .ref (N.1 0)), (1, .int x1), (3, .int x3)] [] := by
  intro n
  induction n with
  | zero => intro s0 x1 x3 h; cases h
  | succ n ih => intro s0 x1 x3 h; exact T_X12_weights_29_b C hE ih s0 x1 x3 h
def F_X12_weights_0 (s0 : St) (x1 : Int32) (x2 : Int32) : Option (Int32 × St) :=
  oL (sI s0 0 (0 : Int32)) fun s1 =>
  oC (f_X12_isLine s1 x1) fun w4 =>
  oL w4.1 fun v2 => oL w4.2 fun s3 =>
  if v2 = 0 then (
    F_X12_weights_20 s3)
  else (
    oC (f_X12_isDay s3 x2) fun w7 =>
    oL w7.1 fun v5 => oL w7.2 fun s6 =>
    if v5 = 0 then (
      F_X12_weights_20 s6)
    else (
      oC (f_X12_reckons s6 x2) fun w10 =>
      oL w10 fun s9 =>
      oL (0 : Int32) fun y11 =>
      F_X12_weights_29 100000 s9 x1 y11))
set_option maxHeartbeats 4000000 in
set_option maxRecDepth 100000 in
theorem T_X12_weights_0 {r : Int32} {z1 : St} (C : Cx p rm_X12_weights s m args c D A cX12_weights 5 RX12 rm_X12_weights N) (hE : En p l e rm_X12_weights s m args below meth c Q D A cX12_weights .ireturn (wR N z1) [.int r])  (s0 : St) (x1 : Int32) (x2 : Int32) (h : F_X12_weights_0 s0 x1 x2 = some (r, z1)) : Aw p l e rm_X12_weights s m args below meth c Q D A 5 (wR N s0) 0 [(0, .ref (N.1 0)), (1, .int x1), (2, .int x2)] [] := by
  unfold F_X12_weights_0 at h
  refine aw_aload_n C 0 dX12_weights_0 rfl ?_
  refine aw_iconst (v := 0) C dX12_weights_1 (by decide) ?_
  refine rp_md_thrown C lw_10_11 dX12_weights_2 ?_
  refine ra_name (fun s1 es1 => ?_)
  have h := oL_e es1 h
  refine aw_aload_n C 0 dX12_weights_5 rfl ?_
  refine aw_iload_n C 1 dX12_weights_6 rfl ?_
  obtain ⟨⟨v2, s3⟩, cw4, h⟩ := oC_e h
  have h := oL_e (x := s3) rfl (oL_e (x := v2) rfl h)
  refine aw_callVi (n := 1) (As := [.int x1]) (rest := []) (q0 := 0) C (c_X12_isLine l D N s1 s3 x1 v2 cw4) lw_36_9 lw_36_10 lw_36_11 lw_1_5 lw_36_12 rfl rfl (by decide +kernel) ⟨Nat.le_of_ble_eq_true rfl, Nat.le_of_ble_eq_true rfl⟩ rfl rfl rfl rfl rfl (Nat.le_of_ble_eq_true rfl) dX12_weights_7 ?_
  refine aw_if_eq (tgt := 20) C dX12_weights_10 (by decide) (fun q => ?_) (fun q => ?_)
  · have h := bq_t q h
    refine aw_sub (lv' := []) [] rfl ?_
    exact T_X12_weights_20 C hE s3 h
  · have h := bq_f q h
    refine aw_iload_n C 2 dX12_weights_13 rfl ?_
    obtain ⟨⟨v5, s6⟩, cw7, h⟩ := oC_e h
    have h := oL_e (x := s6) rfl (oL_e (x := v5) rfl h)
    refine aw_callSi (n := 1) (As := [.int x2]) (rest := []) C (c_X12_isDay l D N s3 s6 x2 v5 cw7) lw_29_4 lw_29_5 lw_1_5 lw_29_6 rfl rfl (by decide +kernel) ⟨Nat.le_of_ble_eq_true rfl, Nat.le_of_ble_eq_true rfl⟩ rfl rfl (Nat.le_of_ble_eq_true rfl) dX12_weights_14 ?_
    refine aw_if_ne (tgt := 22) C dX12_weights_17 (by decide) (fun q => ?_) (fun q => ?_)
    · have h := bq_f q h
      refine aw_aload_n C 0 dX12_weights_22 rfl ?_
      refine aw_iload_n C 2 dX12_weights_23 rfl ?_
      obtain ⟨s9, cw10, h⟩ := oC_e h
      have h := oL_e (x := s9) rfl h
      refine aw_callVv (n := 1) (As := [.int x2]) (rest := []) (q0 := 0) C (c_X12_reckons l D N s6 s9 x2 cw10) lw_33_17 lw_33_18 lw_33_19 lw_1_5 lw_33_20 rfl rfl (by decide +kernel) ⟨Nat.le_of_ble_eq_true rfl, Nat.le_of_ble_eq_true rfl⟩ rfl rfl rfl rfl rfl (Nat.le_of_ble_eq_true rfl) dX12_weights_24 ?_
      refine aw_iconst (v := 0) C dX12_weights_27 (by decide) ?_
      refine aw_topi (fun y11 ey11 => ?_)
      have h := oL_e ey11 h
      refine aw_istore_n (lv' := [(0, .ref (N.1 0)), (1, .int x1), (2, .int x2), (3, .int y11)]) C [1, 2, 3, 0] dX12_weights_28 rfl (by decide) rfl ?_
      refine aw_sub (lv' := [(0, .ref (N.1 0)), (1, .int x1), (3, .int y11)]) [0, 1, 3] rfl ?_
      exact T_X12_weights_29 C hE 100000 s9 x1 y11 h
    · have h := bq_t q h
      refine aw_sub (lv' := []) [] rfl ?_
      exact T_X12_weights_20 C hE s6 h
def f_X12_weights (s0 : St) (x1 : Int32) (x2 : Int32) : Option (Int32 × St) := F_X12_weights_0 s0 x1 x2
theorem c_X12_weights (l : Launch) (D : va_G) (N : Nm) (s0 z1 : St) (x1 : Int32) (x2 : Int32) (r : Int32) (h : f_X12_weights s0 x1 x2 = some (r, z1)) : Meti l yX12_weights (tsU yX12_weights cX12_weights 5 (some .int)) rm_X12_weights D N [.ref (N.1 0), .int x1, .int x2] (wR N s0) r (wR N z1) :=
  met_i (cc := cX12_weights) (nL := 5) (own := RX12) (by decide) rfl (Nat.le_of_ble_eq_true rfl) (fun p e s m args below meth c Q A C hE => aw_sub [0, 1, 2] rfl (T_X12_weights_0 C hE s0 x1 x2 h))
/-! AwardLineModel.tells(IIII)Z -/
def rm_X12_tells : Room := { frames := 0, cells := 0, slots := 0, locals := 0 }
def F_X12_tells_26 (s0 : St) : Option (Int32 × St) :=
  some ((0 : Int32), s0)
set_option maxHeartbeats 4000000 in
set_option maxRecDepth 100000 in
theorem T_X12_tells_26 {r : Int32} {z1 : St} (C : Cx p rm_X12_tells s m args c D A cX12_tells 5 RX12 rm_X12_tells N) (hE : En p l e rm_X12_tells s m args below meth c Q D A cX12_tells .ireturn (wR N z1) [.int r])  (s0 : St) (h : F_X12_tells_26 s0 = some (r, z1)) : Aw p l e rm_X12_tells s m args below meth c Q D A 5 (wR N s0) 26 [] [] := by
  unfold F_X12_tells_26 at h
  refine aw_iconst (v := 0) C dX12_tells_26 (by decide) ?_
  cases h
  exact aw_ret hE dX12_tells_27
def F_X12_tells_0 (s0 : St) (x1 : Int32) (x2 : Int32) (x3 : Int32) (x4 : Int32) : Option (Int32 × St) :=
  if x1 = x4 then (
    F_X12_tells_26 s0)
  else (
    oA x1 8 <|
    if x3 < (s0.2.1 26 (Int32.toNatClampNeg x1)) then (
      F_X12_tells_26 s0)
    else (
      oA x2 8 <|
      if x3 < (s0.2.1 26 (Int32.toNatClampNeg x2)) then (
        oA x2 8 <|
        oL (sA s0 26 (upd (s0.2.1 26) (Int32.toNatClampNeg x2) x3)) fun s4 =>
        some ((1 : Int32), s4))
      else (
        F_X12_tells_26 s0)))
set_option maxHeartbeats 4000000 in
set_option maxRecDepth 100000 in
theorem T_X12_tells_0 {r : Int32} {z1 : St} (C : Cx p rm_X12_tells s m args c D A cX12_tells 5 RX12 rm_X12_tells N) (hE : En p l e rm_X12_tells s m args below meth c Q D A cX12_tells .ireturn (wR N z1) [.int r])  (s0 : St) (x1 : Int32) (x2 : Int32) (x3 : Int32) (x4 : Int32) (h : F_X12_tells_0 s0 x1 x2 x3 x4 = some (r, z1)) : Aw p l e rm_X12_tells s m args below meth c Q D A 5 (wR N s0) 0 [(0, .ref (N.1 0)), (1, .int x1), (2, .int x2), (3, .int x3), (4, .int x4)] [] := by
  unfold F_X12_tells_0 at h
  refine aw_iload_n C 1 dX12_tells_0 rfl ?_
  refine aw_iload C 4 dX12_tells_1 rfl ?_
  refine aw_icmp_eq (tgt := 26) C dX12_tells_3 (by decide) (fun q => ?_) (fun q => ?_)
  · have h := bq_t q h
    refine aw_sub (lv' := []) [] rfl ?_
    exact T_X12_tells_26 C hE s0 h
  · have h := bq_f q h
    refine aw_aload_n C 0 dX12_tells_6 rfl ?_
    refine rg_md_from C lw_9_3 dX12_tells_7 ?_
    refine aw_iload_n C 1 dX12_tells_10 rfl ?_
    obtain ⟨q1, h⟩ := oA_e h
    refine ra_iald (k := 26) C (by decide) rfl q1 dX12_tells_11 ?_
    refine aw_iload_n C 3 dX12_tells_12 rfl ?_
    refine aw_icmp_gt (tgt := 26) C dX12_tells_13 (by decide) (fun q => ?_) (fun q => ?_)
    · have h := bq_t q h
      refine aw_sub (lv' := []) [] rfl ?_
      exact T_X12_tells_26 C hE s0 h
    · have h := bq_f q h
      refine aw_aload_n C 0 dX12_tells_16 rfl ?_
      refine rg_md_from C lw_9_3 dX12_tells_17 ?_
      refine aw_iload_n C 2 dX12_tells_20 rfl ?_
      obtain ⟨q2, h⟩ := oA_e h
      refine ra_iald (k := 26) C (by decide) rfl q2 dX12_tells_21 ?_
      refine aw_iload_n C 3 dX12_tells_22 rfl ?_
      refine aw_icmp_gt (tgt := 28) C dX12_tells_23 (by decide) (fun q => ?_) (fun q => ?_)
      · have h := bq_t q h
        refine aw_aload_n C 0 dX12_tells_28 rfl ?_
        refine rg_md_from C lw_9_3 dX12_tells_29 ?_
        refine aw_iload_n C 2 dX12_tells_32 rfl ?_
        refine aw_iload_n C 3 dX12_tells_33 rfl ?_
        obtain ⟨q3, h⟩ := oA_e h
        refine ra_iast (k := 26) C (by decide) rfl q3 dX12_tells_34 ?_
        refine ra_name (fun s4 es4 => ?_)
        have h := oL_e es4 h
        refine aw_iconst (v := 1) C dX12_tells_35 (by decide) ?_
        cases h
        exact aw_ret hE dX12_tells_36
      · have h := bq_f q h
        refine aw_sub (lv' := []) [] rfl ?_
        exact T_X12_tells_26 C hE s0 h
def f_X12_tells (s0 : St) (x1 : Int32) (x2 : Int32) (x3 : Int32) (x4 : Int32) : Option (Int32 × St) := oC (F_X12_tells_0 s0 x1 x2 x3 x4) fun w => oZ w.1 (some w)
theorem c_X12_tells (l : Launch) (D : va_G) (N : Nm) (s0 z1 : St) (x1 : Int32) (x2 : Int32) (x3 : Int32) (x4 : Int32) (r : Int32) (h : f_X12_tells s0 x1 x2 x3 x4 = some (r, z1)) : Meti l yX12_tells (tsU yX12_tells cX12_tells 5 (some .boolean)) rm_X12_tells D N [.ref (N.1 0), .int x1, .int x2, .int x3, .int x4] (wR N s0) r (wR N z1) := by
  obtain ⟨w, h1, h2⟩ := oC_e h
  obtain ⟨hz, h2⟩ := oZ_e h2
  cases h2
  exact met_z (cc := cX12_tells) (nL := 5) (own := RX12) (by decide) rfl (Nat.le_of_ble_eq_true rfl) (zN hz) (fun p e s m args below meth c Q A C hE => aw_sub [0, 1, 2, 3, 4] rfl (T_X12_tells_0 C hE s0 x1 x2 x3 x4 h1))
/-! AwardLineModel.spreads(II)V -/
def rm_X12_spreads : Room := { frames := 1, cells := 0, slots := 0, locals := 24 }
def F_X12_spreads_199 (k100 : St → Int32 → Int32 → Option (St)) (k109 : St → Int32 → Int32 → Int32 → Option (St)) (s0 : St) (x2 : Int32) (x3 : Int32) (x4 : Int32) : Option (St) :=
  oL (x4 + (1 : Int32)) fun y1 =>
  k109 s0 x2 x3 y1
set_option maxHeartbeats 4000000 in
set_option maxRecDepth 100000 in
theorem T_X12_spreads_199 {z1 : St} {k100 : St → Int32 → Int32 → Option (St)} {k109 : St → Int32 → Int32 → Int32 → Option (St)} (C : Cx p rm_X12_spreads s m args c D A cX12_spreads 5 RX12 rm_X12_spreads N) (hE : En p l e rm_X12_spreads s m args below meth c Q D A cX12_spreads .return_ (wR N z1) []) (hk100 : ∀ (s0 : St) (x2 : Int32) (x3 : Int32), k100 s0 x2 x3 = some z1 → Aw p l e rm_X12_spreads s m args below meth c Q D A 5 (wR N s0) 100 [(0, .ref (N.1 0)), (2, .int x2), (3, .int x3)] []) (hk109 : ∀ (s0 : St) (x2 : Int32) (x3 : Int32) (x4 : Int32), k109 s0 x2 x3 x4 = some z1 → Aw p l e rm_X12_spreads s m args below meth c Q D A 5 (wR N s0) 109 [(0, .ref (N.1 0)), (2, .int x2), (3, .int x3), (4, .int x4)] []) (s0 : St) (x2 : Int32) (x3 : Int32) (x4 : Int32) (h : F_X12_spreads_199 k100 k109 s0 x2 x3 x4 = some z1) : Aw p l e rm_X12_spreads s m args below meth c Q D A 5 (wR N s0) 199 [(0, .ref (N.1 0)), (2, .int x2), (3, .int x3), (4, .int x4)] [] := by
  unfold F_X12_spreads_199 at h
  obtain ⟨y1, ey1⟩ : ∃ q : Int32, q = x4 + (1 : Int32) := ⟨_, rfl⟩
  have h := oL_e ey1 h
  refine aw_iinc (v := y1) (k := 3) (lv' := [(0, .ref (N.1 0)), (2, .int x2), (3, .int x3), (4, .int y1)]) C [1, 2, 3, 0] dX12_spreads_199 rfl (by rw [ey1]; rfl) (by decide) rfl ?_
  refine aw_goto (tgt := 109) C dX12_spreads_202 (by decide) ?_
  refine aw_sub (lv' := [(0, .ref (N.1 0)), (2, .int x2), (3, .int x3), (4, .int y1)]) [0, 1, 2, 3] rfl ?_
  exact hk109 s0 x2 x3 y1 h
def F_X12_spreads_197 (k100 : St → Int32 → Int32 → Option (St)) (k109 : St → Int32 → Int32 → Int32 → Option (St)) (s0 : St) (x2 : Int32) (x4 : Int32) : Option (St) :=
  oL (1 : Int32) fun y1 =>
  F_X12_spreads_199 k100 k109 s0 x2 y1 x4
set_option maxHeartbeats 4000000 in
set_option maxRecDepth 100000 in
theorem T_X12_spreads_197 {z1 : St} {k100 : St → Int32 → Int32 → Option (St)} {k109 : St → Int32 → Int32 → Int32 → Option (St)} (C : Cx p rm_X12_spreads s m args c D A cX12_spreads 5 RX12 rm_X12_spreads N) (hE : En p l e rm_X12_spreads s m args below meth c Q D A cX12_spreads .return_ (wR N z1) []) (hk100 : ∀ (s0 : St) (x2 : Int32) (x3 : Int32), k100 s0 x2 x3 = some z1 → Aw p l e rm_X12_spreads s m args below meth c Q D A 5 (wR N s0) 100 [(0, .ref (N.1 0)), (2, .int x2), (3, .int x3)] []) (hk109 : ∀ (s0 : St) (x2 : Int32) (x3 : Int32) (x4 : Int32), k109 s0 x2 x3 x4 = some z1 → Aw p l e rm_X12_spreads s m args below meth c Q D A 5 (wR N s0) 109 [(0, .ref (N.1 0)), (2, .int x2), (3, .int x3), (4, .int x4)] []) (s0 : St) (x2 : Int32) (x4 : Int32) (h : F_X12_spreads_197 k100 k109 s0 x2 x4 = some z1) : Aw p l e rm_X12_spreads s m args below meth c Q D A 5 (wR N s0) 197 [(0, .ref (N.1 0)), (2, .int x2), (4, .int x4)] [] := by
  unfold F_X12_spreads_197 at h
  refine aw_iconst (v := 1) C dX12_spreads_197 (by decide) ?_
  refine aw_topi (fun y1 ey1 => ?_)
  have h := oL_e ey1 h
  refine aw_istore_n (lv' := [(0, .ref (N.1 0)), (2, .int x2), (3, .int y1), (4, .int x4)]) C [1, 2, 0, 3] dX12_spreads_198 rfl (by decide) rfl ?_
  refine aw_sub (lv' := [(0, .ref (N.1 0)), (2, .int x2), (3, .int y1), (4, .int x4)]) [0, 1, 2, 3] rfl ?_
  exact T_X12_spreads_199 C hE hk100 hk109 s0 x2 y1 x4 h
def F_X12_spreads_109_b (k100 : St → Int32 → Int32 → Option (St)) (k109 : St → Int32 → Int32 → Int32 → Option (St)) (s0 : St) (x2 : Int32) (x3 : Int32) (x4 : Int32) : Option (St) :=
  if (s0.1 27) ≤ x4 then (
    k100 s0 x2 x3)
  else (
    oA x4 80 <|
    if (s0.2.1 23 (Int32.toNatClampNeg x4)) = 0 then (
      F_X12_spreads_199 k100 k109 s0 x2 x3 x4)
    else (
      oA x4 80 <|
      if (s0.2.1 16 (Int32.toNatClampNeg x4)) = (1 : Int32) then (
        oA x4 80 <|
        oA x4 80 <|
        oA x4 80 <|
        oC (f_X12_tells s0 (s0.2.1 18 (Int32.toNatClampNeg x4)) (s0.2.1 19 (Int32.toNatClampNeg x4)) (s0.2.1 20 (Int32.toNatClampNeg x4)) x2) fun w8 =>
        oL w8.1 fun v6 => oL w8.2 fun s7 =>
        if v6 = 0 then (
          oA x4 80 <|
          oA x4 80 <|
          oA x4 80 <|
          oC (f_X12_tells s7 (s7.2.1 19 (Int32.toNatClampNeg x4)) (s7.2.1 18 (Int32.toNatClampNeg x4)) (s7.2.1 20 (Int32.toNatClampNeg x4)) x2) fun w14 =>
          oL w14.1 fun v12 => oL w14.2 fun s13 =>
          if v12 = 0 then (
            F_X12_spreads_199 k100 k109 s13 x2 x3 x4)
          else (
            F_X12_spreads_197 k100 k109 s13 x2 x4))
        else (
          F_X12_spreads_197 k100 k109 s7 x2 x4))
      else (
        F_X12_spreads_199 k100 k109 s0 x2 x3 x4)))
set_option maxHeartbeats 4000000 in
set_option maxRecDepth 100000 in
theorem T_X12_spreads_109_b {z1 : St} {k100 : St → Int32 → Int32 → Option (St)} {k109 : St → Int32 → Int32 → Int32 → Option (St)} (C : Cx p rm_X12_spreads s m args c D A cX12_spreads 5 RX12 rm_X12_spreads N) (hE : En p l e rm_X12_spreads s m args below meth c Q D A cX12_spreads .return_ (wR N z1) []) (hk100 : ∀ (s0 : St) (x2 : Int32) (x3 : Int32), k100 s0 x2 x3 = some z1 → Aw p l e rm_X12_spreads s m args below meth c Q D A 5 (wR N s0) 100 [(0, .ref (N.1 0)), (2, .int x2), (3, .int x3)] []) (hk109 : ∀ (s0 : St) (x2 : Int32) (x3 : Int32) (x4 : Int32), k109 s0 x2 x3 x4 = some z1 → Aw p l e rm_X12_spreads s m args below meth c Q D A 5 (wR N s0) 109 [(0, .ref (N.1 0)), (2, .int x2), (3, .int x3), (4, .int x4)] []) (s0 : St) (x2 : Int32) (x3 : Int32) (x4 : Int32) (h : F_X12_spreads_109_b k100 k109 s0 x2 x3 x4 = some z1) : Aw p l e rm_X12_spreads s m args below meth c Q D A 5 (wR N s0) 109 [(0, .ref (N.1 0)), (2, .int x2), (3, .int x3), (4, .int x4)] [] := by
  unfold F_X12_spreads_109_b at h
  refine aw_iload C 3 dX12_spreads_109 rfl ?_
  refine aw_aload_n C 0 dX12_spreads_111 rfl ?_
  refine rg_md_notes C lw_9_16 dX12_spreads_112 ?_
  refine aw_icmp_ge (tgt := 205) C dX12_spreads_115 (by decide) (fun q => ?_) (fun q => ?_)
  · have h := bq_t q h
    refine aw_goto (tgt := 100) C dX12_spreads_205 (by decide) ?_
    refine aw_sub (lv' := [(0, .ref (N.1 0)), (2, .int x2), (3, .int x3)]) [0, 1, 2] rfl ?_
    exact hk100 s0 x2 x3 h
  · have h := bq_f q h
    refine aw_aload_n C 0 dX12_spreads_118 rfl ?_
    refine rg_md_counts C lw_9_0 dX12_spreads_119 ?_
    refine aw_iload C 3 dX12_spreads_122 rfl ?_
    obtain ⟨q1, h⟩ := oA_e h
    refine ra_zald (k := 23) C (by decide) rfl q1 dX12_spreads_124 ?_
    refine aw_if_eq (tgt := 199) C dX12_spreads_125 (by decide) (fun q => ?_) (fun q => ?_)
    · have h := bq_t q h
      refine aw_sub (lv' := [(0, .ref (N.1 0)), (2, .int x2), (3, .int x3), (4, .int x4)]) [0, 1, 2, 3] rfl ?_
      exact T_X12_spreads_199 C hE hk100 hk109 s0 x2 x3 x4 h
    · have h := bq_f q h
      refine aw_aload_n C 0 dX12_spreads_128 rfl ?_
      refine rg_md_kind C lw_8_17 dX12_spreads_129 ?_
      refine aw_iload C 3 dX12_spreads_132 rfl ?_
      obtain ⟨q2, h⟩ := oA_e h
      refine ra_iald (k := 16) C (by decide) rfl q2 dX12_spreads_134 ?_
      refine aw_iconst (v := 1) C dX12_spreads_135 (by decide) ?_
      refine aw_icmp_ne (tgt := 199) C dX12_spreads_136 (by decide) (fun q => ?_) (fun q => ?_)
      · have h := bq_f q h
        refine aw_sub (lv' := [(0, .ref (N.1 0)), (2, .int x2), (3, .int x3), (4, .int x4)]) [0, 1, 2, 3] rfl ?_
        exact T_X12_spreads_199 C hE hk100 hk109 s0 x2 x3 x4 h
      · have h := bq_t q h
        refine aw_aload_n C 0 dX12_spreads_139 rfl ?_
        refine aw_aload_n C 0 dX12_spreads_140 rfl ?_
        refine rg_md_one C lw_8_19 dX12_spreads_141 ?_
        refine aw_iload C 3 dX12_spreads_144 rfl ?_
        obtain ⟨q3, h⟩ := oA_e h
        refine ra_iald (k := 18) C (by decide) rfl q3 dX12_spreads_146 ?_
        refine aw_aload_n C 0 dX12_spreads_147 rfl ?_
        refine rg_md_two C lw_8_20 dX12_spreads_148 ?_
        refine aw_iload C 3 dX12_spreads_151 rfl ?_
        obtain ⟨q4, h⟩ := oA_e h
        refine ra_iald (k := 19) C (by decide) rfl q4 dX12_spreads_153 ?_
        refine aw_aload_n C 0 dX12_spreads_154 rfl ?_
        refine rg_md_three C lw_8_21 dX12_spreads_155 ?_
        refine aw_iload C 3 dX12_spreads_158 rfl ?_
        obtain ⟨q5, h⟩ := oA_e h
        refine ra_iald (k := 20) C (by decide) rfl q5 dX12_spreads_160 ?_
        refine aw_iload_n C 1 dX12_spreads_161 rfl ?_
        obtain ⟨⟨v6, s7⟩, cw8, h⟩ := oC_e h
        have h := oL_e (x := s7) rfl (oL_e (x := v6) rfl h)
        refine aw_callVi (n := 4) (As := [.int (s0.2.1 18 (Int32.toNatClampNeg x4)), .int (s0.2.1 19 (Int32.toNatClampNeg x4)), .int (s0.2.1 20 (Int32.toNatClampNeg x4)), .int x2]) (rest := []) (q0 := 0) C (c_X12_tells l D N s0 s7 (s0.2.1 18 (Int32.toNatClampNeg x4)) (s0.2.1 19 (Int32.toNatClampNeg x4)) (s0.2.1 20 (Int32.toNatClampNeg x4)) x2 v6 cw8) lw_45_11 lw_45_12 lw_45_13 lw_1_5 lw_45_14 rfl rfl (by decide +kernel) ⟨Nat.le_of_ble_eq_true rfl, Nat.le_of_ble_eq_true rfl⟩ rfl rfl rfl rfl rfl (Nat.le_of_ble_eq_true rfl) dX12_spreads_162 ?_
        refine aw_if_ne (tgt := 197) C dX12_spreads_165 (by decide) (fun q => ?_) (fun q => ?_)
        · have h := bq_f q h
          refine aw_sub (lv' := [(0, .ref (N.1 0)), (2, .int x2), (4, .int x4)]) [0, 1, 3] rfl ?_
          exact T_X12_spreads_197 C hE hk100 hk109 s7 x2 x4 h
        · have h := bq_t q h
          refine aw_aload_n C 0 dX12_spreads_168 rfl ?_
          refine aw_aload_n C 0 dX12_spreads_169 rfl ?_
          refine rg_md_two C lw_8_20 dX12_spreads_170 ?_
          refine aw_iload C 3 dX12_spreads_173 rfl ?_
          obtain ⟨q9, h⟩ := oA_e h
          refine ra_iald (k := 19) C (by decide) rfl q9 dX12_spreads_175 ?_
          refine aw_aload_n C 0 dX12_spreads_176 rfl ?_
          refine rg_md_one C lw_8_19 dX12_spreads_177 ?_
          refine aw_iload C 3 dX12_spreads_180 rfl ?_
          obtain ⟨q10, h⟩ := oA_e h
          refine ra_iald (k := 18) C (by decide) rfl q10 dX12_spreads_182 ?_
          refine aw_aload_n C 0 dX12_spreads_183 rfl ?_
          refine rg_md_three C lw_8_21 dX12_spreads_184 ?_
          refine aw_iload C 3 dX12_spreads_187 rfl ?_
          obtain ⟨q11, h⟩ := oA_e h
          refine ra_iald (k := 20) C (by decide) rfl q11 dX12_spreads_189 ?_
          refine aw_iload_n C 1 dX12_spreads_190 rfl ?_
          obtain ⟨⟨v12, s13⟩, cw14, h⟩ := oC_e h
          have h := oL_e (x := s13) rfl (oL_e (x := v12) rfl h)
          refine aw_callVi (n := 4) (As := [.int (s7.2.1 19 (Int32.toNatClampNeg x4)), .int (s7.2.1 18 (Int32.toNatClampNeg x4)), .int (s7.2.1 20 (Int32.toNatClampNeg x4)), .int x2]) (rest := []) (q0 := 0) C (c_X12_tells l D N s7 s13 (s7.2.1 19 (Int32.toNatClampNeg x4)) (s7.2.1 18 (Int32.toNatClampNeg x4)) (s7.2.1 20 (Int32.toNatClampNeg x4)) x2 v12 cw14) lw_45_11 lw_45_12 lw_45_13 lw_1_5 lw_45_14 rfl rfl (by decide +kernel) ⟨Nat.le_of_ble_eq_true rfl, Nat.le_of_ble_eq_true rfl⟩ rfl rfl rfl rfl rfl (Nat.le_of_ble_eq_true rfl) dX12_spreads_191 ?_
          refine aw_if_eq (tgt := 199) C dX12_spreads_194 (by decide) (fun q => ?_) (fun q => ?_)
          · have h := bq_t q h
            refine aw_sub (lv' := [(0, .ref (N.1 0)), (2, .int x2), (3, .int x3), (4, .int x4)]) [0, 1, 2, 3] rfl ?_
            exact T_X12_spreads_199 C hE hk100 hk109 s13 x2 x3 x4 h
          · have h := bq_f q h
            refine aw_sub (lv' := [(0, .ref (N.1 0)), (2, .int x2), (4, .int x4)]) [0, 1, 3] rfl ?_
            exact T_X12_spreads_197 C hE hk100 hk109 s13 x2 x4 h
def F_X12_spreads_109 (k100 : St → Int32 → Int32 → Option (St)) : Nat → St → Int32 → Int32 → Int32 → Option (St)
  | 0 => fun _ _ _ _ => none
  | n + 1 => F_X12_spreads_109_b k100 (F_X12_spreads_109 k100 n)
theorem T_X12_spreads_109 {z1 : St} {k100 : St → Int32 → Int32 → Option (St)} (C : Cx p rm_X12_spreads s m args c D A cX12_spreads 5 RX12 rm_X12_spreads N) (hE : En p l e rm_X12_spreads s m args below meth c Q D A cX12_spreads .return_ (wR N z1) []) (hk100 : ∀ (s0 : St) (x2 : Int32) (x3 : Int32), k100 s0 x2 x3 = some z1 → Aw p l e rm_X12_spreads s m args below meth c Q D A 5 (wR N s0) 100 [(0, .ref (N.1 0)), (2, .int x2), (3, .int x3)] []) : ∀ (n : Nat) (s0 : St) (x2 : Int32) (x3 : Int32) (x4 : Int32), F_X12_spreads_109 k100 n s0 x2 x3 x4 = some z1 → Aw p l e rm_X12_spreads s m args below meth c Q D A 5 (wR N s0) 109 [(0, .ref (N.1 0)), (2, .int x2), (3, .int x3), (4, .int x4)] [] := by
  intro n
  induction n with
  | zero => intro s0 x2 x3 x4 h; cases h
  | succ n ih => intro s0 x2 x3 x4 h; exact T_X12_spreads_109_b C hE hk100 ih s0 x2 x3 x4 h
def F_X12_spreads_100_b (k100 : St → Int32 → Int32 → Option (St)) (s0 : St) (x2 : Int32) (x3 : Int32) : Option (St) :=
  if x3 = 0 then (
    some s0)
  else (
    oL (0 : Int32) fun y1 =>
    oL (0 : Int32) fun y2 =>
    F_X12_spreads_109 k100 100000 s0 x2 y1 y2)
set_option maxHeartbeats 4000000 in
set_option maxRecDepth 100000 in
theorem T_X12_spreads_100_b {z1 : St} {k100 : St → Int32 → Int32 → Option (St)} (C : Cx p rm_X12_spreads s m args c D A cX12_spreads 5 RX12 rm_X12_spreads N) (hE : En p l e rm_X12_spreads s m args below meth c Q D A cX12_spreads .return_ (wR N z1) []) (hk100 : ∀ (s0 : St) (x2 : Int32) (x3 : Int32), k100 s0 x2 x3 = some z1 → Aw p l e rm_X12_spreads s m args below meth c Q D A 5 (wR N s0) 100 [(0, .ref (N.1 0)), (2, .int x2), (3, .int x3)] []) (s0 : St) (x2 : Int32) (x3 : Int32) (h : F_X12_spreads_100_b k100 s0 x2 x3 = some z1) : Aw p l e rm_X12_spreads s m args below meth c Q D A 5 (wR N s0) 100 [(0, .ref (N.1 0)), (2, .int x2), (3, .int x3)] [] := by
  unfold F_X12_spreads_100_b at h
  refine aw_iload_n C 2 dX12_spreads_100 rfl ?_
  refine aw_if_eq (tgt := 208) C dX12_spreads_101 (by decide) (fun q => ?_) (fun q => ?_)
  · have h := bq_t q h
    cases h
    exact aw_ret hE dX12_spreads_208
  · have h := bq_f q h
    refine aw_iconst (v := 0) C dX12_spreads_104 (by decide) ?_
    refine aw_topi (fun y1 ey1 => ?_)
    have h := oL_e ey1 h
    refine aw_istore_n (lv' := [(0, .ref (N.1 0)), (2, .int x2), (3, .int y1)]) C [1, 2, 0] dX12_spreads_105 rfl (by decide) rfl ?_
    refine aw_iconst (v := 0) C dX12_spreads_106 (by decide) ?_
    refine aw_topi (fun y2 ey2 => ?_)
    have h := oL_e ey2 h
    refine aw_istore (lv' := [(0, .ref (N.1 0)), (2, .int x2), (3, .int y1), (4, .int y2)]) C [1, 2, 3, 0] dX12_spreads_107 (by decide) rfl ?_
    refine aw_sub (lv' := [(0, .ref (N.1 0)), (2, .int x2), (3, .int y1), (4, .int y2)]) [0, 1, 2, 3] rfl ?_
    exact T_X12_spreads_109 C hE hk100 100000 s0 x2 y1 y2 h
def F_X12_spreads_100 : Nat → St → Int32 → Int32 → Option (St)
  | 0 => fun _ _ _ => none
  | n + 1 => F_X12_spreads_100_b (F_X12_spreads_100 n)
theorem T_X12_spreads_100 {z1 : St} (C : Cx p rm_X12_spreads s m args c D A cX12_spreads 5 RX12 rm_X12_spreads N) (hE : En p l e rm_X12_spreads s m args below meth c Q D A cX12_spreads .return_ (wR N z1) [])  : ∀ (n : Nat) (s0 : St) (x2 : Int32) (x3 : Int32), F_X12_spreads_100 n s0 x2 x3 = some z1 → Aw p l e rm_X12_spreads s m args below meth c Q D A 5 (wR N s0) 100 [(0, .ref (N.1 0)), (2, .int x2), (3, .int x3)] [] := by
  intro n
  induction n with
  | zero => intro s0 x2 x3 h; cases h
  | succ n ih => intro s0 x2 x3 h; exact T_X12_spreads_100_b C hE ih s0 x2 x3 h
def F_X12_spreads_92 (k25 : St → Int32 → Int32 → Int32 → Option (St)) (s0 : St) (x1 : Int32) (x2 : Int32) (x3 : Int32) : Option (St) :=
  oL (x3 + (1 : Int32)) fun y1 =>
  k25 s0 x1 x2 y1
set_option maxHeartbeats 4000000 in
set_option maxRecDepth 100000 in
theorem T_X12_spreads_92 {z1 : St} {k25 : St → Int32 → Int32 → Int32 → Option (St)} (C : Cx p rm_X12_spreads s m args c D A cX12_spreads 5 RX12 rm_X12_spreads N) (hE : En p l e rm_X12_spreads s m args below meth c Q D A cX12_spreads .return_ (wR N z1) []) (hk25 : ∀ (s0 : St) (x1 : Int32) (x2 : Int32) (x3 : Int32), k25 s0 x1 x2 x3 = some z1 → Aw p l e rm_X12_spreads s m args below meth c Q D A 5 (wR N s0) 25 [(0, .ref (N.1 0)), (1, .int x1), (2, .int x2), (3, .int x3)] []) (s0 : St) (x1 : Int32) (x2 : Int32) (x3 : Int32) (h : F_X12_spreads_92 k25 s0 x1 x2 x3 = some z1) : Aw p l e rm_X12_spreads s m args below meth c Q D A 5 (wR N s0) 92 [(0, .ref (N.1 0)), (1, .int x1), (2, .int x2), (3, .int x3)] [] := by
  unfold F_X12_spreads_92 at h
  obtain ⟨y1, ey1⟩ : ∃ q : Int32, q = x3 + (1 : Int32) := ⟨_, rfl⟩
  have h := oL_e ey1 h
  refine aw_iinc (v := y1) (k := 3) (lv' := [(0, .ref (N.1 0)), (1, .int x1), (2, .int x2), (3, .int y1)]) C [1, 2, 3, 0] dX12_spreads_92 rfl (by rw [ey1]; rfl) (by decide) rfl ?_
  refine aw_goto (tgt := 25) C dX12_spreads_95 (by decide) ?_
  refine aw_sub (lv' := [(0, .ref (N.1 0)), (1, .int x1), (2, .int x2), (3, .int y1)]) [0, 1, 2, 3] rfl ?_
  exact hk25 s0 x1 x2 y1 h
def F_X12_spreads_25_b (k25 : St → Int32 → Int32 → Int32 → Option (St)) (s0 : St) (x1 : Int32) (x2 : Int32) (x3 : Int32) : Option (St) :=
  if (s0.1 27) ≤ x3 then (
    oL (1 : Int32) fun y1 =>
    F_X12_spreads_100 100000 s0 x2 y1)
  else (
    oA x3 80 <|
    if (s0.2.1 23 (Int32.toNatClampNeg x3)) = 0 then (
      F_X12_spreads_92 k25 s0 x1 x2 x3)
    else (
      oA x3 80 <|
      if (s0.2.1 16 (Int32.toNatClampNeg x3)) = 0 then (
        oA x3 80 <|
        if (s0.2.1 18 (Int32.toNatClampNeg x3)) = x1 then (
          oA x3 80 <|
          oA x3 80 <|
          oA (s0.2.1 19 (Int32.toNatClampNeg x3)) 8 <|
          oA x3 80 <|
          oA (s0.2.1 19 (Int32.toNatClampNeg x3)) 8 <|
          oL (sA s0 26 (upd (s0.2.1 26) (Int32.toNatClampNeg (s0.2.1 19 (Int32.toNatClampNeg x3))) (jmin (s0.2.1 26 (Int32.toNatClampNeg (s0.2.1 19 (Int32.toNatClampNeg x3)))) (s0.2.1 20 (Int32.toNatClampNeg x3))))) fun s10 =>
          F_X12_spreads_92 k25 s10 x1 x2 x3)
        else (
          F_X12_spreads_92 k25 s0 x1 x2 x3))
      else (
        F_X12_spreads_92 k25 s0 x1 x2 x3)))
set_option maxHeartbeats 4000000 in
set_option maxRecDepth 100000 in
theorem T_X12_spreads_25_b {z1 : St} {k25 : St → Int32 → Int32 → Int32 → Option (St)} (C : Cx p rm_X12_spreads s m args c D A cX12_spreads 5 RX12 rm_X12_spreads N) (hE : En p l e rm_X12_spreads s m args below meth c Q D A cX12_spreads .return_ (wR N z1) []) (hk25 : ∀ (s0 : St) (x1 : Int32) (x2 : Int32) (x3 : Int32), k25 s0 x1 x2 x3 = some z1 → Aw p l e rm_X12_spreads s m args below meth c Q D A 5 (wR N s0) 25 [(0, .ref (N.1 0)), (1, .int x1), (2, .int x2), (3, .int x3)] []) (s0 : St) (x1 : Int32) (x2 : Int32) (x3 : Int32) (h : F_X12_spreads_25_b k25 s0 x1 x2 x3 = some z1) : Aw p l e rm_X12_spreads s m args below meth c Q D A 5 (wR N s0) 25 [(0, .ref (N.1 0)), (1, .int x1), (2, .int x2), (3, .int x3)] [] := by
  unfold F_X12_spreads_25_b at h
  refine aw_iload_n C 3 dX12_spreads_25 rfl ?_
  refine aw_aload_n C 0 dX12_spreads_26 rfl ?_
  refine rg_md_notes C lw_9_16 dX12_spreads_27 ?_
  refine aw_icmp_ge (tgt := 98) C dX12_spreads_30 (by decide) (fun q => ?_) (fun q => ?_)
  · have h := bq_t q h
    refine aw_iconst (v := 1) C dX12_spreads_98 (by decide) ?_
    refine aw_topi (fun y1 ey1 => ?_)
    have h := oL_e ey1 h
    refine aw_istore_n (lv' := [(0, .ref (N.1 0)), (1, .int x1), (2, .int x2), (3, .int y1)]) C [1, 2, 3, 0] dX12_spreads_99 rfl (by decide) rfl ?_
    refine aw_sub (lv' := [(0, .ref (N.1 0)), (2, .int x2), (3, .int y1)]) [0, 2, 3] rfl ?_
    exact T_X12_spreads_100 C hE 100000 s0 x2 y1 h
  · have h := bq_f q h
    refine aw_aload_n C 0 dX12_spreads_33 rfl ?_
    refine rg_md_counts C lw_9_0 dX12_spreads_34 ?_
    refine aw_iload_n C 3 dX12_spreads_37 rfl ?_
    obtain ⟨q2, h⟩ := oA_e h
    refine ra_zald (k := 23) C (by decide) rfl q2 dX12_spreads_38 ?_
    refine aw_if_eq (tgt := 92) C dX12_spreads_39 (by decide) (fun q => ?_) (fun q => ?_)
    · have h := bq_t q h
      refine aw_sub (lv' := [(0, .ref (N.1 0)), (1, .int x1), (2, .int x2), (3, .int x3)]) [0, 1, 2, 3] rfl ?_
      exact T_X12_spreads_92 C hE hk25 s0 x1 x2 x3 h
    · have h := bq_f q h
      refine aw_aload_n C 0 dX12_spreads_42 rfl ?_
      refine rg_md_kind C lw_8_17 dX12_spreads_43 ?_
      refine aw_iload_n C 3 dX12_spreads_46 rfl ?_
      obtain ⟨q3, h⟩ := oA_e h
      refine ra_iald (k := 16) C (by decide) rfl q3 dX12_spreads_47 ?_
      refine aw_if_ne (tgt := 92) C dX12_spreads_48 (by decide) (fun q => ?_) (fun q => ?_)
      · have h := bq_f q h
        refine aw_sub (lv' := [(0, .ref (N.1 0)), (1, .int x1), (2, .int x2), (3, .int x3)]) [0, 1, 2, 3] rfl ?_
        exact T_X12_spreads_92 C hE hk25 s0 x1 x2 x3 h
      · have h := bq_t q h
        refine aw_aload_n C 0 dX12_spreads_51 rfl ?_
        refine rg_md_one C lw_8_19 dX12_spreads_52 ?_
        refine aw_iload_n C 3 dX12_spreads_55 rfl ?_
        obtain ⟨q4, h⟩ := oA_e h
        refine ra_iald (k := 18) C (by decide) rfl q4 dX12_spreads_56 ?_
        refine aw_iload_n C 1 dX12_spreads_57 rfl ?_
        refine aw_icmp_ne (tgt := 92) C dX12_spreads_58 (by decide) (fun q => ?_) (fun q => ?_)
        · have h := bq_f q h
          refine aw_sub (lv' := [(0, .ref (N.1 0)), (1, .int x1), (2, .int x2), (3, .int x3)]) [0, 1, 2, 3] rfl ?_
          exact T_X12_spreads_92 C hE hk25 s0 x1 x2 x3 h
        · have h := bq_t q h
          refine aw_aload_n C 0 dX12_spreads_61 rfl ?_
          refine rg_md_from C lw_9_3 dX12_spreads_62 ?_
          refine aw_aload_n C 0 dX12_spreads_65 rfl ?_
          refine rg_md_two C lw_8_20 dX12_spreads_66 ?_
          refine aw_iload_n C 3 dX12_spreads_69 rfl ?_
          obtain ⟨q5, h⟩ := oA_e h
          refine ra_iald (k := 19) C (by decide) rfl q5 dX12_spreads_70 ?_
          refine aw_aload_n C 0 dX12_spreads_71 rfl ?_
          refine rg_md_from C lw_9_3 dX12_spreads_72 ?_
          refine aw_aload_n C 0 dX12_spreads_75 rfl ?_
          refine rg_md_two C lw_8_20 dX12_spreads_76 ?_
          refine aw_iload_n C 3 dX12_spreads_79 rfl ?_
          obtain ⟨q6, h⟩ := oA_e h
          refine ra_iald (k := 19) C (by decide) rfl q6 dX12_spreads_80 ?_
          obtain ⟨q7, h⟩ := oA_e h
          refine ra_iald (k := 26) C (by decide) rfl q7 dX12_spreads_81 ?_
          refine aw_aload_n C 0 dX12_spreads_82 rfl ?_
          refine rg_md_three C lw_8_21 dX12_spreads_83 ?_
          refine aw_iload_n C 3 dX12_spreads_86 rfl ?_
          obtain ⟨q8, h⟩ := oA_e h
          refine ra_iald (k := 20) C (by decide) rfl q8 dX12_spreads_87 ?_
          refine aw_mmin C lw_29_16 lw_10_23 (by decide +kernel) lw_11_1 (Nat.le_of_ble_eq_true rfl) (Nat.le_of_ble_eq_true rfl) dX12_spreads_88 ?_
          obtain ⟨q9, h⟩ := oA_e h
          refine ra_iast (k := 26) C (by decide) rfl q9 dX12_spreads_91 ?_
          refine ra_name (fun s10 es10 => ?_)
          have h := oL_e es10 h
          refine aw_sub (lv' := [(0, .ref (N.1 0)), (1, .int x1), (2, .int x2), (3, .int x3)]) [0, 1, 2, 3] rfl ?_
          exact T_X12_spreads_92 C hE hk25 s10 x1 x2 x3 h
def F_X12_spreads_25 : Nat → St → Int32 → Int32 → Int32 → Option (St)
  | 0 => fun _ _ _ _ => none
  | n + 1 => F_X12_spreads_25_b (F_X12_spreads_25 n)
theorem T_X12_spreads_25 {z1 : St} (C : Cx p rm_X12_spreads s m args c D A cX12_spreads 5 RX12 rm_X12_spreads N) (hE : En p l e rm_X12_spreads s m args below meth c Q D A cX12_spreads .return_ (wR N z1) [])  : ∀ (n : Nat) (s0 : St) (x1 : Int32) (x2 : Int32) (x3 : Int32), F_X12_spreads_25 n s0 x1 x2 x3 = some z1 → Aw p l e rm_X12_spreads s m args below meth c Q D A 5 (wR N s0) 25 [(0, .ref (N.1 0)), (1, .int x1), (2, .int x2), (3, .int x3)] [] := by
  intro n
  induction n with
  | zero => intro s0 x1 x2 x3 h; cases h
  | succ n ih => intro s0 x1 x2 x3 h; exact T_X12_spreads_25_b C hE ih s0 x1 x2 x3 h
def F_X12_spreads_2_b (k2 : St → Int32 → Int32 → Int32 → Option (St)) (s0 : St) (x1 : Int32) (x2 : Int32) (x3 : Int32) : Option (St) :=
  if (8 : Int32) ≤ x3 then (
    oL (0 : Int32) fun y1 =>
    F_X12_spreads_25 100000 s0 x1 x2 y1)
  else (
    oA x3 8 <|
    oL (sA s0 26 (upd (s0.2.1 26) (Int32.toNatClampNeg x3) (1000 : Int32))) fun s3 =>
    oL (x3 + (1 : Int32)) fun y4 =>
    k2 s3 x1 x2 y4)
set_option maxHeartbeats 4000000 in
set_option maxRecDepth 100000 in
theorem T_X12_spreads_2_b {z1 : St} {k2 : St → Int32 → Int32 → Int32 → Option (St)} (C : Cx p rm_X12_spreads s m args c D A cX12_spreads 5 RX12 rm_X12_spreads N) (hE : En p l e rm_X12_spreads s m args below meth c Q D A cX12_spreads .return_ (wR N z1) []) (hk2 : ∀ (s0 : St) (x1 : Int32) (x2 : Int32) (x3 : Int32), k2 s0 x1 x2 x3 = some z1 → Aw p l e rm_X12_spreads s m args below meth c Q D A 5 (wR N s0) 2 [(0, .ref (N.1 0)), (1, .int x1), (2, .int x2), (3, .int x3)] []) (s0 : St) (x1 : Int32) (x2 : Int32) (x3 : Int32) (h : F_X12_spreads_2_b k2 s0 x1 x2 x3 = some z1) : Aw p l e rm_X12_spreads s m args below meth c Q D A 5 (wR N s0) 2 [(0, .ref (N.1 0)), (1, .int x1), (2, .int x2), (3, .int x3)] [] := by
  unfold F_X12_spreads_2_b at h
  refine aw_iload_n C 3 dX12_spreads_2 rfl ?_
  refine aw_bipush (v := 8) C dX12_spreads_3 (by decide) ?_
  refine aw_icmp_ge (tgt := 23) C dX12_spreads_5 (by decide) (fun q => ?_) (fun q => ?_)
  · have h := bq_t q h
    refine aw_iconst (v := 0) C dX12_spreads_23 (by decide) ?_
    refine aw_topi (fun y1 ey1 => ?_)
    have h := oL_e ey1 h
    refine aw_istore_n (lv' := [(0, .ref (N.1 0)), (1, .int x1), (2, .int x2), (3, .int y1)]) C [1, 2, 3, 0] dX12_spreads_24 rfl (by decide) rfl ?_
    refine aw_sub (lv' := [(0, .ref (N.1 0)), (1, .int x1), (2, .int x2), (3, .int y1)]) [0, 1, 2, 3] rfl ?_
    exact T_X12_spreads_25 C hE 100000 s0 x1 x2 y1 h
  · have h := bq_f q h
    refine aw_aload_n C 0 dX12_spreads_8 rfl ?_
    refine rg_md_from C lw_9_3 dX12_spreads_9 ?_
    refine aw_iload_n C 3 dX12_spreads_12 rfl ?_
    refine aw_sipush (v := 1000) C dX12_spreads_13 (by decide) ?_
    obtain ⟨q2, h⟩ := oA_e h
    refine ra_iast (k := 26) C (by decide) rfl q2 dX12_spreads_16 ?_
    refine ra_name (fun s3 es3 => ?_)
    have h := oL_e es3 h
    obtain ⟨y4, ey4⟩ : ∃ q : Int32, q = x3 + (1 : Int32) := ⟨_, rfl⟩
    have h := oL_e ey4 h
    refine aw_iinc (v := y4) (k := 3) (lv' := [(0, .ref (N.1 0)), (1, .int x1), (2, .int x2), (3, .int y4)]) C [1, 2, 3, 0] dX12_spreads_17 rfl (by rw [ey4]; rfl) (by decide) rfl ?_
    refine aw_goto (tgt := 2) C dX12_spreads_20 (by decide) ?_
    refine aw_sub (lv' := [(0, .ref (N.1 0)), (1, .int x1), (2, .int x2), (3, .int y4)]) [0, 1, 2, 3] rfl ?_
    exact hk2 s3 x1 x2 y4 h
def F_X12_spreads_2 : Nat → St → Int32 → Int32 → Int32 → Option (St)
  | 0 => fun _ _ _ _ => none
  | n + 1 => F_X12_spreads_2_b (F_X12_spreads_2 n)
theorem T_X12_spreads_2 {z1 : St} (C : Cx p rm_X12_spreads s m args c D A cX12_spreads 5 RX12 rm_X12_spreads N) (hE : En p l e rm_X12_spreads s m args below meth c Q D A cX12_spreads .return_ (wR N z1) [])  : ∀ (n : Nat) (s0 : St) (x1 : Int32) (x2 : Int32) (x3 : Int32), F_X12_spreads_2 n s0 x1 x2 x3 = some z1 → Aw p l e rm_X12_spreads s m args below meth c Q D A 5 (wR N s0) 2 [(0, .ref (N.1 0)), (1, .int x1), (2, .int x2), (3, .int x3)] [] := by
  intro n
  induction n with
  | zero => intro s0 x1 x2 x3 h; cases h
  | succ n ih => intro s0 x1 x2 x3 h; exact T_X12_spreads_2_b C hE ih s0 x1 x2 x3 h
def F_X12_spreads_0 (s0 : St) (x1 : Int32) (x2 : Int32) : Option (St) :=
  oL (0 : Int32) fun y1 =>
  F_X12_spreads_2 100000 s0 x1 x2 y1
set_option maxHeartbeats 4000000 in
set_option maxRecDepth 100000 in
theorem T_X12_spreads_0 {z1 : St} (C : Cx p rm_X12_spreads s m args c D A cX12_spreads 5 RX12 rm_X12_spreads N) (hE : En p l e rm_X12_spreads s m args below meth c Q D A cX12_spreads .return_ (wR N z1) [])  (s0 : St) (x1 : Int32) (x2 : Int32) (h : F_X12_spreads_0 s0 x1 x2 = some z1) : Aw p l e rm_X12_spreads s m args below meth c Q D A 5 (wR N s0) 0 [(0, .ref (N.1 0)), (1, .int x1), (2, .int x2)] [] := by
  unfold F_X12_spreads_0 at h
  refine aw_iconst (v := 0) C dX12_spreads_0 (by decide) ?_
  refine aw_topi (fun y1 ey1 => ?_)
  have h := oL_e ey1 h
  refine aw_istore_n (lv' := [(0, .ref (N.1 0)), (1, .int x1), (2, .int x2), (3, .int y1)]) C [1, 2, 3, 0] dX12_spreads_1 rfl (by decide) rfl ?_
  refine aw_sub (lv' := [(0, .ref (N.1 0)), (1, .int x1), (2, .int x2), (3, .int y1)]) [0, 1, 2, 3] rfl ?_
  exact T_X12_spreads_2 C hE 100000 s0 x1 x2 y1 h
def f_X12_spreads (s0 : St) (x1 : Int32) (x2 : Int32) : Option (St) := F_X12_spreads_0 s0 x1 x2
theorem c_X12_spreads (l : Launch) (D : va_G) (N : Nm) (s0 z1 : St) (x1 : Int32) (x2 : Int32) (h : f_X12_spreads s0 x1 x2 = some z1) : Metv l yX12_spreads (tsU yX12_spreads cX12_spreads 5 none) rm_X12_spreads D N [.ref (N.1 0), .int x1, .int x2] (wR N s0) (wR N z1) :=
  met_v (cc := cX12_spreads) (nL := 5) (own := RX12) (by decide) rfl (Nat.le_of_ble_eq_true rfl) (fun p e s m args below meth c Q A C hE => aw_sub [0, 1, 2] rfl (T_X12_spreads_0 C hE s0 x1 x2 h))
/-! AwardLineModel.knows(III)I -/
def rm_X12_knows : Room := { frames := 2, cells := 0, slots := 0, locals := 48 }
def F_X12_knows_27 (s0 : St) : Option (Int32 × St) :=
  some ((-1 : Int32), s0)
set_option maxHeartbeats 4000000 in
set_option maxRecDepth 100000 in
theorem T_X12_knows_27 {r : Int32} {z1 : St} (C : Cx p rm_X12_knows s m args c D A cX12_knows 4 RX12 rm_X12_knows N) (hE : En p l e rm_X12_knows s m args below meth c Q D A cX12_knows .ireturn (wR N z1) [.int r])  (s0 : St) (h : F_X12_knows_27 s0 = some (r, z1)) : Aw p l e rm_X12_knows s m args below meth c Q D A 4 (wR N s0) 27 [] [] := by
  unfold F_X12_knows_27 at h
  refine aw_iconst (v := -1) C dX12_knows_27 (by decide) ?_
  cases h
  exact aw_ret hE dX12_knows_28
def F_X12_knows_62 (s0 : St) (t0 : Int32) : Option (Int32 × St) :=
  some (t0, s0)
set_option maxHeartbeats 4000000 in
set_option maxRecDepth 100000 in
theorem T_X12_knows_62 {r : Int32} {z1 : St} (C : Cx p rm_X12_knows s m args c D A cX12_knows 4 RX12 rm_X12_knows N) (hE : En p l e rm_X12_knows s m args below meth c Q D A cX12_knows .ireturn (wR N z1) [.int r])  (s0 : St) (t0 : Int32) (h : F_X12_knows_62 s0 t0 = some (r, z1)) : Aw p l e rm_X12_knows s m args below meth c Q D A 4 (wR N s0) 62 [] [.int t0] := by
  unfold F_X12_knows_62 at h
  cases h
  exact aw_ret hE dX12_knows_62
def F_X12_knows_0 (s0 : St) (x1 : Int32) (x2 : Int32) (x3 : Int32) : Option (Int32 × St) :=
  oL (sI s0 0 (0 : Int32)) fun s1 =>
  oC (f_X12_isPerson s1 x1) fun w4 =>
  oL w4.1 fun v2 => oL w4.2 fun s3 =>
  if v2 = 0 then (
    F_X12_knows_27 s3)
  else (
    oC (f_X12_isDraft s3 x2) fun w7 =>
    oL w7.1 fun v5 => oL w7.2 fun s6 =>
    if v5 = 0 then (
      F_X12_knows_27 s6)
    else (
      oC (f_X12_isDay s6 x3) fun w10 =>
      oL w10.1 fun v8 => oL w10.2 fun s9 =>
      if v8 = 0 then (
        F_X12_knows_27 s9)
      else (
        oC (f_X12_knowsNotes s9 x3) fun w13 =>
        oL w13 fun s12 =>
        oC (f_X12_spreads s12 x2 (-1 : Int32)) fun w16 =>
        oL w16 fun s15 =>
        oA x1 8 <|
        if (s15.2.1 26 (Int32.toNatClampNeg x1)) = (1000 : Int32) then (
          F_X12_knows_62 s15 (-1 : Int32))
        else (
          oA x1 8 <|
          F_X12_knows_62 s15 (s15.2.1 26 (Int32.toNatClampNeg x1))))))
set_option maxHeartbeats 4000000 in
set_option maxRecDepth 100000 in
theorem T_X12_knows_0 {r : Int32} {z1 : St} (C : Cx p rm_X12_knows s m args c D A cX12_knows 4 RX12 rm_X12_knows N) (hE : En p l e rm_X12_knows s m args below meth c Q D A cX12_knows .ireturn (wR N z1) [.int r])  (s0 : St) (x1 : Int32) (x2 : Int32) (x3 : Int32) (h : F_X12_knows_0 s0 x1 x2 x3 = some (r, z1)) : Aw p l e rm_X12_knows s m args below meth c Q D A 4 (wR N s0) 0 [(0, .ref (N.1 0)), (1, .int x1), (2, .int x2), (3, .int x3)] [] := by
  unfold F_X12_knows_0 at h
  refine aw_aload_n C 0 dX12_knows_0 rfl ?_
  refine aw_iconst (v := 0) C dX12_knows_1 (by decide) ?_
  refine rp_md_thrown C lw_10_11 dX12_knows_2 ?_
  refine ra_name (fun s1 es1 => ?_)
  have h := oL_e es1 h
  refine aw_iload_n C 1 dX12_knows_5 rfl ?_
  obtain ⟨⟨v2, s3⟩, cw4, h⟩ := oC_e h
  have h := oL_e (x := s3) rfl (oL_e (x := v2) rfl h)
  refine aw_callSi (n := 1) (As := [.int x1]) (rest := []) C (c_X12_isPerson l D N s1 s3 x1 v2 cw4) lw_26_4 lw_26_5 lw_1_5 lw_26_6 rfl rfl (by decide +kernel) ⟨Nat.le_of_ble_eq_true rfl, Nat.le_of_ble_eq_true rfl⟩ rfl rfl (Nat.le_of_ble_eq_true rfl) dX12_knows_6 ?_
  refine aw_if_eq (tgt := 27) C dX12_knows_9 (by decide) (fun q => ?_) (fun q => ?_)
  · have h := bq_t q h
    refine aw_sub (lv' := []) [] rfl ?_
    exact T_X12_knows_27 C hE s3 h
  · have h := bq_f q h
    refine aw_aload_n C 0 dX12_knows_12 rfl ?_
    refine aw_iload_n C 2 dX12_knows_13 rfl ?_
    obtain ⟨⟨v5, s6⟩, cw7, h⟩ := oC_e h
    have h := oL_e (x := s6) rfl (oL_e (x := v5) rfl h)
    refine aw_callVi (n := 1) (As := [.int x2]) (rest := []) (q0 := 0) C (c_X12_isDraft l D N s3 s6 x2 v5 cw7) lw_26_7 lw_26_8 lw_26_9 lw_1_5 lw_26_10 rfl rfl (by decide +kernel) ⟨Nat.le_of_ble_eq_true rfl, Nat.le_of_ble_eq_true rfl⟩ rfl rfl rfl rfl rfl (Nat.le_of_ble_eq_true rfl) dX12_knows_14 ?_
    refine aw_if_eq (tgt := 27) C dX12_knows_17 (by decide) (fun q => ?_) (fun q => ?_)
    · have h := bq_t q h
      refine aw_sub (lv' := []) [] rfl ?_
      exact T_X12_knows_27 C hE s6 h
    · have h := bq_f q h
      refine aw_iload_n C 3 dX12_knows_20 rfl ?_
      obtain ⟨⟨v8, s9⟩, cw10, h⟩ := oC_e h
      have h := oL_e (x := s9) rfl (oL_e (x := v8) rfl h)
      refine aw_callSi (n := 1) (As := [.int x3]) (rest := []) C (c_X12_isDay l D N s6 s9 x3 v8 cw10) lw_29_4 lw_29_5 lw_1_5 lw_29_6 rfl rfl (by decide +kernel) ⟨Nat.le_of_ble_eq_true rfl, Nat.le_of_ble_eq_true rfl⟩ rfl rfl (Nat.le_of_ble_eq_true rfl) dX12_knows_21 ?_
      refine aw_if_ne (tgt := 29) C dX12_knows_24 (by decide) (fun q => ?_) (fun q => ?_)
      · have h := bq_f q h
        refine aw_aload_n C 0 dX12_knows_29 rfl ?_
        refine aw_iload_n C 3 dX12_knows_30 rfl ?_
        obtain ⟨s12, cw13, h⟩ := oC_e h
        have h := oL_e (x := s12) rfl h
        refine aw_callVv (n := 1) (As := [.int x3]) (rest := []) (q0 := 0) C (c_X12_knowsNotes l D N s9 s12 x3 cw13) lw_29_7 lw_29_8 lw_29_9 lw_1_5 lw_29_10 rfl rfl (by decide +kernel) ⟨Nat.le_of_ble_eq_true rfl, Nat.le_of_ble_eq_true rfl⟩ rfl rfl rfl rfl rfl (Nat.le_of_ble_eq_true rfl) dX12_knows_31 ?_
        refine aw_aload_n C 0 dX12_knows_34 rfl ?_
        refine aw_iload_n C 2 dX12_knows_35 rfl ?_
        refine aw_iconst (v := -1) C dX12_knows_36 (by decide) ?_
        obtain ⟨s15, cw16, h⟩ := oC_e h
        have h := oL_e (x := s15) rfl h
        refine aw_callVv (n := 2) (As := [.int x2, .int (-1 : Int32)]) (rest := []) (q0 := 0) C (c_X12_spreads l D N s12 s15 x2 (-1 : Int32) cw16) lw_45_7 lw_45_8 lw_45_9 lw_1_5 lw_45_10 rfl rfl (by decide +kernel) ⟨Nat.le_of_ble_eq_true rfl, Nat.le_of_ble_eq_true rfl⟩ rfl rfl rfl rfl rfl (Nat.le_of_ble_eq_true rfl) dX12_knows_37 ?_
        refine aw_aload_n C 0 dX12_knows_40 rfl ?_
        refine rg_md_from C lw_9_3 dX12_knows_41 ?_
        refine aw_iload_n C 1 dX12_knows_44 rfl ?_
        obtain ⟨q17, h⟩ := oA_e h
        refine ra_iald (k := 26) C (by decide) rfl q17 dX12_knows_45 ?_
        refine aw_sipush (v := 1000) C dX12_knows_46 (by decide) ?_
        refine aw_icmp_ne (tgt := 56) C dX12_knows_49 (by decide) (fun q => ?_) (fun q => ?_)
        · have h := bq_f q h
          refine aw_aload_n C 0 dX12_knows_56 rfl ?_
          refine rg_md_from C lw_9_3 dX12_knows_57 ?_
          refine aw_iload_n C 1 dX12_knows_60 rfl ?_
          obtain ⟨q18, h⟩ := oA_e h
          refine ra_iald (k := 26) C (by decide) rfl q18 dX12_knows_61 ?_
          refine aw_sub (lv' := []) [] rfl ?_
          exact T_X12_knows_62 C hE s15 (s15.2.1 26 (Int32.toNatClampNeg x1)) h
        · have h := bq_t q h
          refine aw_iconst (v := -1) C dX12_knows_52 (by decide) ?_
          refine aw_goto (tgt := 62) C dX12_knows_53 (by decide) ?_
          refine aw_sub (lv' := []) [] rfl ?_
          exact T_X12_knows_62 C hE s15 (-1 : Int32) h
      · have h := bq_t q h
        refine aw_sub (lv' := []) [] rfl ?_
        exact T_X12_knows_27 C hE s9 h
def f_X12_knows (s0 : St) (x1 : Int32) (x2 : Int32) (x3 : Int32) : Option (Int32 × St) := F_X12_knows_0 s0 x1 x2 x3
theorem c_X12_knows (l : Launch) (D : va_G) (N : Nm) (s0 z1 : St) (x1 : Int32) (x2 : Int32) (x3 : Int32) (r : Int32) (h : f_X12_knows s0 x1 x2 x3 = some (r, z1)) : Meti l yX12_knows (tsU yX12_knows cX12_knows 4 (some .int)) rm_X12_knows D N [.ref (N.1 0), .int x1, .int x2, .int x3] (wR N s0) r (wR N z1) :=
  met_i (cc := cX12_knows) (nL := 4) (own := RX12) (by decide) rfl (Nat.le_of_ble_eq_true rfl) (fun p e s m args below meth c Q A C hE => aw_sub [0, 1, 2, 3] rfl (T_X12_knows_0 C hE s0 x1 x2 x3 h))
/-! AwardLineModel.isSure(I)Z -/
def rm_X12_isSure : Room := { frames := 0, cells := 0, slots := 0, locals := 0 }
def F_X12_isSure_75 (k2 : St → Int32 → Int32 → Option (Int32 × St)) (s0 : St) (x1 : Int32) (x2 : Int32) : Option (Int32 × St) :=
  oL (x2 + (1 : Int32)) fun y1 =>
  k2 s0 x1 y1
set_option maxHeartbeats 4000000 in
set_option maxRecDepth 100000 in
theorem T_X12_isSure_75 {r : Int32} {z1 : St} {k2 : St → Int32 → Int32 → Option (Int32 × St)} (C : Cx p rm_X12_isSure s m args c D A cX12_isSure 3 RX12 rm_X12_isSure N) (hE : En p l e rm_X12_isSure s m args below meth c Q D A cX12_isSure .ireturn (wR N z1) [.int r]) (hk2 : ∀ (s0 : St) (x1 : Int32) (x2 : Int32), k2 s0 x1 x2 = some (r, z1) → Aw p l e rm_X12_isSure s m args below meth c Q D A 3 (wR N s0) 2 [(0, .ref (N.1 0)), (1, .int x1), (2, .int x2)] []) (s0 : St) (x1 : Int32) (x2 : Int32) (h : F_X12_isSure_75 k2 s0 x1 x2 = some (r, z1)) : Aw p l e rm_X12_isSure s m args below meth c Q D A 3 (wR N s0) 75 [(0, .ref (N.1 0)), (1, .int x1), (2, .int x2)] [] := by
  unfold F_X12_isSure_75 at h
  obtain ⟨y1, ey1⟩ : ∃ q : Int32, q = x2 + (1 : Int32) := ⟨_, rfl⟩
  have h := oL_e ey1 h
  refine aw_iinc (v := y1) (k := 2) (lv' := [(0, .ref (N.1 0)), (1, .int x1), (2, .int y1)]) C [1, 2, 0] dX12_isSure_75 rfl (by rw [ey1]; rfl) (by decide) rfl ?_
  refine aw_goto (tgt := 2) C dX12_isSure_78 (by decide) ?_
  refine aw_sub (lv' := [(0, .ref (N.1 0)), (1, .int x1), (2, .int y1)]) [0, 1, 2] rfl ?_
  exact hk2 s0 x1 y1 h
def F_X12_isSure_2_b (k2 : St → Int32 → Int32 → Option (Int32 × St)) (s0 : St) (x1 : Int32) (x2 : Int32) : Option (Int32 × St) :=
  if (s0.1 27) ≤ x2 then (
    some ((0 : Int32), s0))
  else (
    oA x2 80 <|
    if (s0.2.1 23 (Int32.toNatClampNeg x2)) = 0 then (
      F_X12_isSure_75 k2 s0 x1 x2)
    else (
      oA x2 80 <|
      if (s0.2.1 16 (Int32.toNatClampNeg x2)) = 0 then (
        oA x2 80 <|
        oA x1 80 <|
        if (s0.2.1 18 (Int32.toNatClampNeg x2)) = (s0.2.1 18 (Int32.toNatClampNeg x1)) then (
          oA x2 80 <|
          oA x1 80 <|
          if (s0.2.1 19 (Int32.toNatClampNeg x2)) = (s0.2.1 19 (Int32.toNatClampNeg x1)) then (
            oA x2 80 <|
            oA x1 80 <|
            if (s0.2.1 20 (Int32.toNatClampNeg x1)) < (s0.2.1 20 (Int32.toNatClampNeg x2)) then (
              F_X12_isSure_75 k2 s0 x1 x2)
            else (
              some ((1 : Int32), s0)))
          else (
            F_X12_isSure_75 k2 s0 x1 x2))
        else (
          F_X12_isSure_75 k2 s0 x1 x2))
      else (
        F_X12_isSure_75 k2 s0 x1 x2)))
set_option maxHeartbeats 4000000 in
set_option maxRecDepth 100000 in
theorem T_X12_isSure_2_b {r : Int32} {z1 : St} {k2 : St → Int32 → Int32 → Option (Int32 × St)} (C : Cx p rm_X12_isSure s m args c D A cX12_isSure 3 RX12 rm_X12_isSure N) (hE : En p l e rm_X12_isSure s m args below meth c Q D A cX12_isSure .ireturn (wR N z1) [.int r]) (hk2 : ∀ (s0 : St) (x1 : Int32) (x2 : Int32), k2 s0 x1 x2 = some (r, z1) → Aw p l e rm_X12_isSure s m args below meth c Q D A 3 (wR N s0) 2 [(0, .ref (N.1 0)), (1, .int x1), (2, .int x2)] []) (s0 : St) (x1 : Int32) (x2 : Int32) (h : F_X12_isSure_2_b k2 s0 x1 x2 = some (r, z1)) : Aw p l e rm_X12_isSure s m args below meth c Q D A 3 (wR N s0) 2 [(0, .ref (N.1 0)), (1, .int x1), (2, .int x2)] [] := by
  unfold F_X12_isSure_2_b at h
  refine aw_iload_n C 2 dX12_isSure_2 rfl ?_
  refine aw_aload_n C 0 dX12_isSure_3 rfl ?_
  refine rg_md_notes C lw_9_16 dX12_isSure_4 ?_
  refine aw_icmp_ge (tgt := 81) C dX12_isSure_7 (by decide) (fun q => ?_) (fun q => ?_)
  · have h := bq_t q h
    refine aw_iconst (v := 0) C dX12_isSure_81 (by decide) ?_
    cases h
    exact aw_ret hE dX12_isSure_82
  · have h := bq_f q h
    refine aw_aload_n C 0 dX12_isSure_10 rfl ?_
    refine rg_md_counts C lw_9_0 dX12_isSure_11 ?_
    refine aw_iload_n C 2 dX12_isSure_14 rfl ?_
    obtain ⟨q1, h⟩ := oA_e h
    refine ra_zald (k := 23) C (by decide) rfl q1 dX12_isSure_15 ?_
    refine aw_if_eq (tgt := 75) C dX12_isSure_16 (by decide) (fun q => ?_) (fun q => ?_)
    · have h := bq_t q h
      refine aw_sub (lv' := [(0, .ref (N.1 0)), (1, .int x1), (2, .int x2)]) [0, 1, 2] rfl ?_
      exact T_X12_isSure_75 C hE hk2 s0 x1 x2 h
    · have h := bq_f q h
      refine aw_aload_n C 0 dX12_isSure_19 rfl ?_
      refine rg_md_kind C lw_8_17 dX12_isSure_20 ?_
      refine aw_iload_n C 2 dX12_isSure_23 rfl ?_
      obtain ⟨q2, h⟩ := oA_e h
      refine ra_iald (k := 16) C (by decide) rfl q2 dX12_isSure_24 ?_
      refine aw_if_ne (tgt := 75) C dX12_isSure_25 (by decide) (fun q => ?_) (fun q => ?_)
      · have h := bq_f q h
        refine aw_sub (lv' := [(0, .ref (N.1 0)), (1, .int x1), (2, .int x2)]) [0, 1, 2] rfl ?_
        exact T_X12_isSure_75 C hE hk2 s0 x1 x2 h
      · have h := bq_t q h
        refine aw_aload_n C 0 dX12_isSure_28 rfl ?_
        refine rg_md_one C lw_8_19 dX12_isSure_29 ?_
        refine aw_iload_n C 2 dX12_isSure_32 rfl ?_
        obtain ⟨q3, h⟩ := oA_e h
        refine ra_iald (k := 18) C (by decide) rfl q3 dX12_isSure_33 ?_
        refine aw_aload_n C 0 dX12_isSure_34 rfl ?_
        refine rg_md_one C lw_8_19 dX12_isSure_35 ?_
        refine aw_iload_n C 1 dX12_isSure_38 rfl ?_
        obtain ⟨q4, h⟩ := oA_e h
        refine ra_iald (k := 18) C (by decide) rfl q4 dX12_isSure_39 ?_
        refine aw_icmp_ne (tgt := 75) C dX12_isSure_40 (by decide) (fun q => ?_) (fun q => ?_)
        · have h := bq_f q h
          refine aw_sub (lv' := [(0, .ref (N.1 0)), (1, .int x1), (2, .int x2)]) [0, 1, 2] rfl ?_
          exact T_X12_isSure_75 C hE hk2 s0 x1 x2 h
        · have h := bq_t q h
          refine aw_aload_n C 0 dX12_isSure_43 rfl ?_
          refine rg_md_two C lw_8_20 dX12_isSure_44 ?_
          refine aw_iload_n C 2 dX12_isSure_47 rfl ?_
          obtain ⟨q5, h⟩ := oA_e h
          refine ra_iald (k := 19) C (by decide) rfl q5 dX12_isSure_48 ?_
          refine aw_aload_n C 0 dX12_isSure_49 rfl ?_
          refine rg_md_two C lw_8_20 dX12_isSure_50 ?_
          refine aw_iload_n C 1 dX12_isSure_53 rfl ?_
          obtain ⟨q6, h⟩ := oA_e h
          refine ra_iald (k := 19) C (by decide) rfl q6 dX12_isSure_54 ?_
          refine aw_icmp_ne (tgt := 75) C dX12_isSure_55 (by decide) (fun q => ?_) (fun q => ?_)
          · have h := bq_f q h
            refine aw_sub (lv' := [(0, .ref (N.1 0)), (1, .int x1), (2, .int x2)]) [0, 1, 2] rfl ?_
            exact T_X12_isSure_75 C hE hk2 s0 x1 x2 h
          · have h := bq_t q h
            refine aw_aload_n C 0 dX12_isSure_58 rfl ?_
            refine rg_md_three C lw_8_21 dX12_isSure_59 ?_
            refine aw_iload_n C 2 dX12_isSure_62 rfl ?_
            obtain ⟨q7, h⟩ := oA_e h
            refine ra_iald (k := 20) C (by decide) rfl q7 dX12_isSure_63 ?_
            refine aw_aload_n C 0 dX12_isSure_64 rfl ?_
            refine rg_md_three C lw_8_21 dX12_isSure_65 ?_
            refine aw_iload_n C 1 dX12_isSure_68 rfl ?_
            obtain ⟨q8, h⟩ := oA_e h
            refine ra_iald (k := 20) C (by decide) rfl q8 dX12_isSure_69 ?_
            refine aw_icmp_gt (tgt := 75) C dX12_isSure_70 (by decide) (fun q => ?_) (fun q => ?_)
            · have h := bq_t q h
              refine aw_sub (lv' := [(0, .ref (N.1 0)), (1, .int x1), (2, .int x2)]) [0, 1, 2] rfl ?_
              exact T_X12_isSure_75 C hE hk2 s0 x1 x2 h
            · have h := bq_f q h
              refine aw_iconst (v := 1) C dX12_isSure_73 (by decide) ?_
              cases h
              exact aw_ret hE dX12_isSure_74
def F_X12_isSure_2 : Nat → St → Int32 → Int32 → Option (Int32 × St)
  | 0 => fun _ _ _ => none
  | n + 1 => F_X12_isSure_2_b (F_X12_isSure_2 n)
theorem T_X12_isSure_2 {r : Int32} {z1 : St} (C : Cx p rm_X12_isSure s m args c D A cX12_isSure 3 RX12 rm_X12_isSure N) (hE : En p l e rm_X12_isSure s m args below meth c Q D A cX12_isSure .ireturn (wR N z1) [.int r])  : ∀ (n : Nat) (s0 : St) (x1 : Int32) (x2 : Int32), F_X12_isSure_2 n s0 x1 x2 = some (r, z1) → Aw p l e rm_X12_isSure s m args below meth c Q D A 3 (wR N s0) 2 [(0, .ref (N.1 0)), (1, .int x1), (2, .int x2)] [] := by
  intro n
  induction n with
  | zero => intro s0 x1 x2 h; cases h
  | succ n ih => intro s0 x1 x2 h; exact T_X12_isSure_2_b C hE ih s0 x1 x2 h
def F_X12_isSure_0 (s0 : St) (x1 : Int32) : Option (Int32 × St) :=
  oL (0 : Int32) fun y1 =>
  F_X12_isSure_2 100000 s0 x1 y1
set_option maxHeartbeats 4000000 in
set_option maxRecDepth 100000 in
theorem T_X12_isSure_0 {r : Int32} {z1 : St} (C : Cx p rm_X12_isSure s m args c D A cX12_isSure 3 RX12 rm_X12_isSure N) (hE : En p l e rm_X12_isSure s m args below meth c Q D A cX12_isSure .ireturn (wR N z1) [.int r])  (s0 : St) (x1 : Int32) (h : F_X12_isSure_0 s0 x1 = some (r, z1)) : Aw p l e rm_X12_isSure s m args below meth c Q D A 3 (wR N s0) 0 [(0, .ref (N.1 0)), (1, .int x1)] [] := by
  unfold F_X12_isSure_0 at h
  refine aw_iconst (v := 0) C dX12_isSure_0 (by decide) ?_
  refine aw_topi (fun y1 ey1 => ?_)
  have h := oL_e ey1 h
  refine aw_istore_n (lv' := [(0, .ref (N.1 0)), (1, .int x1), (2, .int y1)]) C [1, 2, 0] dX12_isSure_1 rfl (by decide) rfl ?_
  refine aw_sub (lv' := [(0, .ref (N.1 0)), (1, .int x1), (2, .int y1)]) [0, 1, 2] rfl ?_
  exact T_X12_isSure_2 C hE 100000 s0 x1 y1 h
def f_X12_isSure (s0 : St) (x1 : Int32) : Option (Int32 × St) := oC (F_X12_isSure_0 s0 x1) fun w => oZ w.1 (some w)
theorem c_X12_isSure (l : Launch) (D : va_G) (N : Nm) (s0 z1 : St) (x1 : Int32) (r : Int32) (h : f_X12_isSure s0 x1 = some (r, z1)) : Meti l yX12_isSure (tsU yX12_isSure cX12_isSure 3 (some .boolean)) rm_X12_isSure D N [.ref (N.1 0), .int x1] (wR N s0) r (wR N z1) := by
  obtain ⟨w, h1, h2⟩ := oC_e h
  obtain ⟨hz, h2⟩ := oZ_e h2
  cases h2
  exact met_z (cc := cX12_isSure) (nL := 3) (own := RX12) (by decide) rfl (Nat.le_of_ble_eq_true rfl) (zN hz) (fun p e s m args below meth c Q A C hE => aw_sub [0, 1] rfl (T_X12_isSure_0 C hE s0 x1 h1))
/-! AwardLineModel.explained(II)I -/
def rm_X12_explained : Room := { frames := 2, cells := 0, slots := 0, locals := 48 }
def F_X12_explained_34 (s0 : St) : Option (Int32 × St) :=
  some ((-1 : Int32), s0)
set_option maxHeartbeats 4000000 in
set_option maxRecDepth 100000 in
theorem T_X12_explained_34 {r : Int32} {z1 : St} (C : Cx p rm_X12_explained s m args c D A cX12_explained 3 RX12 rm_X12_explained N) (hE : En p l e rm_X12_explained s m args below meth c Q D A cX12_explained .ireturn (wR N z1) [.int r])  (s0 : St) (h : F_X12_explained_34 s0 = some (r, z1)) : Aw p l e rm_X12_explained s m args below meth c Q D A 3 (wR N s0) 34 [] [] := by
  unfold F_X12_explained_34 at h
  refine aw_iconst (v := -1) C dX12_explained_34 (by decide) ?_
  cases h
  exact aw_ret hE dX12_explained_35
def F_X12_explained_98 (s0 : St) (t0 : Int32) : Option (Int32 × St) :=
  some (t0, s0)
set_option maxHeartbeats 4000000 in
set_option maxRecDepth 100000 in
theorem T_X12_explained_98 {r : Int32} {z1 : St} (C : Cx p rm_X12_explained s m args c D A cX12_explained 3 RX12 rm_X12_explained N) (hE : En p l e rm_X12_explained s m args below meth c Q D A cX12_explained .ireturn (wR N z1) [.int r])  (s0 : St) (t0 : Int32) (h : F_X12_explained_98 s0 t0 = some (r, z1)) : Aw p l e rm_X12_explained s m args below meth c Q D A 3 (wR N s0) 98 [] [.int t0] := by
  unfold F_X12_explained_98 at h
  cases h
  exact aw_ret hE dX12_explained_98
def F_X12_explained_0 (s0 : St) (x1 : Int32) (x2 : Int32) : Option (Int32 × St) :=
  oL (sI s0 0 (0 : Int32)) fun s1 =>
  if x1 < 0 then (
    F_X12_explained_34 s1)
  else (
    if (s1.1 27) ≤ x1 then (
      F_X12_explained_34 s1)
    else (
      oA x1 80 <|
      if (s1.2.1 16 (Int32.toNatClampNeg x1)) = (2 : Int32) then (
        oC (f_X12_isDay s1 x2) fun w5 =>
        oL w5.1 fun v3 => oL w5.2 fun s4 =>
        if v3 = 0 then (
          F_X12_explained_34 s4)
        else (
          oC (f_X12_knowsNotes s4 x2) fun w8 =>
          oL w8 fun s7 =>
          oA x1 80 <|
          if (s7.2.1 23 (Int32.toNatClampNeg x1)) = 0 then (
            some ((-1 : Int32), s7))
          else (
            oC (f_X12_isSure s7 x1) fun w12 =>
            oL w12.1 fun v10 => oL w12.2 fun s11 =>
            if v10 = 0 then (
              oA x1 80 <|
              oC (f_X12_spreads s11 (s11.2.1 18 (Int32.toNatClampNeg x1)) (-1 : Int32)) fun w16 =>
              oL w16 fun s15 =>
              oA x1 80 <|
              oA (s15.2.1 19 (Int32.toNatClampNeg x1)) 8 <|
              oA x1 80 <|
              if (s15.2.1 20 (Int32.toNatClampNeg x1)) < (s15.2.1 26 (Int32.toNatClampNeg (s15.2.1 19 (Int32.toNatClampNeg x1)))) then (
                F_X12_explained_98 s15 (0 : Int32))
              else (
                F_X12_explained_98 s15 (1 : Int32)))
            else (
              some ((2 : Int32), s11)))))
      else (
        F_X12_explained_34 s1)))
set_option maxHeartbeats 4000000 in
set_option maxRecDepth 100000 in
theorem T_X12_explained_0 {r : Int32} {z1 : St} (C : Cx p rm_X12_explained s m args c D A cX12_explained 3 RX12 rm_X12_explained N) (hE : En p l e rm_X12_explained s m args below meth c Q D A cX12_explained .ireturn (wR N z1) [.int r])  (s0 : St) (x1 : Int32) (x2 : Int32) (h : F_X12_explained_0 s0 x1 x2 = some (r, z1)) : Aw p l e rm_X12_explained s m args below meth c Q D A 3 (wR N s0) 0 [(0, .ref (N.1 0)), (1, .int x1), (2, .int x2)] [] := by
  unfold F_X12_explained_0 at h
  refine aw_aload_n C 0 dX12_explained_0 rfl ?_
  refine aw_iconst (v := 0) C dX12_explained_1 (by decide) ?_
  refine rp_md_thrown C lw_10_11 dX12_explained_2 ?_
  refine ra_name (fun s1 es1 => ?_)
  have h := oL_e es1 h
  refine aw_iload_n C 1 dX12_explained_5 rfl ?_
  refine aw_if_lt (tgt := 34) C dX12_explained_6 (by decide) (fun q => ?_) (fun q => ?_)
  · have h := bq_t q h
    refine aw_sub (lv' := []) [] rfl ?_
    exact T_X12_explained_34 C hE s1 h
  · have h := bq_f q h
    refine aw_iload_n C 1 dX12_explained_9 rfl ?_
    refine aw_aload_n C 0 dX12_explained_10 rfl ?_
    refine rg_md_notes C lw_9_16 dX12_explained_11 ?_
    refine aw_icmp_ge (tgt := 34) C dX12_explained_14 (by decide) (fun q => ?_) (fun q => ?_)
    · have h := bq_t q h
      refine aw_sub (lv' := []) [] rfl ?_
      exact T_X12_explained_34 C hE s1 h
    · have h := bq_f q h
      refine aw_aload_n C 0 dX12_explained_17 rfl ?_
      refine rg_md_kind C lw_8_17 dX12_explained_18 ?_
      refine aw_iload_n C 1 dX12_explained_21 rfl ?_
      obtain ⟨q2, h⟩ := oA_e h
      refine ra_iald (k := 16) C (by decide) rfl q2 dX12_explained_22 ?_
      refine aw_iconst (v := 2) C dX12_explained_23 (by decide) ?_
      refine aw_icmp_ne (tgt := 34) C dX12_explained_24 (by decide) (fun q => ?_) (fun q => ?_)
      · have h := bq_f q h
        refine aw_sub (lv' := []) [] rfl ?_
        exact T_X12_explained_34 C hE s1 h
      · have h := bq_t q h
        refine aw_iload_n C 2 dX12_explained_27 rfl ?_
        obtain ⟨⟨v3, s4⟩, cw5, h⟩ := oC_e h
        have h := oL_e (x := s4) rfl (oL_e (x := v3) rfl h)
        refine aw_callSi (n := 1) (As := [.int x2]) (rest := []) C (c_X12_isDay l D N s1 s4 x2 v3 cw5) lw_29_4 lw_29_5 lw_1_5 lw_29_6 rfl rfl (by decide +kernel) ⟨Nat.le_of_ble_eq_true rfl, Nat.le_of_ble_eq_true rfl⟩ rfl rfl (Nat.le_of_ble_eq_true rfl) dX12_explained_28 ?_
        refine aw_if_ne (tgt := 36) C dX12_explained_31 (by decide) (fun q => ?_) (fun q => ?_)
        · have h := bq_f q h
          refine aw_aload_n C 0 dX12_explained_36 rfl ?_
          refine aw_iload_n C 2 dX12_explained_37 rfl ?_
          obtain ⟨s7, cw8, h⟩ := oC_e h
          have h := oL_e (x := s7) rfl h
          refine aw_callVv (n := 1) (As := [.int x2]) (rest := []) (q0 := 0) C (c_X12_knowsNotes l D N s4 s7 x2 cw8) lw_29_7 lw_29_8 lw_29_9 lw_1_5 lw_29_10 rfl rfl (by decide +kernel) ⟨Nat.le_of_ble_eq_true rfl, Nat.le_of_ble_eq_true rfl⟩ rfl rfl rfl rfl rfl (Nat.le_of_ble_eq_true rfl) dX12_explained_38 ?_
          refine aw_aload_n C 0 dX12_explained_41 rfl ?_
          refine rg_md_counts C lw_9_0 dX12_explained_42 ?_
          refine aw_iload_n C 1 dX12_explained_45 rfl ?_
          obtain ⟨q9, h⟩ := oA_e h
          refine ra_zald (k := 23) C (by decide) rfl q9 dX12_explained_46 ?_
          refine aw_if_ne (tgt := 52) C dX12_explained_47 (by decide) (fun q => ?_) (fun q => ?_)
          · have h := bq_f q h
            refine aw_aload_n C 0 dX12_explained_52 rfl ?_
            refine aw_iload_n C 1 dX12_explained_53 rfl ?_
            obtain ⟨⟨v10, s11⟩, cw12, h⟩ := oC_e h
            have h := oL_e (x := s11) rfl (oL_e (x := v10) rfl h)
            refine aw_callVi (n := 1) (As := [.int x1]) (rest := []) (q0 := 0) C (c_X12_isSure l D N s7 s11 x1 v10 cw12) lw_46_5 lw_46_6 lw_46_7 lw_1_5 lw_46_8 rfl rfl (by decide +kernel) ⟨Nat.le_of_ble_eq_true rfl, Nat.le_of_ble_eq_true rfl⟩ rfl rfl rfl rfl rfl (Nat.le_of_ble_eq_true rfl) dX12_explained_54 ?_
            refine aw_if_eq (tgt := 62) C dX12_explained_57 (by decide) (fun q => ?_) (fun q => ?_)
            · have h := bq_t q h
              refine aw_aload_n C 0 dX12_explained_62 rfl ?_
              refine aw_aload_n C 0 dX12_explained_63 rfl ?_
              refine rg_md_one C lw_8_19 dX12_explained_64 ?_
              refine aw_iload_n C 1 dX12_explained_67 rfl ?_
              obtain ⟨q13, h⟩ := oA_e h
              refine ra_iald (k := 18) C (by decide) rfl q13 dX12_explained_68 ?_
              refine aw_iconst (v := -1) C dX12_explained_69 (by decide) ?_
              obtain ⟨s15, cw16, h⟩ := oC_e h
              have h := oL_e (x := s15) rfl h
              refine aw_callVv (n := 2) (As := [.int (s11.2.1 18 (Int32.toNatClampNeg x1)), .int (-1 : Int32)]) (rest := []) (q0 := 0) C (c_X12_spreads l D N s11 s15 (s11.2.1 18 (Int32.toNatClampNeg x1)) (-1 : Int32) cw16) lw_45_7 lw_45_8 lw_45_9 lw_1_5 lw_45_10 rfl rfl (by decide +kernel) ⟨Nat.le_of_ble_eq_true rfl, Nat.le_of_ble_eq_true rfl⟩ rfl rfl rfl rfl rfl (Nat.le_of_ble_eq_true rfl) dX12_explained_70 ?_
              refine aw_aload_n C 0 dX12_explained_73 rfl ?_
              refine rg_md_from C lw_9_3 dX12_explained_74 ?_
              refine aw_aload_n C 0 dX12_explained_77 rfl ?_
              refine rg_md_two C lw_8_20 dX12_explained_78 ?_
              refine aw_iload_n C 1 dX12_explained_81 rfl ?_
              obtain ⟨q17, h⟩ := oA_e h
              refine ra_iald (k := 19) C (by decide) rfl q17 dX12_explained_82 ?_
              obtain ⟨q18, h⟩ := oA_e h
              refine ra_iald (k := 26) C (by decide) rfl q18 dX12_explained_83 ?_
              refine aw_aload_n C 0 dX12_explained_84 rfl ?_
              refine rg_md_three C lw_8_21 dX12_explained_85 ?_
              refine aw_iload_n C 1 dX12_explained_88 rfl ?_
              obtain ⟨q19, h⟩ := oA_e h
              refine ra_iald (k := 20) C (by decide) rfl q19 dX12_explained_89 ?_
              refine aw_icmp_gt (tgt := 97) C dX12_explained_90 (by decide) (fun q => ?_) (fun q => ?_)
              · have h := bq_t q h
                refine aw_iconst (v := 0) C dX12_explained_97 (by decide) ?_
                refine aw_sub (lv' := []) [] rfl ?_
                exact T_X12_explained_98 C hE s15 (0 : Int32) h
              · have h := bq_f q h
                refine aw_iconst (v := 1) C dX12_explained_93 (by decide) ?_
                refine aw_goto (tgt := 98) C dX12_explained_94 (by decide) ?_
                refine aw_sub (lv' := []) [] rfl ?_
                exact T_X12_explained_98 C hE s15 (1 : Int32) h
            · have h := bq_f q h
              refine aw_iconst (v := 2) C dX12_explained_60 (by decide) ?_
              cases h
              exact aw_ret hE dX12_explained_61
          · have h := bq_t q h
            refine aw_iconst (v := -1) C dX12_explained_50 (by decide) ?_
            cases h
            exact aw_ret hE dX12_explained_51
        · have h := bq_t q h
          refine aw_sub (lv' := []) [] rfl ?_
          exact T_X12_explained_34 C hE s4 h
def f_X12_explained (s0 : St) (x1 : Int32) (x2 : Int32) : Option (Int32 × St) := F_X12_explained_0 s0 x1 x2
theorem c_X12_explained (l : Launch) (D : va_G) (N : Nm) (s0 z1 : St) (x1 : Int32) (x2 : Int32) (r : Int32) (h : f_X12_explained s0 x1 x2 = some (r, z1)) : Meti l yX12_explained (tsU yX12_explained cX12_explained 3 (some .int)) rm_X12_explained D N [.ref (N.1 0), .int x1, .int x2] (wR N s0) r (wR N z1) :=
  met_i (cc := cX12_explained) (nL := 3) (own := RX12) (by decide) rfl (Nat.le_of_ble_eq_true rfl) (fun p e s m args below meth c Q A C hE => aw_sub [0, 1, 2] rfl (T_X12_explained_0 C hE s0 x1 x2 h))
/-! AwardLineModel.through(I)I -/
def rm_X12_through : Room := { frames := 2, cells := 0, slots := 0, locals := 48 }
def F_X12_through_142 (k23 : St → Int32 → Int32 → Option (Int32 × St)) (s0 : St) (x2 : Int32) (x3 : Int32) : Option (Int32 × St) :=
  oL (x3 + (1 : Int32)) fun y1 =>
  k23 s0 x2 y1
set_option maxHeartbeats 4000000 in
set_option maxRecDepth 100000 in
theorem T_X12_through_142 {r : Int32} {z1 : St} {k23 : St → Int32 → Int32 → Option (Int32 × St)} (C : Cx p rm_X12_through s m args c D A cX12_through 5 RX12 rm_X12_through N) (hE : En p l e rm_X12_through s m args below meth c Q D A cX12_through .ireturn (wR N z1) [.int r]) (hk23 : ∀ (s0 : St) (x2 : Int32) (x3 : Int32), k23 s0 x2 x3 = some (r, z1) → Aw p l e rm_X12_through s m args below meth c Q D A 5 (wR N s0) 23 [(0, .ref (N.1 0)), (2, .int x2), (3, .int x3)] []) (s0 : St) (x2 : Int32) (x3 : Int32) (h : F_X12_through_142 k23 s0 x2 x3 = some (r, z1)) : Aw p l e rm_X12_through s m args below meth c Q D A 5 (wR N s0) 142 [(0, .ref (N.1 0)), (2, .int x2), (3, .int x3)] [] := by
  unfold F_X12_through_142 at h
  obtain ⟨y1, ey1⟩ : ∃ q : Int32, q = x3 + (1 : Int32) := ⟨_, rfl⟩
  have h := oL_e ey1 h
  refine aw_iinc (v := y1) (k := 2) (lv' := [(0, .ref (N.1 0)), (2, .int x2), (3, .int y1)]) C [1, 2, 0] dX12_through_142 rfl (by rw [ey1]; rfl) (by decide) rfl ?_
  refine aw_goto (tgt := 23) C dX12_through_145 (by decide) ?_
  refine aw_sub (lv' := [(0, .ref (N.1 0)), (2, .int x2), (3, .int y1)]) [0, 1, 2] rfl ?_
  exact hk23 s0 x2 y1 h
def F_X12_through_136 (k23 : St → Int32 → Int32 → Option (Int32 × St)) (k90 : St → Int32 → Int32 → Int32 → Option (Int32 × St)) (s0 : St) (x2 : Int32) (x3 : Int32) (x4 : Int32) : Option (Int32 × St) :=
  oL (x4 + (1 : Int32)) fun y1 =>
  k90 s0 x2 x3 y1
set_option maxHeartbeats 4000000 in
set_option maxRecDepth 100000 in
theorem T_X12_through_136 {r : Int32} {z1 : St} {k23 : St → Int32 → Int32 → Option (Int32 × St)} {k90 : St → Int32 → Int32 → Int32 → Option (Int32 × St)} (C : Cx p rm_X12_through s m args c D A cX12_through 5 RX12 rm_X12_through N) (hE : En p l e rm_X12_through s m args below meth c Q D A cX12_through .ireturn (wR N z1) [.int r]) (hk23 : ∀ (s0 : St) (x2 : Int32) (x3 : Int32), k23 s0 x2 x3 = some (r, z1) → Aw p l e rm_X12_through s m args below meth c Q D A 5 (wR N s0) 23 [(0, .ref (N.1 0)), (2, .int x2), (3, .int x3)] []) (hk90 : ∀ (s0 : St) (x2 : Int32) (x3 : Int32) (x4 : Int32), k90 s0 x2 x3 x4 = some (r, z1) → Aw p l e rm_X12_through s m args below meth c Q D A 5 (wR N s0) 90 [(0, .ref (N.1 0)), (2, .int x2), (3, .int x3), (4, .int x4)] []) (s0 : St) (x2 : Int32) (x3 : Int32) (x4 : Int32) (h : F_X12_through_136 k23 k90 s0 x2 x3 x4 = some (r, z1)) : Aw p l e rm_X12_through s m args below meth c Q D A 5 (wR N s0) 136 [(0, .ref (N.1 0)), (2, .int x2), (3, .int x3), (4, .int x4)] [] := by
  unfold F_X12_through_136 at h
  obtain ⟨y1, ey1⟩ : ∃ q : Int32, q = x4 + (1 : Int32) := ⟨_, rfl⟩
  have h := oL_e ey1 h
  refine aw_iinc (v := y1) (k := 3) (lv' := [(0, .ref (N.1 0)), (2, .int x2), (3, .int x3), (4, .int y1)]) C [1, 2, 3, 0] dX12_through_136 rfl (by rw [ey1]; rfl) (by decide) rfl ?_
  refine aw_goto (tgt := 90) C dX12_through_139 (by decide) ?_
  refine aw_sub (lv' := [(0, .ref (N.1 0)), (2, .int x2), (3, .int x3), (4, .int y1)]) [0, 1, 2, 3] rfl ?_
  exact hk90 s0 x2 x3 y1 h
def F_X12_through_90_b (k23 : St → Int32 → Int32 → Option (Int32 × St)) (k90 : St → Int32 → Int32 → Int32 → Option (Int32 × St)) (s0 : St) (x2 : Int32) (x3 : Int32) (x4 : Int32) : Option (Int32 × St) :=
  if (8 : Int32) ≤ x4 then (
    F_X12_through_142 k23 s0 x2 x3)
  else (
    oA x3 80 <|
    oC (f_X12_spreads s0 (s0.2.1 18 (Int32.toNatClampNeg x3)) x4) fun w4 =>
    oL w4 fun s3 =>
    oA x3 80 <|
    oA (s3.2.1 19 (Int32.toNatClampNeg x3)) 8 <|
    oA x3 80 <|
    if (s3.2.1 26 (Int32.toNatClampNeg (s3.2.1 19 (Int32.toNatClampNeg x3)))) ≤ (s3.2.1 20 (Int32.toNatClampNeg x3)) then (
      F_X12_through_136 k23 k90 s3 x2 x3 x4)
    else (
      oL (x2 ||| ((1 : Int32) <<< (x4 &&& 31))) fun y8 =>
      F_X12_through_136 k23 k90 s3 y8 x3 x4))
set_option maxHeartbeats 4000000 in
set_option maxRecDepth 100000 in
theorem T_X12_through_90_b {r : Int32} {z1 : St} {k23 : St → Int32 → Int32 → Option (Int32 × St)} {k90 : St → Int32 → Int32 → Int32 → Option (Int32 × St)} (C : Cx p rm_X12_through s m args c D A cX12_through 5 RX12 rm_X12_through N) (hE : En p l e rm_X12_through s m args below meth c Q D A cX12_through .ireturn (wR N z1) [.int r]) (hk23 : ∀ (s0 : St) (x2 : Int32) (x3 : Int32), k23 s0 x2 x3 = some (r, z1) → Aw p l e rm_X12_through s m args below meth c Q D A 5 (wR N s0) 23 [(0, .ref (N.1 0)), (2, .int x2), (3, .int x3)] []) (hk90 : ∀ (s0 : St) (x2 : Int32) (x3 : Int32) (x4 : Int32), k90 s0 x2 x3 x4 = some (r, z1) → Aw p l e rm_X12_through s m args below meth c Q D A 5 (wR N s0) 90 [(0, .ref (N.1 0)), (2, .int x2), (3, .int x3), (4, .int x4)] []) (s0 : St) (x2 : Int32) (x3 : Int32) (x4 : Int32) (h : F_X12_through_90_b k23 k90 s0 x2 x3 x4 = some (r, z1)) : Aw p l e rm_X12_through s m args below meth c Q D A 5 (wR N s0) 90 [(0, .ref (N.1 0)), (2, .int x2), (3, .int x3), (4, .int x4)] [] := by
  unfold F_X12_through_90_b at h
  refine aw_iload C 3 dX12_through_90 rfl ?_
  refine aw_bipush (v := 8) C dX12_through_92 (by decide) ?_
  refine aw_icmp_ge (tgt := 142) C dX12_through_94 (by decide) (fun q => ?_) (fun q => ?_)
  · have h := bq_t q h
    refine aw_sub (lv' := [(0, .ref (N.1 0)), (2, .int x2), (3, .int x3)]) [0, 1, 2] rfl ?_
    exact T_X12_through_142 C hE hk23 s0 x2 x3 h
  · have h := bq_f q h
    refine aw_aload_n C 0 dX12_through_97 rfl ?_
    refine aw_aload_n C 0 dX12_through_98 rfl ?_
    refine rg_md_one C lw_8_19 dX12_through_99 ?_
    refine aw_iload_n C 2 dX12_through_102 rfl ?_
    obtain ⟨q1, h⟩ := oA_e h
    refine ra_iald (k := 18) C (by decide) rfl q1 dX12_through_103 ?_
    refine aw_iload C 3 dX12_through_104 rfl ?_
    obtain ⟨s3, cw4, h⟩ := oC_e h
    have h := oL_e (x := s3) rfl h
    refine aw_callVv (n := 2) (As := [.int (s0.2.1 18 (Int32.toNatClampNeg x3)), .int x4]) (rest := []) (q0 := 0) C (c_X12_spreads l D N s0 s3 (s0.2.1 18 (Int32.toNatClampNeg x3)) x4 cw4) lw_45_7 lw_45_8 lw_45_9 lw_1_5 lw_45_10 rfl rfl (by decide +kernel) ⟨Nat.le_of_ble_eq_true rfl, Nat.le_of_ble_eq_true rfl⟩ rfl rfl rfl rfl rfl (Nat.le_of_ble_eq_true rfl) dX12_through_106 ?_
    refine aw_aload_n C 0 dX12_through_109 rfl ?_
    refine rg_md_from C lw_9_3 dX12_through_110 ?_
    refine aw_aload_n C 0 dX12_through_113 rfl ?_
    refine rg_md_two C lw_8_20 dX12_through_114 ?_
    refine aw_iload_n C 2 dX12_through_117 rfl ?_
    obtain ⟨q5, h⟩ := oA_e h
    refine ra_iald (k := 19) C (by decide) rfl q5 dX12_through_118 ?_
    obtain ⟨q6, h⟩ := oA_e h
    refine ra_iald (k := 26) C (by decide) rfl q6 dX12_through_119 ?_
    refine aw_aload_n C 0 dX12_through_120 rfl ?_
    refine rg_md_three C lw_8_21 dX12_through_121 ?_
    refine aw_iload_n C 2 dX12_through_124 rfl ?_
    obtain ⟨q7, h⟩ := oA_e h
    refine ra_iald (k := 20) C (by decide) rfl q7 dX12_through_125 ?_
    refine aw_icmp_le (tgt := 136) C dX12_through_126 (by decide) (fun q => ?_) (fun q => ?_)
    · have h := bq_t q h
      refine aw_sub (lv' := [(0, .ref (N.1 0)), (2, .int x2), (3, .int x3), (4, .int x4)]) [0, 1, 2, 3] rfl ?_
      exact T_X12_through_136 C hE hk23 hk90 s3 x2 x3 x4 h
    · have h := bq_f q h
      refine aw_iload_n C 1 dX12_through_129 rfl ?_
      refine aw_iconst (v := 1) C dX12_through_130 (by decide) ?_
      refine aw_iload C 3 dX12_through_131 rfl ?_
      refine aw_ishl C dX12_through_133 ?_
      refine aw_ior C dX12_through_134 ?_
      refine aw_topi (fun y8 ey8 => ?_)
      have h := oL_e ey8 h
      refine aw_istore_n (lv' := [(0, .ref (N.1 0)), (2, .int y8), (3, .int x3), (4, .int x4)]) C [1, 0, 2, 3] dX12_through_135 rfl (by decide) rfl ?_
      refine aw_sub (lv' := [(0, .ref (N.1 0)), (2, .int y8), (3, .int x3), (4, .int x4)]) [0, 1, 2, 3] rfl ?_
      exact T_X12_through_136 C hE hk23 hk90 s3 y8 x3 x4 h
def F_X12_through_90 (k23 : St → Int32 → Int32 → Option (Int32 × St)) : Nat → St → Int32 → Int32 → Int32 → Option (Int32 × St)
  | 0 => fun _ _ _ _ => none
  | n + 1 => F_X12_through_90_b k23 (F_X12_through_90 k23 n)
theorem T_X12_through_90 {r : Int32} {z1 : St} {k23 : St → Int32 → Int32 → Option (Int32 × St)} (C : Cx p rm_X12_through s m args c D A cX12_through 5 RX12 rm_X12_through N) (hE : En p l e rm_X12_through s m args below meth c Q D A cX12_through .ireturn (wR N z1) [.int r]) (hk23 : ∀ (s0 : St) (x2 : Int32) (x3 : Int32), k23 s0 x2 x3 = some (r, z1) → Aw p l e rm_X12_through s m args below meth c Q D A 5 (wR N s0) 23 [(0, .ref (N.1 0)), (2, .int x2), (3, .int x3)] []) : ∀ (n : Nat) (s0 : St) (x2 : Int32) (x3 : Int32) (x4 : Int32), F_X12_through_90 k23 n s0 x2 x3 x4 = some (r, z1) → Aw p l e rm_X12_through s m args below meth c Q D A 5 (wR N s0) 90 [(0, .ref (N.1 0)), (2, .int x2), (3, .int x3), (4, .int x4)] [] := by
  intro n
  induction n with
  | zero => intro s0 x2 x3 x4 h; cases h
  | succ n ih => intro s0 x2 x3 x4 h; exact T_X12_through_90_b C hE hk23 ih s0 x2 x3 x4 h
def F_X12_through_23_b (k23 : St → Int32 → Int32 → Option (Int32 × St)) (s0 : St) (x2 : Int32) (x3 : Int32) : Option (Int32 × St) :=
  if (s0.1 27) ≤ x3 then (
    some (x2, s0))
  else (
    oA x3 80 <|
    if (s0.2.1 23 (Int32.toNatClampNeg x3)) = 0 then (
      F_X12_through_142 k23 s0 x2 x3)
    else (
      oA x3 80 <|
      if (s0.2.1 16 (Int32.toNatClampNeg x3)) = (2 : Int32) then (
        oA x3 80 <|
        oC (f_X12_spreads s0 (s0.2.1 18 (Int32.toNatClampNeg x3)) (-1 : Int32)) fun w6 =>
        oL w6 fun s5 =>
        oA x3 80 <|
        oA (s5.2.1 19 (Int32.toNatClampNeg x3)) 8 <|
        oA x3 80 <|
        if (s5.2.1 26 (Int32.toNatClampNeg (s5.2.1 19 (Int32.toNatClampNeg x3)))) ≤ (s5.2.1 20 (Int32.toNatClampNeg x3)) then (
          oL (0 : Int32) fun y10 =>
          F_X12_through_90 k23 100000 s5 x2 x3 y10)
        else (
          F_X12_through_142 k23 s5 x2 x3))
      else (
        F_X12_through_142 k23 s0 x2 x3)))
set_option maxHeartbeats 4000000 in
set_option maxRecDepth 100000 in
theorem T_X12_through_23_b {r : Int32} {z1 : St} {k23 : St → Int32 → Int32 → Option (Int32 × St)} (C : Cx p rm_X12_through s m args c D A cX12_through 5 RX12 rm_X12_through N) (hE : En p l e rm_X12_through s m args below meth c Q D A cX12_through .ireturn (wR N z1) [.int r]) (hk23 : ∀ (s0 : St) (x2 : Int32) (x3 : Int32), k23 s0 x2 x3 = some (r, z1) → Aw p l e rm_X12_through s m args below meth c Q D A 5 (wR N s0) 23 [(0, .ref (N.1 0)), (2, .int x2), (3, .int x3)] []) (s0 : St) (x2 : Int32) (x3 : Int32) (h : F_X12_through_23_b k23 s0 x2 x3 = some (r, z1)) : Aw p l e rm_X12_through s m args below meth c Q D A 5 (wR N s0) 23 [(0, .ref (N.1 0)), (2, .int x2), (3, .int x3)] [] := by
  unfold F_X12_through_23_b at h
  refine aw_iload_n C 2 dX12_through_23 rfl ?_
  refine aw_aload_n C 0 dX12_through_24 rfl ?_
  refine rg_md_notes C lw_9_16 dX12_through_25 ?_
  refine aw_icmp_ge (tgt := 148) C dX12_through_28 (by decide) (fun q => ?_) (fun q => ?_)
  · have h := bq_t q h
    refine aw_iload_n C 1 dX12_through_148 rfl ?_
    cases h
    exact aw_ret hE dX12_through_149
  · have h := bq_f q h
    refine aw_aload_n C 0 dX12_through_31 rfl ?_
    refine rg_md_counts C lw_9_0 dX12_through_32 ?_
    refine aw_iload_n C 2 dX12_through_35 rfl ?_
    obtain ⟨q1, h⟩ := oA_e h
    refine ra_zald (k := 23) C (by decide) rfl q1 dX12_through_36 ?_
    refine aw_if_eq (tgt := 142) C dX12_through_37 (by decide) (fun q => ?_) (fun q => ?_)
    · have h := bq_t q h
      refine aw_sub (lv' := [(0, .ref (N.1 0)), (2, .int x2), (3, .int x3)]) [0, 1, 2] rfl ?_
      exact T_X12_through_142 C hE hk23 s0 x2 x3 h
    · have h := bq_f q h
      refine aw_aload_n C 0 dX12_through_40 rfl ?_
      refine rg_md_kind C lw_8_17 dX12_through_41 ?_
      refine aw_iload_n C 2 dX12_through_44 rfl ?_
      obtain ⟨q2, h⟩ := oA_e h
      refine ra_iald (k := 16) C (by decide) rfl q2 dX12_through_45 ?_
      refine aw_iconst (v := 2) C dX12_through_46 (by decide) ?_
      refine aw_icmp_eq (tgt := 53) C dX12_through_47 (by decide) (fun q => ?_) (fun q => ?_)
      · have h := bq_t q h
        refine aw_aload_n C 0 dX12_through_53 rfl ?_
        refine aw_aload_n C 0 dX12_through_54 rfl ?_
        refine rg_md_one C lw_8_19 dX12_through_55 ?_
        refine aw_iload_n C 2 dX12_through_58 rfl ?_
        obtain ⟨q3, h⟩ := oA_e h
        refine ra_iald (k := 18) C (by decide) rfl q3 dX12_through_59 ?_
        refine aw_iconst (v := -1) C dX12_through_60 (by decide) ?_
        obtain ⟨s5, cw6, h⟩ := oC_e h
        have h := oL_e (x := s5) rfl h
        refine aw_callVv (n := 2) (As := [.int (s0.2.1 18 (Int32.toNatClampNeg x3)), .int (-1 : Int32)]) (rest := []) (q0 := 0) C (c_X12_spreads l D N s0 s5 (s0.2.1 18 (Int32.toNatClampNeg x3)) (-1 : Int32) cw6) lw_45_7 lw_45_8 lw_45_9 lw_1_5 lw_45_10 rfl rfl (by decide +kernel) ⟨Nat.le_of_ble_eq_true rfl, Nat.le_of_ble_eq_true rfl⟩ rfl rfl rfl rfl rfl (Nat.le_of_ble_eq_true rfl) dX12_through_61 ?_
        refine aw_aload_n C 0 dX12_through_64 rfl ?_
        refine rg_md_from C lw_9_3 dX12_through_65 ?_
        refine aw_aload_n C 0 dX12_through_68 rfl ?_
        refine rg_md_two C lw_8_20 dX12_through_69 ?_
        refine aw_iload_n C 2 dX12_through_72 rfl ?_
        obtain ⟨q7, h⟩ := oA_e h
        refine ra_iald (k := 19) C (by decide) rfl q7 dX12_through_73 ?_
        obtain ⟨q8, h⟩ := oA_e h
        refine ra_iald (k := 26) C (by decide) rfl q8 dX12_through_74 ?_
        refine aw_aload_n C 0 dX12_through_75 rfl ?_
        refine rg_md_three C lw_8_21 dX12_through_76 ?_
        refine aw_iload_n C 2 dX12_through_79 rfl ?_
        obtain ⟨q9, h⟩ := oA_e h
        refine ra_iald (k := 20) C (by decide) rfl q9 dX12_through_80 ?_
        refine aw_icmp_le (tgt := 87) C dX12_through_81 (by decide) (fun q => ?_) (fun q => ?_)
        · have h := bq_t q h
          refine aw_iconst (v := 0) C dX12_through_87 (by decide) ?_
          refine aw_topi (fun y10 ey10 => ?_)
          have h := oL_e ey10 h
          refine aw_istore (lv' := [(0, .ref (N.1 0)), (2, .int x2), (3, .int x3), (4, .int y10)]) C [1, 2, 3, 0] dX12_through_88 (by decide) rfl ?_
          refine aw_sub (lv' := [(0, .ref (N.1 0)), (2, .int x2), (3, .int x3), (4, .int y10)]) [0, 1, 2, 3] rfl ?_
          exact T_X12_through_90 C hE hk23 100000 s5 x2 x3 y10 h
        · have h := bq_f q h
          refine aw_goto (tgt := 142) C dX12_through_84 (by decide) ?_
          refine aw_sub (lv' := [(0, .ref (N.1 0)), (2, .int x2), (3, .int x3)]) [0, 1, 2] rfl ?_
          exact T_X12_through_142 C hE hk23 s5 x2 x3 h
      · have h := bq_f q h
        refine aw_goto (tgt := 142) C dX12_through_50 (by decide) ?_
        refine aw_sub (lv' := [(0, .ref (N.1 0)), (2, .int x2), (3, .int x3)]) [0, 1, 2] rfl ?_
        exact T_X12_through_142 C hE hk23 s0 x2 x3 h
def F_X12_through_23 : Nat → St → Int32 → Int32 → Option (Int32 × St)
  | 0 => fun _ _ _ => none
  | n + 1 => F_X12_through_23_b (F_X12_through_23 n)
theorem T_X12_through_23 {r : Int32} {z1 : St} (C : Cx p rm_X12_through s m args c D A cX12_through 5 RX12 rm_X12_through N) (hE : En p l e rm_X12_through s m args below meth c Q D A cX12_through .ireturn (wR N z1) [.int r])  : ∀ (n : Nat) (s0 : St) (x2 : Int32) (x3 : Int32), F_X12_through_23 n s0 x2 x3 = some (r, z1) → Aw p l e rm_X12_through s m args below meth c Q D A 5 (wR N s0) 23 [(0, .ref (N.1 0)), (2, .int x2), (3, .int x3)] [] := by
  intro n
  induction n with
  | zero => intro s0 x2 x3 h; cases h
  | succ n ih => intro s0 x2 x3 h; exact T_X12_through_23_b C hE ih s0 x2 x3 h
def F_X12_through_0 (s0 : St) (x1 : Int32) : Option (Int32 × St) :=
  oL (sI s0 0 (0 : Int32)) fun s1 =>
  oC (f_X12_isDay s1 x1) fun w4 =>
  oL w4.1 fun v2 => oL w4.2 fun s3 =>
  if v2 = 0 then (
    some ((-1 : Int32), s3))
  else (
    oC (f_X12_knowsNotes s3 x1) fun w7 =>
    oL w7 fun s6 =>
    oL (0 : Int32) fun y8 =>
    oL (0 : Int32) fun y9 =>
    F_X12_through_23 100000 s6 y8 y9)
set_option maxHeartbeats 4000000 in
set_option maxRecDepth 100000 in
theorem T_X12_through_0 {r : Int32} {z1 : St} (C : Cx p rm_X12_through s m args c D A cX12_through 5 RX12 rm_X12_through N) (hE : En p l e rm_X12_through s m args below meth c Q D A cX12_through .ireturn (wR N z1) [.int r])  (s0 : St) (x1 : Int32) (h : F_X12_through_0 s0 x1 = some (r, z1)) : Aw p l e rm_X12_through s m args below meth c Q D A 5 (wR N s0) 0 [(0, .ref (N.1 0)), (1, .int x1)] [] := by
  unfold F_X12_through_0 at h
  refine aw_aload_n C 0 dX12_through_0 rfl ?_
  refine aw_iconst (v := 0) C dX12_through_1 (by decide) ?_
  refine rp_md_thrown C lw_10_11 dX12_through_2 ?_
  refine ra_name (fun s1 es1 => ?_)
  have h := oL_e es1 h
  refine aw_iload_n C 1 dX12_through_5 rfl ?_
  obtain ⟨⟨v2, s3⟩, cw4, h⟩ := oC_e h
  have h := oL_e (x := s3) rfl (oL_e (x := v2) rfl h)
  refine aw_callSi (n := 1) (As := [.int x1]) (rest := []) C (c_X12_isDay l D N s1 s3 x1 v2 cw4) lw_29_4 lw_29_5 lw_1_5 lw_29_6 rfl rfl (by decide +kernel) ⟨Nat.le_of_ble_eq_true rfl, Nat.le_of_ble_eq_true rfl⟩ rfl rfl (Nat.le_of_ble_eq_true rfl) dX12_through_6 ?_
  refine aw_if_ne (tgt := 14) C dX12_through_9 (by decide) (fun q => ?_) (fun q => ?_)
  · have h := bq_f q h
    refine aw_aload_n C 0 dX12_through_14 rfl ?_
    refine aw_iload_n C 1 dX12_through_15 rfl ?_
    obtain ⟨s6, cw7, h⟩ := oC_e h
    have h := oL_e (x := s6) rfl h
    refine aw_callVv (n := 1) (As := [.int x1]) (rest := []) (q0 := 0) C (c_X12_knowsNotes l D N s3 s6 x1 cw7) lw_29_7 lw_29_8 lw_29_9 lw_1_5 lw_29_10 rfl rfl (by decide +kernel) ⟨Nat.le_of_ble_eq_true rfl, Nat.le_of_ble_eq_true rfl⟩ rfl rfl rfl rfl rfl (Nat.le_of_ble_eq_true rfl) dX12_through_16 ?_
    refine aw_iconst (v := 0) C dX12_through_19 (by decide) ?_
    refine aw_topi (fun y8 ey8 => ?_)
    have h := oL_e ey8 h
    refine aw_istore_n (lv' := [(0, .ref (N.1 0)), (1, .int x1), (2, .int y8)]) C [1, 2, 0] dX12_through_20 rfl (by decide) rfl ?_
    refine aw_iconst (v := 0) C dX12_through_21 (by decide) ?_
    refine aw_topi (fun y9 ey9 => ?_)
    have h := oL_e ey9 h
    refine aw_istore_n (lv' := [(0, .ref (N.1 0)), (1, .int x1), (2, .int y8), (3, .int y9)]) C [1, 2, 3, 0] dX12_through_22 rfl (by decide) rfl ?_
    refine aw_sub (lv' := [(0, .ref (N.1 0)), (2, .int y8), (3, .int y9)]) [0, 2, 3] rfl ?_
    exact T_X12_through_23 C hE 100000 s6 y8 y9 h
  · have h := bq_t q h
    refine aw_iconst (v := -1) C dX12_through_12 (by decide) ?_
    cases h
    exact aw_ret hE dX12_through_13
def f_X12_through (s0 : St) (x1 : Int32) : Option (Int32 × St) := F_X12_through_0 s0 x1
theorem c_X12_through (l : Launch) (D : va_G) (N : Nm) (s0 z1 : St) (x1 : Int32) (r : Int32) (h : f_X12_through s0 x1 = some (r, z1)) : Meti l yX12_through (tsU yX12_through cX12_through 5 (some .int)) rm_X12_through D N [.ref (N.1 0), .int x1] (wR N s0) r (wR N z1) :=
  met_i (cc := cX12_through) (nL := 5) (own := RX12) (by decide) rfl (Nat.le_of_ble_eq_true rfl) (fun p e s m args below meth c Q A C hE => aw_sub [0, 1] rfl (T_X12_through_0 C hE s0 x1 h))
/-! AwardLineModel.candidate(I)I -/
def rm_X12_candidate : Room := { frames := 2, cells := 0, slots := 0, locals := 41 }
def F_X12_candidate_22 (s0 : St) : Option (Int32 × St) :=
  some ((-1 : Int32), s0)
set_option maxHeartbeats 4000000 in
set_option maxRecDepth 100000 in
theorem T_X12_candidate_22 {r : Int32} {z1 : St} (C : Cx p rm_X12_candidate s m args c D A cX12_candidate 3 RX12 rm_X12_candidate N) (hE : En p l e rm_X12_candidate s m args below meth c Q D A cX12_candidate .ireturn (wR N z1) [.int r])  (s0 : St) (h : F_X12_candidate_22 s0 = some (r, z1)) : Aw p l e rm_X12_candidate s m args below meth c Q D A 3 (wR N s0) 22 [] [] := by
  unfold F_X12_candidate_22 at h
  refine aw_iconst (v := -1) C dX12_candidate_22 (by decide) ?_
  cases h
  exact aw_ret hE dX12_candidate_23
def F_X12_candidate_26_b (k26 : St → Int32 → Int32 → Option (Int32 × St)) (s0 : St) (x1 : Int32) (x2 : Int32) : Option (Int32 × St) :=
  if (s0.1 26) ≤ x2 then (
    oA (s0.1 26) 8 <|
    oL (sA s0 15 (upd (s0.2.1 15) (Int32.toNatClampNeg (s0.1 26)) x1)) fun s2 =>
    oL (sI s2 26 ((s2.1 26) + (1 : Int32))) fun s3 =>
    some ((s3.1 26) - (1 : Int32), s3))
  else (
    oA x2 8 <|
    if (s0.2.1 15 (Int32.toNatClampNeg x2)) = x1 then (
      some ((-1 : Int32), s0))
    else (
      oL (x2 + (1 : Int32)) fun y5 =>
      k26 s0 x1 y5))
set_option maxHeartbeats 4000000 in
set_option maxRecDepth 100000 in
theorem T_X12_candidate_26_b {r : Int32} {z1 : St} {k26 : St → Int32 → Int32 → Option (Int32 × St)} (C : Cx p rm_X12_candidate s m args c D A cX12_candidate 3 RX12 rm_X12_candidate N) (hE : En p l e rm_X12_candidate s m args below meth c Q D A cX12_candidate .ireturn (wR N z1) [.int r]) (hk26 : ∀ (s0 : St) (x1 : Int32) (x2 : Int32), k26 s0 x1 x2 = some (r, z1) → Aw p l e rm_X12_candidate s m args below meth c Q D A 3 (wR N s0) 26 [(0, .ref (N.1 0)), (1, .int x1), (2, .int x2)] []) (s0 : St) (x1 : Int32) (x2 : Int32) (h : F_X12_candidate_26_b k26 s0 x1 x2 = some (r, z1)) : Aw p l e rm_X12_candidate s m args below meth c Q D A 3 (wR N s0) 26 [(0, .ref (N.1 0)), (1, .int x1), (2, .int x2)] [] := by
  unfold F_X12_candidate_26_b at h
  refine aw_iload_n C 2 dX12_candidate_26 rfl ?_
  refine aw_aload_n C 0 dX12_candidate_27 rfl ?_
  refine rg_md_candidates C lw_9_15 dX12_candidate_28 ?_
  refine aw_icmp_ge (tgt := 52) C dX12_candidate_31 (by decide) (fun q => ?_) (fun q => ?_)
  · have h := bq_t q h
    refine aw_aload_n C 0 dX12_candidate_52 rfl ?_
    refine rg_md_candidate C lw_8_16 dX12_candidate_53 ?_
    refine aw_aload_n C 0 dX12_candidate_56 rfl ?_
    refine rg_md_candidates C lw_9_15 dX12_candidate_57 ?_
    refine aw_iload_n C 1 dX12_candidate_60 rfl ?_
    obtain ⟨q1, h⟩ := oA_e h
    refine ra_iast (k := 15) C (by decide) rfl q1 dX12_candidate_61 ?_
    refine ra_name (fun s2 es2 => ?_)
    have h := oL_e es2 h
    refine aw_aload_n C 0 dX12_candidate_62 rfl ?_
    refine aw_dup C dX12_candidate_63 rfl ?_
    refine rg_md_candidates C lw_9_15 dX12_candidate_64 ?_
    refine aw_iconst (v := 1) C dX12_candidate_67 (by decide) ?_
    refine aw_iadd C dX12_candidate_68 ?_
    refine rp_md_candidates C lw_9_15 dX12_candidate_69 ?_
    refine ra_name (fun s3 es3 => ?_)
    have h := oL_e es3 h
    refine aw_aload_n C 0 dX12_candidate_72 rfl ?_
    refine rg_md_candidates C lw_9_15 dX12_candidate_73 ?_
    refine aw_iconst (v := 1) C dX12_candidate_76 (by decide) ?_
    refine aw_isub C dX12_candidate_77 ?_
    cases h
    exact aw_ret hE dX12_candidate_78
  · have h := bq_f q h
    refine aw_aload_n C 0 dX12_candidate_34 rfl ?_
    refine rg_md_candidate C lw_8_16 dX12_candidate_35 ?_
    refine aw_iload_n C 2 dX12_candidate_38 rfl ?_
    obtain ⟨q4, h⟩ := oA_e h
    refine ra_iald (k := 15) C (by decide) rfl q4 dX12_candidate_39 ?_
    refine aw_iload_n C 1 dX12_candidate_40 rfl ?_
    refine aw_icmp_ne (tgt := 46) C dX12_candidate_41 (by decide) (fun q => ?_) (fun q => ?_)
    · have h := bq_f q h
      obtain ⟨y5, ey5⟩ : ∃ q : Int32, q = x2 + (1 : Int32) := ⟨_, rfl⟩
      have h := oL_e ey5 h
      refine aw_iinc (v := y5) (k := 2) (lv' := [(0, .ref (N.1 0)), (1, .int x1), (2, .int y5)]) C [1, 2, 0] dX12_candidate_46 rfl (by rw [ey5]; rfl) (by decide) rfl ?_
      refine aw_goto (tgt := 26) C dX12_candidate_49 (by decide) ?_
      refine aw_sub (lv' := [(0, .ref (N.1 0)), (1, .int x1), (2, .int y5)]) [0, 1, 2] rfl ?_
      exact hk26 s0 x1 y5 h
    · have h := bq_t q h
      refine aw_iconst (v := -1) C dX12_candidate_44 (by decide) ?_
      cases h
      exact aw_ret hE dX12_candidate_45
def F_X12_candidate_26 : Nat → St → Int32 → Int32 → Option (Int32 × St)
  | 0 => fun _ _ _ => none
  | n + 1 => F_X12_candidate_26_b (F_X12_candidate_26 n)
theorem T_X12_candidate_26 {r : Int32} {z1 : St} (C : Cx p rm_X12_candidate s m args c D A cX12_candidate 3 RX12 rm_X12_candidate N) (hE : En p l e rm_X12_candidate s m args below meth c Q D A cX12_candidate .ireturn (wR N z1) [.int r])  : ∀ (n : Nat) (s0 : St) (x1 : Int32) (x2 : Int32), F_X12_candidate_26 n s0 x1 x2 = some (r, z1) → Aw p l e rm_X12_candidate s m args below meth c Q D A 3 (wR N s0) 26 [(0, .ref (N.1 0)), (1, .int x1), (2, .int x2)] [] := by
  intro n
  induction n with
  | zero => intro s0 x1 x2 h; cases h
  | succ n ih => intro s0 x1 x2 h; exact T_X12_candidate_26_b C hE ih s0 x1 x2 h
def F_X12_candidate_0 (s0 : St) (x1 : Int32) : Option (Int32 × St) :=
  oL (sI s0 0 (0 : Int32)) fun s1 =>
  oC (f_X12_isVillage s1 x1) fun w4 =>
  oL w4.1 fun v2 => oL w4.2 fun s3 =>
  if v2 = 0 then (
    F_X12_candidate_22 s3)
  else (
    if (s3.1 26) = (8 : Int32) then (
      F_X12_candidate_22 s3)
    else (
      oL (0 : Int32) fun y5 =>
      F_X12_candidate_26 100000 s3 x1 y5))
set_option maxHeartbeats 4000000 in
set_option maxRecDepth 100000 in
theorem T_X12_candidate_0 {r : Int32} {z1 : St} (C : Cx p rm_X12_candidate s m args c D A cX12_candidate 3 RX12 rm_X12_candidate N) (hE : En p l e rm_X12_candidate s m args below meth c Q D A cX12_candidate .ireturn (wR N z1) [.int r])  (s0 : St) (x1 : Int32) (h : F_X12_candidate_0 s0 x1 = some (r, z1)) : Aw p l e rm_X12_candidate s m args below meth c Q D A 3 (wR N s0) 0 [(0, .ref (N.1 0)), (1, .int x1)] [] := by
  unfold F_X12_candidate_0 at h
  refine aw_aload_n C 0 dX12_candidate_0 rfl ?_
  refine aw_iconst (v := 0) C dX12_candidate_1 (by decide) ?_
  refine rp_md_thrown C lw_10_11 dX12_candidate_2 ?_
  refine ra_name (fun s1 es1 => ?_)
  have h := oL_e es1 h
  refine aw_aload_n C 0 dX12_candidate_5 rfl ?_
  refine aw_iload_n C 1 dX12_candidate_6 rfl ?_
  obtain ⟨⟨v2, s3⟩, cw4, h⟩ := oC_e h
  have h := oL_e (x := s3) rfl (oL_e (x := v2) rfl h)
  refine aw_callVi (n := 1) (As := [.int x1]) (rest := []) (q0 := 0) C (c_X12_isVillage l D N s1 s3 x1 v2 cw4) lw_23_19 lw_23_20 lw_23_21 lw_1_5 lw_23_22 rfl rfl (by decide +kernel) ⟨Nat.le_of_ble_eq_true rfl, Nat.le_of_ble_eq_true rfl⟩ rfl rfl rfl rfl rfl (Nat.le_of_ble_eq_true rfl) dX12_candidate_7 ?_
  refine aw_if_eq (tgt := 22) C dX12_candidate_10 (by decide) (fun q => ?_) (fun q => ?_)
  · have h := bq_t q h
    refine aw_sub (lv' := []) [] rfl ?_
    exact T_X12_candidate_22 C hE s3 h
  · have h := bq_f q h
    refine aw_aload_n C 0 dX12_candidate_13 rfl ?_
    refine rg_md_candidates C lw_9_15 dX12_candidate_14 ?_
    refine aw_bipush (v := 8) C dX12_candidate_17 (by decide) ?_
    refine aw_icmp_ne (tgt := 24) C dX12_candidate_19 (by decide) (fun q => ?_) (fun q => ?_)
    · have h := bq_f q h
      refine aw_iconst (v := 0) C dX12_candidate_24 (by decide) ?_
      refine aw_topi (fun y5 ey5 => ?_)
      have h := oL_e ey5 h
      refine aw_istore_n (lv' := [(0, .ref (N.1 0)), (1, .int x1), (2, .int y5)]) C [1, 2, 0] dX12_candidate_25 rfl (by decide) rfl ?_
      refine aw_sub (lv' := [(0, .ref (N.1 0)), (1, .int x1), (2, .int y5)]) [0, 1, 2] rfl ?_
      exact T_X12_candidate_26 C hE 100000 s3 x1 y5 h
    · have h := bq_t q h
      refine aw_sub (lv' := []) [] rfl ?_
      exact T_X12_candidate_22 C hE s3 h
def f_X12_candidate (s0 : St) (x1 : Int32) : Option (Int32 × St) := F_X12_candidate_0 s0 x1
theorem c_X12_candidate (l : Launch) (D : va_G) (N : Nm) (s0 z1 : St) (x1 : Int32) (r : Int32) (h : f_X12_candidate s0 x1 = some (r, z1)) : Meti l yX12_candidate (tsU yX12_candidate cX12_candidate 3 (some .int)) rm_X12_candidate D N [.ref (N.1 0), .int x1] (wR N s0) r (wR N z1) :=
  met_i (cc := cX12_candidate) (nL := 3) (own := RX12) (by decide) rfl (Nat.le_of_ble_eq_true rfl) (fun p e s m args below meth c Q A C hE => aw_sub [0, 1] rfl (T_X12_candidate_0 C hE s0 x1 h))
/-! AwardLineModel.paces(I)V -/
def rm_X12_paces : Room := { frames := 2, cells := 0, slots := 0, locals := 43 }
def F_X12_paces_156 (k2 : St → Int32 → Int32 → Option (St)) (k72 : St → Int32 → Int32 → Int32 → Int32 → Option (St)) (s0 : St) (x1 : Int32) (x2 : Int32) (x4 : Int32) (t0 : Int32) : Option (St) :=
  oL (x4 + (1 : Int32)) fun y1 =>
  k72 s0 x1 x2 t0 y1
set_option maxHeartbeats 4000000 in
set_option maxRecDepth 100000 in
theorem T_X12_paces_156 {z1 : St} {k2 : St → Int32 → Int32 → Option (St)} {k72 : St → Int32 → Int32 → Int32 → Int32 → Option (St)} (C : Cx p rm_X12_paces s m args c D A cX12_paces 7 RX12 rm_X12_paces N) (hE : En p l e rm_X12_paces s m args below meth c Q D A cX12_paces .return_ (wR N z1) []) (hk2 : ∀ (s0 : St) (x1 : Int32) (x2 : Int32), k2 s0 x1 x2 = some z1 → Aw p l e rm_X12_paces s m args below meth c Q D A 7 (wR N s0) 2 [(0, .ref (N.1 0)), (1, .int x1), (2, .int x2)] []) (hk72 : ∀ (s0 : St) (x1 : Int32) (x2 : Int32) (x3 : Int32) (x4 : Int32), k72 s0 x1 x2 x3 x4 = some z1 → Aw p l e rm_X12_paces s m args below meth c Q D A 7 (wR N s0) 72 [(0, .ref (N.1 0)), (1, .int x1), (2, .int x2), (3, .int x3), (4, .int x4)] []) (s0 : St) (x1 : Int32) (x2 : Int32) (x4 : Int32) (t0 : Int32) (h : F_X12_paces_156 k2 k72 s0 x1 x2 x4 t0 = some z1) : Aw p l e rm_X12_paces s m args below meth c Q D A 7 (wR N s0) 156 [(0, .ref (N.1 0)), (1, .int x1), (2, .int x2), (4, .int x4)] [.int t0] := by
  unfold F_X12_paces_156 at h
  refine aw_istore_n (lv' := [(0, .ref (N.1 0)), (1, .int x1), (2, .int x2), (3, .int t0), (4, .int x4)]) C [1, 2, 3, 0, 4] dX12_paces_156 rfl (by decide) rfl ?_
  obtain ⟨y1, ey1⟩ : ∃ q : Int32, q = x4 + (1 : Int32) := ⟨_, rfl⟩
  have h := oL_e ey1 h
  refine aw_iinc (v := y1) (k := 4) (lv' := [(0, .ref (N.1 0)), (1, .int x1), (2, .int x2), (3, .int t0), (4, .int y1)]) C [1, 2, 3, 4, 0] dX12_paces_157 rfl (by rw [ey1]; rfl) (by decide) rfl ?_
  refine aw_goto (tgt := 72) C dX12_paces_160 (by decide) ?_
  refine aw_sub (lv' := [(0, .ref (N.1 0)), (1, .int x1), (2, .int x2), (3, .int t0), (4, .int y1)]) [0, 1, 2, 3, 4] rfl ?_
  exact hk72 s0 x1 x2 t0 y1 h
def F_X12_paces_140 (k2 : St → Int32 → Int32 → Option (St)) (k72 : St → Int32 → Int32 → Int32 → Int32 → Option (St)) (k91 : St → Int32 → Int32 → Int32 → Int32 → Int32 → Int32 → Option (St)) (s0 : St) (x1 : Int32) (x2 : Int32) (x3 : Int32) (x4 : Int32) (x5 : Int32) (x6 : Int32) : Option (St) :=
  oL (x6 + (1 : Int32)) fun y1 =>
  k91 s0 x1 x2 x3 x4 x5 y1
set_option maxHeartbeats 4000000 in
set_option maxRecDepth 100000 in
theorem T_X12_paces_140 {z1 : St} {k2 : St → Int32 → Int32 → Option (St)} {k72 : St → Int32 → Int32 → Int32 → Int32 → Option (St)} {k91 : St → Int32 → Int32 → Int32 → Int32 → Int32 → Int32 → Option (St)} (C : Cx p rm_X12_paces s m args c D A cX12_paces 7 RX12 rm_X12_paces N) (hE : En p l e rm_X12_paces s m args below meth c Q D A cX12_paces .return_ (wR N z1) []) (hk2 : ∀ (s0 : St) (x1 : Int32) (x2 : Int32), k2 s0 x1 x2 = some z1 → Aw p l e rm_X12_paces s m args below meth c Q D A 7 (wR N s0) 2 [(0, .ref (N.1 0)), (1, .int x1), (2, .int x2)] []) (hk72 : ∀ (s0 : St) (x1 : Int32) (x2 : Int32) (x3 : Int32) (x4 : Int32), k72 s0 x1 x2 x3 x4 = some z1 → Aw p l e rm_X12_paces s m args below meth c Q D A 7 (wR N s0) 72 [(0, .ref (N.1 0)), (1, .int x1), (2, .int x2), (3, .int x3), (4, .int x4)] []) (hk91 : ∀ (s0 : St) (x1 : Int32) (x2 : Int32) (x3 : Int32) (x4 : Int32) (x5 : Int32) (x6 : Int32), k91 s0 x1 x2 x3 x4 x5 x6 = some z1 → Aw p l e rm_X12_paces s m args below meth c Q D A 7 (wR N s0) 91 [(0, .ref (N.1 0)), (1, .int x1), (2, .int x2), (3, .int x3), (4, .int x4), (5, .int x5), (6, .int x6)] []) (s0 : St) (x1 : Int32) (x2 : Int32) (x3 : Int32) (x4 : Int32) (x5 : Int32) (x6 : Int32) (h : F_X12_paces_140 k2 k72 k91 s0 x1 x2 x3 x4 x5 x6 = some z1) : Aw p l e rm_X12_paces s m args below meth c Q D A 7 (wR N s0) 140 [(0, .ref (N.1 0)), (1, .int x1), (2, .int x2), (3, .int x3), (4, .int x4), (5, .int x5), (6, .int x6)] [] := by
  unfold F_X12_paces_140 at h
  obtain ⟨y1, ey1⟩ : ∃ q : Int32, q = x6 + (1 : Int32) := ⟨_, rfl⟩
  have h := oL_e ey1 h
  refine aw_iinc (v := y1) (k := 6) (lv' := [(0, .ref (N.1 0)), (1, .int x1), (2, .int x2), (3, .int x3), (4, .int x4), (5, .int x5), (6, .int y1)]) C [1, 2, 3, 4, 5, 6, 0] dX12_paces_140 rfl (by rw [ey1]; rfl) (by decide) rfl ?_
  refine aw_goto (tgt := 91) C dX12_paces_143 (by decide) ?_
  refine aw_sub (lv' := [(0, .ref (N.1 0)), (1, .int x1), (2, .int x2), (3, .int x3), (4, .int x4), (5, .int x5), (6, .int y1)]) [0, 1, 2, 3, 4, 5, 6] rfl ?_
  exact hk91 s0 x1 x2 x3 x4 x5 y1 h
def F_X12_paces_91_b (k2 : St → Int32 → Int32 → Option (St)) (k72 : St → Int32 → Int32 → Int32 → Int32 → Option (St)) (k91 : St → Int32 → Int32 → Int32 → Int32 → Int32 → Int32 → Option (St)) (s0 : St) (x1 : Int32) (x2 : Int32) (x3 : Int32) (x4 : Int32) (x5 : Int32) (x6 : Int32) : Option (St) :=
  oC (f_X12_cells s0) fun w3 =>
  oL w3.1 fun v1 => oL w3.2 fun s2 =>
  if v1 ≤ x6 then (
    if x3 = 0 then (
      F_X12_paces_156 k2 k72 s2 x1 x2 x4 (0 : Int32))
    else (
      F_X12_paces_156 k2 k72 s2 x1 x2 x4 x5))
  else (
    if (x5 >>> (x6 &&& 31)) &&& (1 : Int32) = (1 : Int32) then (
      oA (((2 : Int32) * x6) + x2) 50 <|
      if (s2.2.1 29 (Int32.toNatClampNeg (((2 : Int32) * x6) + x2))) = (99 : Int32) then (
        oA (((2 : Int32) * x6) + x2) 50 <|
        oL (sA s2 29 (upd (s2.2.1 29) (Int32.toNatClampNeg (((2 : Int32) * x6) + x2)) x4)) fun s6 =>
        F_X12_paces_140 k2 k72 k91 s6 x1 x2 x3 x4 x5 x6)
      else (
        F_X12_paces_140 k2 k72 k91 s2 x1 x2 x3 x4 x5 x6))
    else (
      F_X12_paces_140 k2 k72 k91 s2 x1 x2 x3 x4 x5 x6))
set_option maxHeartbeats 4000000 in
set_option maxRecDepth 100000 in
theorem T_X12_paces_91_b {z1 : St} {k2 : St → Int32 → Int32 → Option (St)} {k72 : St → Int32 → Int32 → Int32 → Int32 → Option (St)} {k91 : St → Int32 → Int32 → Int32 → Int32 → Int32 → Int32 → Option (St)} (C : Cx p rm_X12_paces s m args c D A cX12_paces 7 RX12 rm_X12_paces N) (hE : En p l e rm_X12_paces s m args below meth c Q D A cX12_paces .return_ (wR N z1) []) (hk2 : ∀ (s0 : St) (x1 : Int32) (x2 : Int32), k2 s0 x1 x2 = some z1 → Aw p l e rm_X12_paces s m args below meth c Q D A 7 (wR N s0) 2 [(0, .ref (N.1 0)), (1, .int x1), (2, .int x2)] []) (hk72 : ∀ (s0 : St) (x1 : Int32) (x2 : Int32) (x3 : Int32) (x4 : Int32), k72 s0 x1 x2 x3 x4 = some z1 → Aw p l e rm_X12_paces s m args below meth c Q D A 7 (wR N s0) 72 [(0, .ref (N.1 0)), (1, .int x1), (2, .int x2), (3, .int x3), (4, .int x4)] []) (hk91 : ∀ (s0 : St) (x1 : Int32) (x2 : Int32) (x3 : Int32) (x4 : Int32) (x5 : Int32) (x6 : Int32), k91 s0 x1 x2 x3 x4 x5 x6 = some z1 → Aw p l e rm_X12_paces s m args below meth c Q D A 7 (wR N s0) 91 [(0, .ref (N.1 0)), (1, .int x1), (2, .int x2), (3, .int x3), (4, .int x4), (5, .int x5), (6, .int x6)] []) (s0 : St) (x1 : Int32) (x2 : Int32) (x3 : Int32) (x4 : Int32) (x5 : Int32) (x6 : Int32) (h : F_X12_paces_91_b k2 k72 k91 s0 x1 x2 x3 x4 x5 x6 = some z1) : Aw p l e rm_X12_paces s m args below meth c Q D A 7 (wR N s0) 91 [(0, .ref (N.1 0)), (1, .int x1), (2, .int x2), (3, .int x3), (4, .int x4), (5, .int x5), (6, .int x6)] [] := by
  unfold F_X12_paces_91_b at h
  refine aw_iload C 6 dX12_paces_91 rfl ?_
  refine aw_aload_n C 0 dX12_paces_93 rfl ?_
  obtain ⟨⟨v1, s2⟩, cw3, h⟩ := oC_e h
  have h := oL_e (x := s2) rfl (oL_e (x := v1) rfl h)
  refine aw_callVi (n := 0) (As := []) (rest := [.int x6]) (q0 := 0) C (c_X12_cells l D N s0 s2 v1 cw3) lw_23_23 lw_24_0 lw_24_1 lw_1_5 lw_24_2 rfl rfl (by decide +kernel) ⟨Nat.le_of_ble_eq_true rfl, Nat.le_of_ble_eq_true rfl⟩ rfl rfl rfl rfl rfl (Nat.le_of_ble_eq_true rfl) dX12_paces_94 ?_
  refine aw_icmp_ge (tgt := 146) C dX12_paces_97 (by decide) (fun q => ?_) (fun q => ?_)
  · have h := bq_t q h
    refine aw_iload_n C 3 dX12_paces_146 rfl ?_
    refine aw_if_ne (tgt := 154) C dX12_paces_147 (by decide) (fun q => ?_) (fun q => ?_)
    · have h := bq_f q h
      refine aw_iload C 5 dX12_paces_154 rfl ?_
      refine aw_sub (lv' := [(0, .ref (N.1 0)), (1, .int x1), (2, .int x2), (4, .int x4)]) [0, 1, 2, 4] rfl ?_
      exact T_X12_paces_156 C hE hk2 hk72 s2 x1 x2 x4 x5 h
    · have h := bq_t q h
      refine aw_iconst (v := 0) C dX12_paces_150 (by decide) ?_
      refine aw_goto (tgt := 156) C dX12_paces_151 (by decide) ?_
      refine aw_sub (lv' := [(0, .ref (N.1 0)), (1, .int x1), (2, .int x2), (4, .int x4)]) [0, 1, 2, 4] rfl ?_
      exact T_X12_paces_156 C hE hk2 hk72 s2 x1 x2 x4 (0 : Int32) h
  · have h := bq_f q h
    refine aw_iload C 5 dX12_paces_100 rfl ?_
    refine aw_iload C 6 dX12_paces_102 rfl ?_
    refine aw_ishr C dX12_paces_104 ?_
    refine aw_iconst (v := 1) C dX12_paces_105 (by decide) ?_
    refine aw_iand C dX12_paces_106 ?_
    refine aw_iconst (v := 1) C dX12_paces_107 (by decide) ?_
    refine aw_icmp_ne (tgt := 140) C dX12_paces_108 (by decide) (fun q => ?_) (fun q => ?_)
    · have h := bq_f q h
      refine aw_sub (lv' := [(0, .ref (N.1 0)), (1, .int x1), (2, .int x2), (3, .int x3), (4, .int x4), (5, .int x5), (6, .int x6)]) [0, 1, 2, 3, 4, 5, 6] rfl ?_
      exact T_X12_paces_140 C hE hk2 hk72 hk91 s2 x1 x2 x3 x4 x5 x6 h
    · have h := bq_t q h
      refine aw_aload_n C 0 dX12_paces_111 rfl ?_
      refine rg_md_steps C lw_9_6 dX12_paces_112 ?_
      refine aw_iconst (v := 2) C dX12_paces_115 (by decide) ?_
      refine aw_iload C 6 dX12_paces_116 rfl ?_
      refine aw_imul C dX12_paces_118 ?_
      refine aw_iload_n C 2 dX12_paces_119 rfl ?_
      refine aw_iadd C dX12_paces_120 ?_
      obtain ⟨q4, h⟩ := oA_e h
      refine ra_iald (k := 29) C (by decide) rfl q4 dX12_paces_121 ?_
      refine aw_bipush (v := 99) C dX12_paces_122 (by decide) ?_
      refine aw_icmp_ne (tgt := 140) C dX12_paces_124 (by decide) (fun q => ?_) (fun q => ?_)
      · have h := bq_f q h
        refine aw_sub (lv' := [(0, .ref (N.1 0)), (1, .int x1), (2, .int x2), (3, .int x3), (4, .int x4), (5, .int x5), (6, .int x6)]) [0, 1, 2, 3, 4, 5, 6] rfl ?_
        exact T_X12_paces_140 C hE hk2 hk72 hk91 s2 x1 x2 x3 x4 x5 x6 h
      · have h := bq_t q h
        refine aw_aload_n C 0 dX12_paces_127 rfl ?_
        refine rg_md_steps C lw_9_6 dX12_paces_128 ?_
        refine aw_iconst (v := 2) C dX12_paces_131 (by decide) ?_
        refine aw_iload C 6 dX12_paces_132 rfl ?_
        refine aw_imul C dX12_paces_134 ?_
        refine aw_iload_n C 2 dX12_paces_135 rfl ?_
        refine aw_iadd C dX12_paces_136 ?_
        refine aw_iload C 4 dX12_paces_137 rfl ?_
        obtain ⟨q5, h⟩ := oA_e h
        refine ra_iast (k := 29) C (by decide) rfl q5 dX12_paces_139 ?_
        refine ra_name (fun s6 es6 => ?_)
        have h := oL_e es6 h
        refine aw_sub (lv' := [(0, .ref (N.1 0)), (1, .int x1), (2, .int x2), (3, .int x3), (4, .int x4), (5, .int x5), (6, .int x6)]) [0, 1, 2, 3, 4, 5, 6] rfl ?_
        exact T_X12_paces_140 C hE hk2 hk72 hk91 s6 x1 x2 x3 x4 x5 x6 h
def F_X12_paces_91 (k2 : St → Int32 → Int32 → Option (St)) (k72 : St → Int32 → Int32 → Int32 → Int32 → Option (St)) : Nat → St → Int32 → Int32 → Int32 → Int32 → Int32 → Int32 → Option (St)
  | 0 => fun _ _ _ _ _ _ _ => none
  | n + 1 => F_X12_paces_91_b k2 k72 (F_X12_paces_91 k2 k72 n)
theorem T_X12_paces_91 {z1 : St} {k2 : St → Int32 → Int32 → Option (St)} {k72 : St → Int32 → Int32 → Int32 → Int32 → Option (St)} (C : Cx p rm_X12_paces s m args c D A cX12_paces 7 RX12 rm_X12_paces N) (hE : En p l e rm_X12_paces s m args below meth c Q D A cX12_paces .return_ (wR N z1) []) (hk2 : ∀ (s0 : St) (x1 : Int32) (x2 : Int32), k2 s0 x1 x2 = some z1 → Aw p l e rm_X12_paces s m args below meth c Q D A 7 (wR N s0) 2 [(0, .ref (N.1 0)), (1, .int x1), (2, .int x2)] []) (hk72 : ∀ (s0 : St) (x1 : Int32) (x2 : Int32) (x3 : Int32) (x4 : Int32), k72 s0 x1 x2 x3 x4 = some z1 → Aw p l e rm_X12_paces s m args below meth c Q D A 7 (wR N s0) 72 [(0, .ref (N.1 0)), (1, .int x1), (2, .int x2), (3, .int x3), (4, .int x4)] []) : ∀ (n : Nat) (s0 : St) (x1 : Int32) (x2 : Int32) (x3 : Int32) (x4 : Int32) (x5 : Int32) (x6 : Int32), F_X12_paces_91 k2 k72 n s0 x1 x2 x3 x4 x5 x6 = some z1 → Aw p l e rm_X12_paces s m args below meth c Q D A 7 (wR N s0) 91 [(0, .ref (N.1 0)), (1, .int x1), (2, .int x2), (3, .int x3), (4, .int x4), (5, .int x5), (6, .int x6)] [] := by
  intro n
  induction n with
  | zero => intro s0 x1 x2 x3 x4 x5 x6 h; cases h
  | succ n ih => intro s0 x1 x2 x3 x4 x5 x6 h; exact T_X12_paces_91_b C hE hk2 hk72 ih s0 x1 x2 x3 x4 x5 x6 h
def F_X12_paces_72_b (k2 : St → Int32 → Int32 → Option (St)) (k72 : St → Int32 → Int32 → Int32 → Int32 → Option (St)) (s0 : St) (x1 : Int32) (x2 : Int32) (x3 : Int32) (x4 : Int32) : Option (St) :=
  if (10 : Int32) ≤ x4 then (
    oL (x2 + (1 : Int32)) fun y1 =>
    k2 s0 x1 y1)
  else (
    oC (f_X12_around s0 x3) fun w4 =>
    oL w4.1 fun v2 => oL w4.2 fun s3 =>
    oL (x3 ||| v2) fun y5 =>
    oL (0 : Int32) fun y6 =>
    F_X12_paces_91 k2 k72 100000 s3 x1 x2 x3 x4 y5 y6)
set_option maxHeartbeats 4000000 in
set_option maxRecDepth 100000 in
theorem T_X12_paces_72_b {z1 : St} {k2 : St → Int32 → Int32 → Option (St)} {k72 : St → Int32 → Int32 → Int32 → Int32 → Option (St)} (C : Cx p rm_X12_paces s m args c D A cX12_paces 7 RX12 rm_X12_paces N) (hE : En p l e rm_X12_paces s m args below meth c Q D A cX12_paces .return_ (wR N z1) []) (hk2 : ∀ (s0 : St) (x1 : Int32) (x2 : Int32), k2 s0 x1 x2 = some z1 → Aw p l e rm_X12_paces s m args below meth c Q D A 7 (wR N s0) 2 [(0, .ref (N.1 0)), (1, .int x1), (2, .int x2)] []) (hk72 : ∀ (s0 : St) (x1 : Int32) (x2 : Int32) (x3 : Int32) (x4 : Int32), k72 s0 x1 x2 x3 x4 = some z1 → Aw p l e rm_X12_paces s m args below meth c Q D A 7 (wR N s0) 72 [(0, .ref (N.1 0)), (1, .int x1), (2, .int x2), (3, .int x3), (4, .int x4)] []) (s0 : St) (x1 : Int32) (x2 : Int32) (x3 : Int32) (x4 : Int32) (h : F_X12_paces_72_b k2 k72 s0 x1 x2 x3 x4 = some z1) : Aw p l e rm_X12_paces s m args below meth c Q D A 7 (wR N s0) 72 [(0, .ref (N.1 0)), (1, .int x1), (2, .int x2), (3, .int x3), (4, .int x4)] [] := by
  unfold F_X12_paces_72_b at h
  refine aw_iload C 4 dX12_paces_72 rfl ?_
  refine aw_bipush (v := 10) C dX12_paces_74 (by decide) ?_
  refine aw_icmp_ge (tgt := 163) C dX12_paces_76 (by decide) (fun q => ?_) (fun q => ?_)
  · have h := bq_t q h
    obtain ⟨y1, ey1⟩ : ∃ q : Int32, q = x2 + (1 : Int32) := ⟨_, rfl⟩
    have h := oL_e ey1 h
    refine aw_iinc (v := y1) (k := 2) (lv' := [(0, .ref (N.1 0)), (1, .int x1), (2, .int y1), (3, .int x3), (4, .int x4)]) C [1, 2, 0, 3, 4] dX12_paces_163 rfl (by rw [ey1]; rfl) (by decide) rfl ?_
    refine aw_goto (tgt := 2) C dX12_paces_166 (by decide) ?_
    refine aw_sub (lv' := [(0, .ref (N.1 0)), (1, .int x1), (2, .int y1)]) [0, 1, 2] rfl ?_
    exact hk2 s0 x1 y1 h
  · have h := bq_f q h
    refine aw_iload_n C 3 dX12_paces_79 rfl ?_
    refine aw_aload_n C 0 dX12_paces_80 rfl ?_
    refine aw_iload_n C 3 dX12_paces_81 rfl ?_
    obtain ⟨⟨v2, s3⟩, cw4, h⟩ := oC_e h
    have h := oL_e (x := s3) rfl (oL_e (x := v2) rfl h)
    refine aw_callVi (n := 1) (As := [.int x3]) (rest := [.int x3]) (q0 := 0) C (c_X12_around l D N s0 s3 x3 v2 cw4) lw_40_14 lw_40_15 lw_40_16 lw_1_5 lw_40_17 rfl rfl (by decide +kernel) ⟨Nat.le_of_ble_eq_true rfl, Nat.le_of_ble_eq_true rfl⟩ rfl rfl rfl rfl rfl (Nat.le_of_ble_eq_true rfl) dX12_paces_82 ?_
    refine aw_ior C dX12_paces_85 ?_
    refine aw_topi (fun y5 ey5 => ?_)
    have h := oL_e ey5 h
    refine aw_istore (lv' := [(0, .ref (N.1 0)), (1, .int x1), (2, .int x2), (3, .int x3), (4, .int x4), (5, .int y5)]) C [1, 2, 3, 4, 5, 0] dX12_paces_86 (by decide) rfl ?_
    refine aw_iconst (v := 0) C dX12_paces_88 (by decide) ?_
    refine aw_topi (fun y6 ey6 => ?_)
    have h := oL_e ey6 h
    refine aw_istore (lv' := [(0, .ref (N.1 0)), (1, .int x1), (2, .int x2), (3, .int x3), (4, .int x4), (5, .int y5), (6, .int y6)]) C [1, 2, 3, 4, 5, 6, 0] dX12_paces_89 (by decide) rfl ?_
    refine aw_sub (lv' := [(0, .ref (N.1 0)), (1, .int x1), (2, .int x2), (3, .int x3), (4, .int x4), (5, .int y5), (6, .int y6)]) [0, 1, 2, 3, 4, 5, 6] rfl ?_
    exact T_X12_paces_91 C hE hk2 hk72 100000 s3 x1 x2 x3 x4 y5 y6 h
def F_X12_paces_72 (k2 : St → Int32 → Int32 → Option (St)) : Nat → St → Int32 → Int32 → Int32 → Int32 → Option (St)
  | 0 => fun _ _ _ _ _ => none
  | n + 1 => F_X12_paces_72_b k2 (F_X12_paces_72 k2 n)
theorem T_X12_paces_72 {z1 : St} {k2 : St → Int32 → Int32 → Option (St)} (C : Cx p rm_X12_paces s m args c D A cX12_paces 7 RX12 rm_X12_paces N) (hE : En p l e rm_X12_paces s m args below meth c Q D A cX12_paces .return_ (wR N z1) []) (hk2 : ∀ (s0 : St) (x1 : Int32) (x2 : Int32), k2 s0 x1 x2 = some z1 → Aw p l e rm_X12_paces s m args below meth c Q D A 7 (wR N s0) 2 [(0, .ref (N.1 0)), (1, .int x1), (2, .int x2)] []) : ∀ (n : Nat) (s0 : St) (x1 : Int32) (x2 : Int32) (x3 : Int32) (x4 : Int32), F_X12_paces_72 k2 n s0 x1 x2 x3 x4 = some z1 → Aw p l e rm_X12_paces s m args below meth c Q D A 7 (wR N s0) 72 [(0, .ref (N.1 0)), (1, .int x1), (2, .int x2), (3, .int x3), (4, .int x4)] [] := by
  intro n
  induction n with
  | zero => intro s0 x1 x2 x3 x4 h; cases h
  | succ n ih => intro s0 x1 x2 x3 x4 h; exact T_X12_paces_72_b C hE hk2 ih s0 x1 x2 x3 x4 h
def F_X12_paces_62 (k2 : St → Int32 → Int32 → Option (St)) (k27 : St → Int32 → Int32 → Int32 → Int32 → Option (St)) (s0 : St) (x1 : Int32) (x2 : Int32) (x3 : Int32) (x4 : Int32) (t0 : Int32) (t1 : Int32) : Option (St) :=
  oA t1 50 <|
  oL (sA s0 29 (upd (s0.2.1 29) (Int32.toNatClampNeg t1) t0)) fun s2 =>
  oL (x4 + (1 : Int32)) fun y3 =>
  k27 s2 x1 x2 x3 y3
set_option maxHeartbeats 4000000 in
set_option maxRecDepth 100000 in
theorem T_X12_paces_62 {z1 : St} {k2 : St → Int32 → Int32 → Option (St)} {k27 : St → Int32 → Int32 → Int32 → Int32 → Option (St)} (C : Cx p rm_X12_paces s m args c D A cX12_paces 7 RX12 rm_X12_paces N) (hE : En p l e rm_X12_paces s m args below meth c Q D A cX12_paces .return_ (wR N z1) []) (hk2 : ∀ (s0 : St) (x1 : Int32) (x2 : Int32), k2 s0 x1 x2 = some z1 → Aw p l e rm_X12_paces s m args below meth c Q D A 7 (wR N s0) 2 [(0, .ref (N.1 0)), (1, .int x1), (2, .int x2)] []) (hk27 : ∀ (s0 : St) (x1 : Int32) (x2 : Int32) (x3 : Int32) (x4 : Int32), k27 s0 x1 x2 x3 x4 = some z1 → Aw p l e rm_X12_paces s m args below meth c Q D A 7 (wR N s0) 27 [(0, .ref (N.1 0)), (1, .int x1), (2, .int x2), (3, .int x3), (4, .int x4)] []) (s0 : St) (x1 : Int32) (x2 : Int32) (x3 : Int32) (x4 : Int32) (t0 : Int32) (t1 : Int32) (h : F_X12_paces_62 k2 k27 s0 x1 x2 x3 x4 t0 t1 = some z1) : Aw p l e rm_X12_paces s m args below meth c Q D A 7 (wR N s0) 62 [(0, .ref (N.1 0)), (1, .int x1), (2, .int x2), (3, .int x3), (4, .int x4)] [.int t0, .int t1, .ref (N.2.1 29)] := by
  unfold F_X12_paces_62 at h
  obtain ⟨q1, h⟩ := oA_e h
  refine ra_iast (k := 29) C (by decide) rfl q1 dX12_paces_62 ?_
  refine ra_name (fun s2 es2 => ?_)
  have h := oL_e es2 h
  obtain ⟨y3, ey3⟩ : ∃ q : Int32, q = x4 + (1 : Int32) := ⟨_, rfl⟩
  have h := oL_e ey3 h
  refine aw_iinc (v := y3) (k := 4) (lv' := [(0, .ref (N.1 0)), (1, .int x1), (2, .int x2), (3, .int x3), (4, .int y3)]) C [1, 2, 3, 4, 0] dX12_paces_63 rfl (by rw [ey3]; rfl) (by decide) rfl ?_
  refine aw_goto (tgt := 27) C dX12_paces_66 (by decide) ?_
  refine aw_sub (lv' := [(0, .ref (N.1 0)), (1, .int x1), (2, .int x2), (3, .int x3), (4, .int y3)]) [0, 1, 2, 3, 4] rfl ?_
  exact hk27 s2 x1 x2 x3 y3 h
def F_X12_paces_27_b (k2 : St → Int32 → Int32 → Option (St)) (k27 : St → Int32 → Int32 → Int32 → Int32 → Option (St)) (s0 : St) (x1 : Int32) (x2 : Int32) (x3 : Int32) (x4 : Int32) : Option (St) :=
  oC (f_X12_cells s0) fun w3 =>
  oL w3.1 fun v1 => oL w3.2 fun s2 =>
  if v1 ≤ x4 then (
    oL (1 : Int32) fun y4 =>
    F_X12_paces_72 k2 100000 s2 x1 x2 x3 y4)
  else (
    if (x3 >>> (x4 &&& 31)) &&& (1 : Int32) = (1 : Int32) then (
      F_X12_paces_62 k2 k27 s2 x1 x2 x3 x4 (0 : Int32) (((2 : Int32) * x4) + x2))
    else (
      F_X12_paces_62 k2 k27 s2 x1 x2 x3 x4 (99 : Int32) (((2 : Int32) * x4) + x2)))
set_option maxHeartbeats 4000000 in
set_option maxRecDepth 100000 in
theorem T_X12_paces_27_b {z1 : St} {k2 : St → Int32 → Int32 → Option (St)} {k27 : St → Int32 → Int32 → Int32 → Int32 → Option (St)} (C : Cx p rm_X12_paces s m args c D A cX12_paces 7 RX12 rm_X12_paces N) (hE : En p l e rm_X12_paces s m args below meth c Q D A cX12_paces .return_ (wR N z1) []) (hk2 : ∀ (s0 : St) (x1 : Int32) (x2 : Int32), k2 s0 x1 x2 = some z1 → Aw p l e rm_X12_paces s m args below meth c Q D A 7 (wR N s0) 2 [(0, .ref (N.1 0)), (1, .int x1), (2, .int x2)] []) (hk27 : ∀ (s0 : St) (x1 : Int32) (x2 : Int32) (x3 : Int32) (x4 : Int32), k27 s0 x1 x2 x3 x4 = some z1 → Aw p l e rm_X12_paces s m args below meth c Q D A 7 (wR N s0) 27 [(0, .ref (N.1 0)), (1, .int x1), (2, .int x2), (3, .int x3), (4, .int x4)] []) (s0 : St) (x1 : Int32) (x2 : Int32) (x3 : Int32) (x4 : Int32) (h : F_X12_paces_27_b k2 k27 s0 x1 x2 x3 x4 = some z1) : Aw p l e rm_X12_paces s m args below meth c Q D A 7 (wR N s0) 27 [(0, .ref (N.1 0)), (1, .int x1), (2, .int x2), (3, .int x3), (4, .int x4)] [] := by
  unfold F_X12_paces_27_b at h
  refine aw_iload C 4 dX12_paces_27 rfl ?_
  refine aw_aload_n C 0 dX12_paces_29 rfl ?_
  obtain ⟨⟨v1, s2⟩, cw3, h⟩ := oC_e h
  have h := oL_e (x := s2) rfl (oL_e (x := v1) rfl h)
  refine aw_callVi (n := 0) (As := []) (rest := [.int x4]) (q0 := 0) C (c_X12_cells l D N s0 s2 v1 cw3) lw_23_23 lw_24_0 lw_24_1 lw_1_5 lw_24_2 rfl rfl (by decide +kernel) ⟨Nat.le_of_ble_eq_true rfl, Nat.le_of_ble_eq_true rfl⟩ rfl rfl rfl rfl rfl (Nat.le_of_ble_eq_true rfl) dX12_paces_30 ?_
  refine aw_icmp_ge (tgt := 69) C dX12_paces_33 (by decide) (fun q => ?_) (fun q => ?_)
  · have h := bq_t q h
    refine aw_iconst (v := 1) C dX12_paces_69 (by decide) ?_
    refine aw_topi (fun y4 ey4 => ?_)
    have h := oL_e ey4 h
    refine aw_istore (lv' := [(0, .ref (N.1 0)), (1, .int x1), (2, .int x2), (3, .int x3), (4, .int y4)]) C [1, 2, 3, 4, 0] dX12_paces_70 (by decide) rfl ?_
    refine aw_sub (lv' := [(0, .ref (N.1 0)), (1, .int x1), (2, .int x2), (3, .int x3), (4, .int y4)]) [0, 1, 2, 3, 4] rfl ?_
    exact T_X12_paces_72 C hE hk2 100000 s2 x1 x2 x3 y4 h
  · have h := bq_f q h
    refine aw_aload_n C 0 dX12_paces_36 rfl ?_
    refine rg_md_steps C lw_9_6 dX12_paces_37 ?_
    refine aw_iconst (v := 2) C dX12_paces_40 (by decide) ?_
    refine aw_iload C 4 dX12_paces_41 rfl ?_
    refine aw_imul C dX12_paces_43 ?_
    refine aw_iload_n C 2 dX12_paces_44 rfl ?_
    refine aw_iadd C dX12_paces_45 ?_
    refine aw_iload_n C 3 dX12_paces_46 rfl ?_
    refine aw_iload C 4 dX12_paces_47 rfl ?_
    refine aw_ishr C dX12_paces_49 ?_
    refine aw_iconst (v := 1) C dX12_paces_50 (by decide) ?_
    refine aw_iand C dX12_paces_51 ?_
    refine aw_iconst (v := 1) C dX12_paces_52 (by decide) ?_
    refine aw_icmp_ne (tgt := 60) C dX12_paces_53 (by decide) (fun q => ?_) (fun q => ?_)
    · have h := bq_f q h
      refine aw_bipush (v := 99) C dX12_paces_60 (by decide) ?_
      refine aw_sub (lv' := [(0, .ref (N.1 0)), (1, .int x1), (2, .int x2), (3, .int x3), (4, .int x4)]) [0, 1, 2, 3, 4] rfl ?_
      exact T_X12_paces_62 C hE hk2 hk27 s2 x1 x2 x3 x4 (99 : Int32) (((2 : Int32) * x4) + x2) h
    · have h := bq_t q h
      refine aw_iconst (v := 0) C dX12_paces_56 (by decide) ?_
      refine aw_goto (tgt := 62) C dX12_paces_57 (by decide) ?_
      refine aw_sub (lv' := [(0, .ref (N.1 0)), (1, .int x1), (2, .int x2), (3, .int x3), (4, .int x4)]) [0, 1, 2, 3, 4] rfl ?_
      exact T_X12_paces_62 C hE hk2 hk27 s2 x1 x2 x3 x4 (0 : Int32) (((2 : Int32) * x4) + x2) h
def F_X12_paces_27 (k2 : St → Int32 → Int32 → Option (St)) : Nat → St → Int32 → Int32 → Int32 → Int32 → Option (St)
  | 0 => fun _ _ _ _ _ => none
  | n + 1 => F_X12_paces_27_b k2 (F_X12_paces_27 k2 n)
theorem T_X12_paces_27 {z1 : St} {k2 : St → Int32 → Int32 → Option (St)} (C : Cx p rm_X12_paces s m args c D A cX12_paces 7 RX12 rm_X12_paces N) (hE : En p l e rm_X12_paces s m args below meth c Q D A cX12_paces .return_ (wR N z1) []) (hk2 : ∀ (s0 : St) (x1 : Int32) (x2 : Int32), k2 s0 x1 x2 = some z1 → Aw p l e rm_X12_paces s m args below meth c Q D A 7 (wR N s0) 2 [(0, .ref (N.1 0)), (1, .int x1), (2, .int x2)] []) : ∀ (n : Nat) (s0 : St) (x1 : Int32) (x2 : Int32) (x3 : Int32) (x4 : Int32), F_X12_paces_27 k2 n s0 x1 x2 x3 x4 = some z1 → Aw p l e rm_X12_paces s m args below meth c Q D A 7 (wR N s0) 27 [(0, .ref (N.1 0)), (1, .int x1), (2, .int x2), (3, .int x3), (4, .int x4)] [] := by
  intro n
  induction n with
  | zero => intro s0 x1 x2 x3 x4 h; cases h
  | succ n ih => intro s0 x1 x2 x3 x4 h; exact T_X12_paces_27_b C hE hk2 ih s0 x1 x2 x3 x4 h
def F_X12_paces_23 (k2 : St → Int32 → Int32 → Option (St)) (s0 : St) (x1 : Int32) (x2 : Int32) (t0 : Int32) : Option (St) :=
  oL (0 : Int32) fun y1 =>
  F_X12_paces_27 k2 100000 s0 x1 x2 t0 y1
set_option maxHeartbeats 4000000 in
set_option maxRecDepth 100000 in
theorem T_X12_paces_23 {z1 : St} {k2 : St → Int32 → Int32 → Option (St)} (C : Cx p rm_X12_paces s m args c D A cX12_paces 7 RX12 rm_X12_paces N) (hE : En p l e rm_X12_paces s m args below meth c Q D A cX12_paces .return_ (wR N z1) []) (hk2 : ∀ (s0 : St) (x1 : Int32) (x2 : Int32), k2 s0 x1 x2 = some z1 → Aw p l e rm_X12_paces s m args below meth c Q D A 7 (wR N s0) 2 [(0, .ref (N.1 0)), (1, .int x1), (2, .int x2)] []) (s0 : St) (x1 : Int32) (x2 : Int32) (t0 : Int32) (h : F_X12_paces_23 k2 s0 x1 x2 t0 = some z1) : Aw p l e rm_X12_paces s m args below meth c Q D A 7 (wR N s0) 23 [(0, .ref (N.1 0)), (1, .int x1), (2, .int x2)] [.int t0] := by
  unfold F_X12_paces_23 at h
  refine aw_istore_n (lv' := [(0, .ref (N.1 0)), (1, .int x1), (2, .int x2), (3, .int t0)]) C [1, 2, 3, 0] dX12_paces_23 rfl (by decide) rfl ?_
  refine aw_iconst (v := 0) C dX12_paces_24 (by decide) ?_
  refine aw_topi (fun y1 ey1 => ?_)
  have h := oL_e ey1 h
  refine aw_istore (lv' := [(0, .ref (N.1 0)), (1, .int x1), (2, .int x2), (3, .int t0), (4, .int y1)]) C [1, 2, 3, 4, 0] dX12_paces_25 (by decide) rfl ?_
  refine aw_sub (lv' := [(0, .ref (N.1 0)), (1, .int x1), (2, .int x2), (3, .int t0), (4, .int y1)]) [0, 1, 2, 3, 4] rfl ?_
  exact T_X12_paces_27 C hE hk2 100000 s0 x1 x2 t0 y1 h
def F_X12_paces_2_b (k2 : St → Int32 → Int32 → Option (St)) (s0 : St) (x1 : Int32) (x2 : Int32) : Option (St) :=
  if (2 : Int32) ≤ x2 then (
    some s0)
  else (
    if x2 = 0 then (
      F_X12_paces_23 k2 s0 x1 x2 x1)
    else (
      oC (f_X12_all s0) fun w3 =>
      oL w3.1 fun v1 => oL w3.2 fun s2 =>
      F_X12_paces_23 k2 s2 x1 x2 (v1 &&& (x1 ^^^ (-1 : Int32)))))
set_option maxHeartbeats 4000000 in
set_option maxRecDepth 100000 in
theorem T_X12_paces_2_b {z1 : St} {k2 : St → Int32 → Int32 → Option (St)} (C : Cx p rm_X12_paces s m args c D A cX12_paces 7 RX12 rm_X12_paces N) (hE : En p l e rm_X12_paces s m args below meth c Q D A cX12_paces .return_ (wR N z1) []) (hk2 : ∀ (s0 : St) (x1 : Int32) (x2 : Int32), k2 s0 x1 x2 = some z1 → Aw p l e rm_X12_paces s m args below meth c Q D A 7 (wR N s0) 2 [(0, .ref (N.1 0)), (1, .int x1), (2, .int x2)] []) (s0 : St) (x1 : Int32) (x2 : Int32) (h : F_X12_paces_2_b k2 s0 x1 x2 = some z1) : Aw p l e rm_X12_paces s m args below meth c Q D A 7 (wR N s0) 2 [(0, .ref (N.1 0)), (1, .int x1), (2, .int x2)] [] := by
  unfold F_X12_paces_2_b at h
  refine aw_iload_n C 2 dX12_paces_2 rfl ?_
  refine aw_iconst (v := 2) C dX12_paces_3 (by decide) ?_
  refine aw_icmp_ge (tgt := 169) C dX12_paces_4 (by decide) (fun q => ?_) (fun q => ?_)
  · have h := bq_t q h
    cases h
    exact aw_ret hE dX12_paces_169
  · have h := bq_f q h
    refine aw_iload_n C 2 dX12_paces_7 rfl ?_
    refine aw_if_ne (tgt := 15) C dX12_paces_8 (by decide) (fun q => ?_) (fun q => ?_)
    · have h := bq_f q h
      refine aw_aload_n C 0 dX12_paces_15 rfl ?_
      obtain ⟨⟨v1, s2⟩, cw3, h⟩ := oC_e h
      have h := oL_e (x := s2) rfl (oL_e (x := v1) rfl h)
      refine aw_callVi (n := 0) (As := []) (rest := []) (q0 := 0) C (c_X12_all l D N s0 s2 v1 cw3) lw_40_18 lw_40_19 lw_40_20 lw_1_5 lw_40_21 rfl rfl (by decide +kernel) ⟨Nat.le_of_ble_eq_true rfl, Nat.le_of_ble_eq_true rfl⟩ rfl rfl rfl rfl rfl (Nat.le_of_ble_eq_true rfl) dX12_paces_16 ?_
      refine aw_iload_n C 1 dX12_paces_19 rfl ?_
      refine aw_iconst (v := -1) C dX12_paces_20 (by decide) ?_
      refine aw_ixor C dX12_paces_21 ?_
      refine aw_iand C dX12_paces_22 ?_
      refine aw_sub (lv' := [(0, .ref (N.1 0)), (1, .int x1), (2, .int x2)]) [0, 1, 2] rfl ?_
      exact T_X12_paces_23 C hE hk2 s2 x1 x2 (v1 &&& (x1 ^^^ (-1 : Int32))) h
    · have h := bq_t q h
      refine aw_iload_n C 1 dX12_paces_11 rfl ?_
      refine aw_goto (tgt := 23) C dX12_paces_12 (by decide) ?_
      refine aw_sub (lv' := [(0, .ref (N.1 0)), (1, .int x1), (2, .int x2)]) [0, 1, 2] rfl ?_
      exact T_X12_paces_23 C hE hk2 s0 x1 x2 x1 h
def F_X12_paces_2 : Nat → St → Int32 → Int32 → Option (St)
  | 0 => fun _ _ _ => none
  | n + 1 => F_X12_paces_2_b (F_X12_paces_2 n)
theorem T_X12_paces_2 {z1 : St} (C : Cx p rm_X12_paces s m args c D A cX12_paces 7 RX12 rm_X12_paces N) (hE : En p l e rm_X12_paces s m args below meth c Q D A cX12_paces .return_ (wR N z1) [])  : ∀ (n : Nat) (s0 : St) (x1 : Int32) (x2 : Int32), F_X12_paces_2 n s0 x1 x2 = some z1 → Aw p l e rm_X12_paces s m args below meth c Q D A 7 (wR N s0) 2 [(0, .ref (N.1 0)), (1, .int x1), (2, .int x2)] [] := by
  intro n
  induction n with
  | zero => intro s0 x1 x2 h; cases h
  | succ n ih => intro s0 x1 x2 h; exact T_X12_paces_2_b C hE ih s0 x1 x2 h
def F_X12_paces_0 (s0 : St) (x1 : Int32) : Option (St) :=
  oL (0 : Int32) fun y1 =>
  F_X12_paces_2 100000 s0 x1 y1
set_option maxHeartbeats 4000000 in
set_option maxRecDepth 100000 in
theorem T_X12_paces_0 {z1 : St} (C : Cx p rm_X12_paces s m args c D A cX12_paces 7 RX12 rm_X12_paces N) (hE : En p l e rm_X12_paces s m args below meth c Q D A cX12_paces .return_ (wR N z1) [])  (s0 : St) (x1 : Int32) (h : F_X12_paces_0 s0 x1 = some z1) : Aw p l e rm_X12_paces s m args below meth c Q D A 7 (wR N s0) 0 [(0, .ref (N.1 0)), (1, .int x1)] [] := by
  unfold F_X12_paces_0 at h
  refine aw_iconst (v := 0) C dX12_paces_0 (by decide) ?_
  refine aw_topi (fun y1 ey1 => ?_)
  have h := oL_e ey1 h
  refine aw_istore_n (lv' := [(0, .ref (N.1 0)), (1, .int x1), (2, .int y1)]) C [1, 2, 0] dX12_paces_1 rfl (by decide) rfl ?_
  refine aw_sub (lv' := [(0, .ref (N.1 0)), (1, .int x1), (2, .int y1)]) [0, 1, 2] rfl ?_
  exact T_X12_paces_2 C hE 100000 s0 x1 y1 h
def f_X12_paces (s0 : St) (x1 : Int32) : Option (St) := F_X12_paces_0 s0 x1
theorem c_X12_paces (l : Launch) (D : va_G) (N : Nm) (s0 z1 : St) (x1 : Int32) (h : f_X12_paces s0 x1 = some z1) : Metv l yX12_paces (tsU yX12_paces cX12_paces 7 none) rm_X12_paces D N [.ref (N.1 0), .int x1] (wR N s0) (wR N z1) :=
  met_v (cc := cX12_paces) (nL := 7) (own := RX12) (by decide) rfl (Nat.le_of_ble_eq_true rfl) (fun p e s m args below meth c Q A C hE => aw_sub [0, 1] rfl (T_X12_paces_0 C hE s0 x1 h))
/-! AwardLineModel.goal(II)I -/
def rm_X12_goal : Room := { frames := 2, cells := 0, slots := 0, locals := 36 }
def F_X12_goal_56 (k5 : St → Int32 → Int32 → Int32 → Int32 → Option (Int32 × St)) (s0 : St) (x1 : Int32) (x2 : Int32) (x3 : Int32) (x4 : Int32) : Option (Int32 × St) :=
  oL (x4 + (1 : Int32)) fun y1 =>
  k5 s0 x1 x2 x3 y1
set_option maxHeartbeats 4000000 in
set_option maxRecDepth 100000 in
theorem T_X12_goal_56 {r : Int32} {z1 : St} {k5 : St → Int32 → Int32 → Int32 → Int32 → Option (Int32 × St)} (C : Cx p rm_X12_goal s m args c D A cX12_goal 5 RX12 rm_X12_goal N) (hE : En p l e rm_X12_goal s m args below meth c Q D A cX12_goal .ireturn (wR N z1) [.int r]) (hk5 : ∀ (s0 : St) (x1 : Int32) (x2 : Int32) (x3 : Int32) (x4 : Int32), k5 s0 x1 x2 x3 x4 = some (r, z1) → Aw p l e rm_X12_goal s m args below meth c Q D A 5 (wR N s0) 5 [(0, .ref (N.1 0)), (1, .int x1), (2, .int x2), (3, .int x3), (4, .int x4)] []) (s0 : St) (x1 : Int32) (x2 : Int32) (x3 : Int32) (x4 : Int32) (h : F_X12_goal_56 k5 s0 x1 x2 x3 x4 = some (r, z1)) : Aw p l e rm_X12_goal s m args below meth c Q D A 5 (wR N s0) 56 [(0, .ref (N.1 0)), (1, .int x1), (2, .int x2), (3, .int x3), (4, .int x4)] [] := by
  unfold F_X12_goal_56 at h
  obtain ⟨y1, ey1⟩ : ∃ q : Int32, q = x4 + (1 : Int32) := ⟨_, rfl⟩
  have h := oL_e ey1 h
  refine aw_iinc (v := y1) (k := 4) (lv' := [(0, .ref (N.1 0)), (1, .int x1), (2, .int x2), (3, .int x3), (4, .int y1)]) C [1, 2, 3, 4, 0] dX12_goal_56 rfl (by rw [ey1]; rfl) (by decide) rfl ?_
  refine aw_goto (tgt := 5) C dX12_goal_59 (by decide) ?_
  refine aw_sub (lv' := [(0, .ref (N.1 0)), (1, .int x1), (2, .int x2), (3, .int x3), (4, .int y1)]) [0, 1, 2, 3, 4] rfl ?_
  exact hk5 s0 x1 x2 x3 y1 h
def F_X12_goal_53 (k5 : St → Int32 → Int32 → Int32 → Int32 → Option (Int32 × St)) (s0 : St) (x1 : Int32) (x2 : Int32) (x4 : Int32) : Option (Int32 × St) :=
  F_X12_goal_56 k5 s0 x1 x2 x4 x4
set_option maxHeartbeats 4000000 in
set_option maxRecDepth 100000 in
theorem T_X12_goal_53 {r : Int32} {z1 : St} {k5 : St → Int32 → Int32 → Int32 → Int32 → Option (Int32 × St)} (C : Cx p rm_X12_goal s m args c D A cX12_goal 5 RX12 rm_X12_goal N) (hE : En p l e rm_X12_goal s m args below meth c Q D A cX12_goal .ireturn (wR N z1) [.int r]) (hk5 : ∀ (s0 : St) (x1 : Int32) (x2 : Int32) (x3 : Int32) (x4 : Int32), k5 s0 x1 x2 x3 x4 = some (r, z1) → Aw p l e rm_X12_goal s m args below meth c Q D A 5 (wR N s0) 5 [(0, .ref (N.1 0)), (1, .int x1), (2, .int x2), (3, .int x3), (4, .int x4)] []) (s0 : St) (x1 : Int32) (x2 : Int32) (x4 : Int32) (h : F_X12_goal_53 k5 s0 x1 x2 x4 = some (r, z1)) : Aw p l e rm_X12_goal s m args below meth c Q D A 5 (wR N s0) 53 [(0, .ref (N.1 0)), (1, .int x1), (2, .int x2), (4, .int x4)] [] := by
  unfold F_X12_goal_53 at h
  refine aw_iload C 3 dX12_goal_53 rfl ?_
  refine aw_istore_n (lv' := [(0, .ref (N.1 0)), (1, .int x1), (2, .int x2), (3, .int x4), (4, .int x4)]) C [1, 2, 3, 0, 4] dX12_goal_55 rfl (by decide) rfl ?_
  refine aw_sub (lv' := [(0, .ref (N.1 0)), (1, .int x1), (2, .int x2), (3, .int x4), (4, .int x4)]) [0, 1, 2, 3, 4] rfl ?_
  exact T_X12_goal_56 C hE hk5 s0 x1 x2 x4 x4 h
def F_X12_goal_5_b (k5 : St → Int32 → Int32 → Int32 → Int32 → Option (Int32 × St)) (s0 : St) (x1 : Int32) (x2 : Int32) (x3 : Int32) (x4 : Int32) : Option (Int32 × St) :=
  oC (f_X12_cells s0) fun w3 =>
  oL w3.1 fun v1 => oL w3.2 fun s2 =>
  if v1 ≤ x4 then (
    some (x3, s2))
  else (
    oC (f_X12_areBeside s2 x4 x1) fun w6 =>
    oL w6.1 fun v4 => oL w6.2 fun s5 =>
    if v4 = 0 then (
      F_X12_goal_56 k5 s5 x1 x2 x3 x4)
    else (
      if x3 = (-1 : Int32) then (
        F_X12_goal_53 k5 s5 x1 x2 x4)
      else (
        oA (((2 : Int32) * x4) + x2) 50 <|
        oA (((2 : Int32) * x3) + x2) 50 <|
        if (s5.2.1 29 (Int32.toNatClampNeg (((2 : Int32) * x3) + x2))) ≤ (s5.2.1 29 (Int32.toNatClampNeg (((2 : Int32) * x4) + x2))) then (
          F_X12_goal_56 k5 s5 x1 x2 x3 x4)
        else (
          F_X12_goal_53 k5 s5 x1 x2 x4))))
set_option maxHeartbeats 4000000 in
set_option maxRecDepth 100000 in
theorem T_X12_goal_5_b {r : Int32} {z1 : St} {k5 : St → Int32 → Int32 → Int32 → Int32 → Option (Int32 × St)} (C : Cx p rm_X12_goal s m args c D A cX12_goal 5 RX12 rm_X12_goal N) (hE : En p l e rm_X12_goal s m args below meth c Q D A cX12_goal .ireturn (wR N z1) [.int r]) (hk5 : ∀ (s0 : St) (x1 : Int32) (x2 : Int32) (x3 : Int32) (x4 : Int32), k5 s0 x1 x2 x3 x4 = some (r, z1) → Aw p l e rm_X12_goal s m args below meth c Q D A 5 (wR N s0) 5 [(0, .ref (N.1 0)), (1, .int x1), (2, .int x2), (3, .int x3), (4, .int x4)] []) (s0 : St) (x1 : Int32) (x2 : Int32) (x3 : Int32) (x4 : Int32) (h : F_X12_goal_5_b k5 s0 x1 x2 x3 x4 = some (r, z1)) : Aw p l e rm_X12_goal s m args below meth c Q D A 5 (wR N s0) 5 [(0, .ref (N.1 0)), (1, .int x1), (2, .int x2), (3, .int x3), (4, .int x4)] [] := by
  unfold F_X12_goal_5_b at h
  refine aw_iload C 4 dX12_goal_5 rfl ?_
  refine aw_aload_n C 0 dX12_goal_7 rfl ?_
  obtain ⟨⟨v1, s2⟩, cw3, h⟩ := oC_e h
  have h := oL_e (x := s2) rfl (oL_e (x := v1) rfl h)
  refine aw_callVi (n := 0) (As := []) (rest := [.int x4]) (q0 := 0) C (c_X12_cells l D N s0 s2 v1 cw3) lw_23_23 lw_24_0 lw_24_1 lw_1_5 lw_24_2 rfl rfl (by decide +kernel) ⟨Nat.le_of_ble_eq_true rfl, Nat.le_of_ble_eq_true rfl⟩ rfl rfl rfl rfl rfl (Nat.le_of_ble_eq_true rfl) dX12_goal_8 ?_
  refine aw_icmp_ge (tgt := 62) C dX12_goal_11 (by decide) (fun q => ?_) (fun q => ?_)
  · have h := bq_t q h
    refine aw_iload_n C 3 dX12_goal_62 rfl ?_
    cases h
    exact aw_ret hE dX12_goal_63
  · have h := bq_f q h
    refine aw_aload_n C 0 dX12_goal_14 rfl ?_
    refine aw_iload C 4 dX12_goal_15 rfl ?_
    refine aw_iload_n C 1 dX12_goal_17 rfl ?_
    obtain ⟨⟨v4, s5⟩, cw6, h⟩ := oC_e h
    have h := oL_e (x := s5) rfl (oL_e (x := v4) rfl h)
    refine aw_callVi (n := 2) (As := [.int x4, .int x1]) (rest := []) (q0 := 0) C (c_X12_areBeside l D N s2 s5 x4 x1 v4 cw6) lw_51_9 lw_51_10 lw_51_11 lw_1_5 lw_51_12 rfl rfl (by decide +kernel) ⟨Nat.le_of_ble_eq_true rfl, Nat.le_of_ble_eq_true rfl⟩ rfl rfl rfl rfl rfl (Nat.le_of_ble_eq_true rfl) dX12_goal_18 ?_
    refine aw_if_eq (tgt := 56) C dX12_goal_21 (by decide) (fun q => ?_) (fun q => ?_)
    · have h := bq_t q h
      refine aw_sub (lv' := [(0, .ref (N.1 0)), (1, .int x1), (2, .int x2), (3, .int x3), (4, .int x4)]) [0, 1, 2, 3, 4] rfl ?_
      exact T_X12_goal_56 C hE hk5 s5 x1 x2 x3 x4 h
    · have h := bq_f q h
      refine aw_iload_n C 3 dX12_goal_24 rfl ?_
      refine aw_iconst (v := -1) C dX12_goal_25 (by decide) ?_
      refine aw_icmp_eq (tgt := 53) C dX12_goal_26 (by decide) (fun q => ?_) (fun q => ?_)
      · have h := bq_t q h
        refine aw_sub (lv' := [(0, .ref (N.1 0)), (1, .int x1), (2, .int x2), (4, .int x4)]) [0, 1, 2, 4] rfl ?_
        exact T_X12_goal_53 C hE hk5 s5 x1 x2 x4 h
      · have h := bq_f q h
        refine aw_aload_n C 0 dX12_goal_29 rfl ?_
        refine rg_md_steps C lw_9_6 dX12_goal_30 ?_
        refine aw_iconst (v := 2) C dX12_goal_33 (by decide) ?_
        refine aw_iload C 4 dX12_goal_34 rfl ?_
        refine aw_imul C dX12_goal_36 ?_
        refine aw_iload_n C 2 dX12_goal_37 rfl ?_
        refine aw_iadd C dX12_goal_38 ?_
        obtain ⟨q7, h⟩ := oA_e h
        refine ra_iald (k := 29) C (by decide) rfl q7 dX12_goal_39 ?_
        refine aw_aload_n C 0 dX12_goal_40 rfl ?_
        refine rg_md_steps C lw_9_6 dX12_goal_41 ?_
        refine aw_iconst (v := 2) C dX12_goal_44 (by decide) ?_
        refine aw_iload_n C 3 dX12_goal_45 rfl ?_
        refine aw_imul C dX12_goal_46 ?_
        refine aw_iload_n C 2 dX12_goal_47 rfl ?_
        refine aw_iadd C dX12_goal_48 ?_
        obtain ⟨q8, h⟩ := oA_e h
        refine ra_iald (k := 29) C (by decide) rfl q8 dX12_goal_49 ?_
        refine aw_icmp_ge (tgt := 56) C dX12_goal_50 (by decide) (fun q => ?_) (fun q => ?_)
        · have h := bq_t q h
          refine aw_sub (lv' := [(0, .ref (N.1 0)), (1, .int x1), (2, .int x2), (3, .int x3), (4, .int x4)]) [0, 1, 2, 3, 4] rfl ?_
          exact T_X12_goal_56 C hE hk5 s5 x1 x2 x3 x4 h
        · have h := bq_f q h
          refine aw_sub (lv' := [(0, .ref (N.1 0)), (1, .int x1), (2, .int x2), (4, .int x4)]) [0, 1, 2, 4] rfl ?_
          exact T_X12_goal_53 C hE hk5 s5 x1 x2 x4 h
def F_X12_goal_5 : Nat → St → Int32 → Int32 → Int32 → Int32 → Option (Int32 × St)
  | 0 => fun _ _ _ _ _ => none
  | n + 1 => F_X12_goal_5_b (F_X12_goal_5 n)
theorem T_X12_goal_5 {r : Int32} {z1 : St} (C : Cx p rm_X12_goal s m args c D A cX12_goal 5 RX12 rm_X12_goal N) (hE : En p l e rm_X12_goal s m args below meth c Q D A cX12_goal .ireturn (wR N z1) [.int r])  : ∀ (n : Nat) (s0 : St) (x1 : Int32) (x2 : Int32) (x3 : Int32) (x4 : Int32), F_X12_goal_5 n s0 x1 x2 x3 x4 = some (r, z1) → Aw p l e rm_X12_goal s m args below meth c Q D A 5 (wR N s0) 5 [(0, .ref (N.1 0)), (1, .int x1), (2, .int x2), (3, .int x3), (4, .int x4)] [] := by
  intro n
  induction n with
  | zero => intro s0 x1 x2 x3 x4 h; cases h
  | succ n ih => intro s0 x1 x2 x3 x4 h; exact T_X12_goal_5_b C hE ih s0 x1 x2 x3 x4 h
def F_X12_goal_0 (s0 : St) (x1 : Int32) (x2 : Int32) : Option (Int32 × St) :=
  oL (-1 : Int32) fun y1 =>
  oL (0 : Int32) fun y2 =>
  F_X12_goal_5 100000 s0 x1 x2 y1 y2
set_option maxHeartbeats 4000000 in
set_option maxRecDepth 100000 in
theorem T_X12_goal_0 {r : Int32} {z1 : St} (C : Cx p rm_X12_goal s m args c D A cX12_goal 5 RX12 rm_X12_goal N) (hE : En p l e rm_X12_goal s m args below meth c Q D A cX12_goal .ireturn (wR N z1) [.int r])  (s0 : St) (x1 : Int32) (x2 : Int32) (h : F_X12_goal_0 s0 x1 x2 = some (r, z1)) : Aw p l e rm_X12_goal s m args below meth c Q D A 5 (wR N s0) 0 [(0, .ref (N.1 0)), (1, .int x1), (2, .int x2)] [] := by
  unfold F_X12_goal_0 at h
  refine aw_iconst (v := -1) C dX12_goal_0 (by decide) ?_
  refine aw_topi (fun y1 ey1 => ?_)
  have h := oL_e ey1 h
  refine aw_istore_n (lv' := [(0, .ref (N.1 0)), (1, .int x1), (2, .int x2), (3, .int y1)]) C [1, 2, 3, 0] dX12_goal_1 rfl (by decide) rfl ?_
  refine aw_iconst (v := 0) C dX12_goal_2 (by decide) ?_
  refine aw_topi (fun y2 ey2 => ?_)
  have h := oL_e ey2 h
  refine aw_istore (lv' := [(0, .ref (N.1 0)), (1, .int x1), (2, .int x2), (3, .int y1), (4, .int y2)]) C [1, 2, 3, 4, 0] dX12_goal_3 (by decide) rfl ?_
  refine aw_sub (lv' := [(0, .ref (N.1 0)), (1, .int x1), (2, .int x2), (3, .int y1), (4, .int y2)]) [0, 1, 2, 3, 4] rfl ?_
  exact T_X12_goal_5 C hE 100000 s0 x1 x2 y1 y2 h
def f_X12_goal (s0 : St) (x1 : Int32) (x2 : Int32) : Option (Int32 × St) := F_X12_goal_0 s0 x1 x2
theorem c_X12_goal (l : Launch) (D : va_G) (N : Nm) (s0 z1 : St) (x1 : Int32) (x2 : Int32) (r : Int32) (h : f_X12_goal s0 x1 x2 = some (r, z1)) : Meti l yX12_goal (tsU yX12_goal cX12_goal 5 (some .int)) rm_X12_goal D N [.ref (N.1 0), .int x1, .int x2] (wR N s0) r (wR N z1) :=
  met_i (cc := cX12_goal) (nL := 5) (own := RX12) (by decide) rfl (Nat.le_of_ble_eq_true rfl) (fun p e s m args below meth c Q A C hE => aw_sub [0, 1, 2] rfl (T_X12_goal_0 C hE s0 x1 x2 h))
/-! AwardLineModel.leaves(III)V -/
def rm_X12_leaves : Room := { frames := 3, cells := 0, slots := 0, locals := 60 }
def F_X12_leaves_53 (s0 : St) : Option (St) :=
  some s0
set_option maxHeartbeats 4000000 in
set_option maxRecDepth 100000 in
theorem T_X12_leaves_53 {z1 : St} (C : Cx p rm_X12_leaves s m args c D A cX12_leaves 7 RX12 rm_X12_leaves N) (hE : En p l e rm_X12_leaves s m args below meth c Q D A cX12_leaves .return_ (wR N z1) [])  (s0 : St) (h : F_X12_leaves_53 s0 = some z1) : Aw p l e rm_X12_leaves s m args below meth c Q D A 7 (wR N s0) 53 [] [] := by
  unfold F_X12_leaves_53 at h
  cases h
  exact aw_ret hE dX12_leaves_53
def F_X12_leaves_82 (s0 : St) (x1 : Int32) (x2 : Int32) (x4 : Int32) (x5 : Int32) (t0 : Int32) : Option (St) :=
  oL (sI s0 30 ((s0.1 30) + t0)) fun s1 =>
  oA (((2 : Int32) * x1) + x2) 50 <|
  oA (((2 : Int32) * x1) + x2) 50 <|
  oL (sA s1 28 (upd (s1.2.1 28) (Int32.toNatClampNeg (((2 : Int32) * x1) + x2)) ((s1.2.1 28 (Int32.toNatClampNeg (((2 : Int32) * x1) + x2))) - x5))) fun s4 =>
  oA (((2 : Int32) * x4) + x2) 50 <|
  oA (((2 : Int32) * x4) + x2) 50 <|
  oL (sA s4 28 (upd (s4.2.1 28) (Int32.toNatClampNeg (((2 : Int32) * x4) + x2)) ((s4.2.1 28 (Int32.toNatClampNeg (((2 : Int32) * x4) + x2))) + (x5 - t0)))) fun s7 =>
  some s7
set_option maxHeartbeats 4000000 in
set_option maxRecDepth 100000 in
theorem T_X12_leaves_82 {z1 : St} (C : Cx p rm_X12_leaves s m args c D A cX12_leaves 7 RX12 rm_X12_leaves N) (hE : En p l e rm_X12_leaves s m args below meth c Q D A cX12_leaves .return_ (wR N z1) [])  (s0 : St) (x1 : Int32) (x2 : Int32) (x4 : Int32) (x5 : Int32) (t0 : Int32) (h : F_X12_leaves_82 s0 x1 x2 x4 x5 t0 = some z1) : Aw p l e rm_X12_leaves s m args below meth c Q D A 7 (wR N s0) 82 [(0, .ref (N.1 0)), (1, .int x1), (2, .int x2), (4, .int x4), (5, .int x5)] [.int t0] := by
  unfold F_X12_leaves_82 at h
  refine aw_istore (lv' := [(0, .ref (N.1 0)), (1, .int x1), (2, .int x2), (4, .int x4), (5, .int x5), (6, .int t0)]) C [1, 2, 3, 4, 5, 0] dX12_leaves_82 (by decide) rfl ?_
  refine aw_aload_n C 0 dX12_leaves_84 rfl ?_
  refine aw_dup C dX12_leaves_85 rfl ?_
  refine rg_md_lost C lw_50_12 dX12_leaves_86 ?_
  refine aw_iload C 5 dX12_leaves_89 rfl ?_
  refine aw_iadd C dX12_leaves_91 ?_
  refine rp_md_lost C lw_50_12 dX12_leaves_92 ?_
  refine ra_name (fun s1 es1 => ?_)
  have h := oL_e es1 h
  refine aw_aload_n C 0 dX12_leaves_95 rfl ?_
  refine rg_md_then C lw_9_5 dX12_leaves_96 ?_
  refine aw_iconst (v := 2) C dX12_leaves_99 (by decide) ?_
  refine aw_iload_n C 1 dX12_leaves_100 rfl ?_
  refine aw_imul C dX12_leaves_101 ?_
  refine aw_iload_n C 2 dX12_leaves_102 rfl ?_
  refine aw_iadd C dX12_leaves_103 ?_
  refine aw_dup2 C dX12_leaves_104 rfl rfl ?_
  obtain ⟨q2, h⟩ := oA_e h
  refine ra_iald (k := 28) C (by decide) rfl q2 dX12_leaves_105 ?_
  refine aw_iload C 4 dX12_leaves_106 rfl ?_
  refine aw_isub C dX12_leaves_108 ?_
  obtain ⟨q3, h⟩ := oA_e h
  refine ra_iast (k := 28) C (by decide) rfl q3 dX12_leaves_109 ?_
  refine ra_name (fun s4 es4 => ?_)
  have h := oL_e es4 h
  refine aw_aload_n C 0 dX12_leaves_110 rfl ?_
  refine rg_md_then C lw_9_5 dX12_leaves_111 ?_
  refine aw_iconst (v := 2) C dX12_leaves_114 (by decide) ?_
  refine aw_iload C 3 dX12_leaves_115 rfl ?_
  refine aw_imul C dX12_leaves_117 ?_
  refine aw_iload_n C 2 dX12_leaves_118 rfl ?_
  refine aw_iadd C dX12_leaves_119 ?_
  refine aw_dup2 C dX12_leaves_120 rfl rfl ?_
  obtain ⟨q5, h⟩ := oA_e h
  refine ra_iald (k := 28) C (by decide) rfl q5 dX12_leaves_121 ?_
  refine aw_iload C 4 dX12_leaves_122 rfl ?_
  refine aw_iload C 5 dX12_leaves_124 rfl ?_
  refine aw_isub C dX12_leaves_126 ?_
  refine aw_iadd C dX12_leaves_127 ?_
  obtain ⟨q6, h⟩ := oA_e h
  refine ra_iast (k := 28) C (by decide) rfl q6 dX12_leaves_128 ?_
  refine ra_name (fun s7 es7 => ?_)
  have h := oL_e es7 h
  cases h
  exact aw_ret hE dX12_leaves_129
def F_X12_leaves_0 (s0 : St) (x1 : Int32) (x2 : Int32) (x3 : Int32) : Option (St) :=
  oC (f_X12_goal s0 x1 x2) fun w3 =>
  oL w3.1 fun v1 => oL w3.2 fun s2 =>
  oA (((2 : Int32) * x1) + x2) 50 <|
  oA (4 : Int32) 12 <|
  oD (100 : Int32) <|
  oL ((((s2.2.1 27 (Int32.toNatClampNeg (((2 : Int32) * x1) + x2))) * (s2.2.1 3 (Int32.toNatClampNeg (4 : Int32)))) + (99 : Int32)) / (100 : Int32)) fun y7 =>
  if y7 = 0 then (
    F_X12_leaves_53 s2)
  else (
    oA (((2 : Int32) * x1) + x2) 50 <|
    if (s2.2.1 29 (Int32.toNatClampNeg (((2 : Int32) * x1) + x2))) = (99 : Int32) then (
      F_X12_leaves_53 s2)
    else (
      if (x3 >>> (x1 &&& 31)) &&& (1 : Int32) = (1 : Int32) then (
        F_X12_leaves_82 s2 x1 x2 v1 y7 (0 : Int32))
      else (
        oA (5 : Int32) 12 <|
        oD (100 : Int32) <|
        F_X12_leaves_82 s2 x1 x2 v1 y7 (((y7 * (s2.2.1 3 (Int32.toNatClampNeg (5 : Int32)))) + (99 : Int32)) / (100 : Int32)))))
set_option maxHeartbeats 4000000 in
set_option maxRecDepth 100000 in
theorem T_X12_leaves_0 {z1 : St} (C : Cx p rm_X12_leaves s m args c D A cX12_leaves 7 RX12 rm_X12_leaves N) (hE : En p l e rm_X12_leaves s m args below meth c Q D A cX12_leaves .return_ (wR N z1) [])  (s0 : St) (x1 : Int32) (x2 : Int32) (x3 : Int32) (h : F_X12_leaves_0 s0 x1 x2 x3 = some z1) : Aw p l e rm_X12_leaves s m args below meth c Q D A 7 (wR N s0) 0 [(0, .ref (N.1 0)), (1, .int x1), (2, .int x2), (3, .int x3)] [] := by
  unfold F_X12_leaves_0 at h
  refine aw_aload_n C 0 dX12_leaves_0 rfl ?_
  refine aw_iload_n C 1 dX12_leaves_1 rfl ?_
  refine aw_iload_n C 2 dX12_leaves_2 rfl ?_
  obtain ⟨⟨v1, s2⟩, cw3, h⟩ := oC_e h
  have h := oL_e (x := s2) rfl (oL_e (x := v1) rfl h)
  refine aw_callVi (n := 2) (As := [.int x1, .int x2]) (rest := []) (q0 := 0) C (c_X12_goal l D N s0 s2 x1 x2 v1 cw3) lw_51_5 lw_51_6 lw_51_7 lw_1_5 lw_51_8 rfl rfl (by decide +kernel) ⟨Nat.le_of_ble_eq_true rfl, Nat.le_of_ble_eq_true rfl⟩ rfl rfl rfl rfl rfl (Nat.le_of_ble_eq_true rfl) dX12_leaves_3 ?_
  refine aw_istore (lv' := [(0, .ref (N.1 0)), (1, .int x1), (2, .int x2), (3, .int x3), (4, .int v1)]) C [1, 2, 3, 4, 0] dX12_leaves_6 (by decide) rfl ?_
  refine aw_aload_n C 0 dX12_leaves_8 rfl ?_
  refine rg_md_there C lw_9_4 dX12_leaves_9 ?_
  refine aw_iconst (v := 2) C dX12_leaves_12 (by decide) ?_
  refine aw_iload_n C 1 dX12_leaves_13 rfl ?_
  refine aw_imul C dX12_leaves_14 ?_
  refine aw_iload_n C 2 dX12_leaves_15 rfl ?_
  refine aw_iadd C dX12_leaves_16 ?_
  obtain ⟨q4, h⟩ := oA_e h
  refine ra_iald (k := 27) C (by decide) rfl q4 dX12_leaves_17 ?_
  refine aw_aload_n C 0 dX12_leaves_18 rfl ?_
  refine rg_md_rule C lw_8_3 dX12_leaves_19 ?_
  refine aw_iconst (v := 4) C dX12_leaves_22 (by decide) ?_
  obtain ⟨q5, h⟩ := oA_e h
  refine ra_iald (k := 3) C (by decide) rfl q5 dX12_leaves_23 ?_
  refine aw_imul C dX12_leaves_24 ?_
  refine aw_bipush (v := 99) C dX12_leaves_25 (by decide) ?_
  refine aw_iadd C dX12_leaves_27 ?_
  refine aw_bipush (v := 100) C dX12_leaves_28 (by decide) ?_
  obtain ⟨q6, h⟩ := oD_e h
  refine aw_idiv C dX12_leaves_30 q6 ?_
  refine aw_topi (fun y7 ey7 => ?_)
  have h := oL_e ey7 h
  refine aw_istore (lv' := [(0, .ref (N.1 0)), (1, .int x1), (2, .int x2), (3, .int x3), (4, .int v1), (5, .int y7)]) C [1, 2, 3, 4, 5, 0] dX12_leaves_31 (by decide) rfl ?_
  refine aw_iload C 5 dX12_leaves_33 rfl ?_
  refine aw_if_eq (tgt := 53) C dX12_leaves_35 (by decide) (fun q => ?_) (fun q => ?_)
  · have h := bq_t q h
    refine aw_sub (lv' := []) [] rfl ?_
    exact T_X12_leaves_53 C hE s2 h
  · have h := bq_f q h
    refine aw_aload_n C 0 dX12_leaves_38 rfl ?_
    refine rg_md_steps C lw_9_6 dX12_leaves_39 ?_
    refine aw_iconst (v := 2) C dX12_leaves_42 (by decide) ?_
    refine aw_iload_n C 1 dX12_leaves_43 rfl ?_
    refine aw_imul C dX12_leaves_44 ?_
    refine aw_iload_n C 2 dX12_leaves_45 rfl ?_
    refine aw_iadd C dX12_leaves_46 ?_
    obtain ⟨q8, h⟩ := oA_e h
    refine ra_iald (k := 29) C (by decide) rfl q8 dX12_leaves_47 ?_
    refine aw_bipush (v := 99) C dX12_leaves_48 (by decide) ?_
    refine aw_icmp_ne (tgt := 54) C dX12_leaves_50 (by decide) (fun q => ?_) (fun q => ?_)
    · have h := bq_f q h
      refine aw_iload_n C 3 dX12_leaves_54 rfl ?_
      refine aw_iload_n C 1 dX12_leaves_55 rfl ?_
      refine aw_ishr C dX12_leaves_56 ?_
      refine aw_iconst (v := 1) C dX12_leaves_57 (by decide) ?_
      refine aw_iand C dX12_leaves_58 ?_
      refine aw_iconst (v := 1) C dX12_leaves_59 (by decide) ?_
      refine aw_icmp_ne (tgt := 67) C dX12_leaves_60 (by decide) (fun q => ?_) (fun q => ?_)
      · have h := bq_f q h
        refine aw_iload C 5 dX12_leaves_67 rfl ?_
        refine aw_aload_n C 0 dX12_leaves_69 rfl ?_
        refine rg_md_rule C lw_8_3 dX12_leaves_70 ?_
        refine aw_iconst (v := 5) C dX12_leaves_73 (by decide) ?_
        obtain ⟨q9, h⟩ := oA_e h
        refine ra_iald (k := 3) C (by decide) rfl q9 dX12_leaves_74 ?_
        refine aw_imul C dX12_leaves_75 ?_
        refine aw_bipush (v := 99) C dX12_leaves_76 (by decide) ?_
        refine aw_iadd C dX12_leaves_78 ?_
        refine aw_bipush (v := 100) C dX12_leaves_79 (by decide) ?_
        obtain ⟨q10, h⟩ := oD_e h
        refine aw_idiv C dX12_leaves_81 q10 ?_
        refine aw_sub (lv' := [(0, .ref (N.1 0)), (1, .int x1), (2, .int x2), (4, .int v1), (5, .int y7)]) [0, 1, 2, 4, 5] rfl ?_
        exact T_X12_leaves_82 C hE s2 x1 x2 v1 y7 (((y7 * (s2.2.1 3 (Int32.toNatClampNeg (5 : Int32)))) + (99 : Int32)) / (100 : Int32)) h
      · have h := bq_t q h
        refine aw_iconst (v := 0) C dX12_leaves_63 (by decide) ?_
        refine aw_goto (tgt := 82) C dX12_leaves_64 (by decide) ?_
        refine aw_sub (lv' := [(0, .ref (N.1 0)), (1, .int x1), (2, .int x2), (4, .int v1), (5, .int y7)]) [0, 1, 2, 4, 5] rfl ?_
        exact T_X12_leaves_82 C hE s2 x1 x2 v1 y7 (0 : Int32) h
    · have h := bq_t q h
      refine aw_sub (lv' := []) [] rfl ?_
      exact T_X12_leaves_53 C hE s2 h
def f_X12_leaves (s0 : St) (x1 : Int32) (x2 : Int32) (x3 : Int32) : Option (St) := F_X12_leaves_0 s0 x1 x2 x3
theorem c_X12_leaves (l : Launch) (D : va_G) (N : Nm) (s0 z1 : St) (x1 : Int32) (x2 : Int32) (x3 : Int32) (h : f_X12_leaves s0 x1 x2 x3 = some z1) : Metv l yX12_leaves (tsU yX12_leaves cX12_leaves 7 none) rm_X12_leaves D N [.ref (N.1 0), .int x1, .int x2, .int x3] (wR N s0) (wR N z1) :=
  met_v (cc := cX12_leaves) (nL := 7) (own := RX12) (by decide) rfl (Nat.le_of_ble_eq_true rfl) (fun p e s m args below meth c Q A C hE => aw_sub [0, 1, 2, 3] rfl (T_X12_leaves_0 C hE s0 x1 x2 x3 h))
/-! AwardLineModel.flees(III)V -/
def rm_X12_flees : Room := { frames := 4, cells := 0, slots := 0, locals := 86 }
def F_X12_flees_123_b (k47 : St → Int32 → Int32 → Int32 → Int32 → Option (St)) (k123 : St → Int32 → Int32 → Int32 → Int32 → Int32 → Option (St)) (s0 : St) (x1 : Int32) (x2 : Int32) (x3 : Int32) (x4 : Int32) (x5 : Int32) : Option (St) :=
  oC (f_X12_cells s0) fun w3 =>
  oL w3.1 fun v1 => oL w3.2 fun s2 =>
  if (2 : Int32) * v1 ≤ x5 then (
    oL (x4 + (1 : Int32)) fun y4 =>
    k47 s2 x1 x2 x3 y4)
  else (
    oA x5 50 <|
    oA x5 50 <|
    oL (sA s2 27 (upd (s2.2.1 27) (Int32.toNatClampNeg x5) (s2.2.1 28 (Int32.toNatClampNeg x5)))) fun s7 =>
    oL (x5 + (1 : Int32)) fun y8 =>
    k123 s7 x1 x2 x3 x4 y8)
set_option maxHeartbeats 4000000 in
set_option maxRecDepth 100000 in
theorem T_X12_flees_123_b {z1 : St} {k47 : St → Int32 → Int32 → Int32 → Int32 → Option (St)} {k123 : St → Int32 → Int32 → Int32 → Int32 → Int32 → Option (St)} (C : Cx p rm_X12_flees s m args c D A cX12_flees 6 RX12 rm_X12_flees N) (hE : En p l e rm_X12_flees s m args below meth c Q D A cX12_flees .return_ (wR N z1) []) (hk47 : ∀ (s0 : St) (x1 : Int32) (x2 : Int32) (x3 : Int32) (x4 : Int32), k47 s0 x1 x2 x3 x4 = some z1 → Aw p l e rm_X12_flees s m args below meth c Q D A 6 (wR N s0) 47 [(0, .ref (N.1 0)), (1, .int x1), (2, .int x2), (3, .int x3), (4, .int x4)] []) (hk123 : ∀ (s0 : St) (x1 : Int32) (x2 : Int32) (x3 : Int32) (x4 : Int32) (x5 : Int32), k123 s0 x1 x2 x3 x4 x5 = some z1 → Aw p l e rm_X12_flees s m args below meth c Q D A 6 (wR N s0) 123 [(0, .ref (N.1 0)), (1, .int x1), (2, .int x2), (3, .int x3), (4, .int x4), (5, .int x5)] []) (s0 : St) (x1 : Int32) (x2 : Int32) (x3 : Int32) (x4 : Int32) (x5 : Int32) (h : F_X12_flees_123_b k47 k123 s0 x1 x2 x3 x4 x5 = some z1) : Aw p l e rm_X12_flees s m args below meth c Q D A 6 (wR N s0) 123 [(0, .ref (N.1 0)), (1, .int x1), (2, .int x2), (3, .int x3), (4, .int x4), (5, .int x5)] [] := by
  unfold F_X12_flees_123_b at h
  refine aw_iload C 5 dX12_flees_123 rfl ?_
  refine aw_iconst (v := 2) C dX12_flees_125 (by decide) ?_
  refine aw_aload_n C 0 dX12_flees_126 rfl ?_
  obtain ⟨⟨v1, s2⟩, cw3, h⟩ := oC_e h
  have h := oL_e (x := s2) rfl (oL_e (x := v1) rfl h)
  refine aw_callVi (n := 0) (As := []) (rest := [.int (2 : Int32), .int x5]) (q0 := 0) C (c_X12_cells l D N s0 s2 v1 cw3) lw_23_23 lw_24_0 lw_24_1 lw_1_5 lw_24_2 rfl rfl (by decide +kernel) ⟨Nat.le_of_ble_eq_true rfl, Nat.le_of_ble_eq_true rfl⟩ rfl rfl rfl rfl rfl (Nat.le_of_ble_eq_true rfl) dX12_flees_127 ?_
  refine aw_imul C dX12_flees_130 ?_
  refine aw_icmp_ge (tgt := 154) C dX12_flees_131 (by decide) (fun q => ?_) (fun q => ?_)
  · have h := bq_t q h
    obtain ⟨y4, ey4⟩ : ∃ q : Int32, q = x4 + (1 : Int32) := ⟨_, rfl⟩
    have h := oL_e ey4 h
    refine aw_iinc (v := y4) (k := 4) (lv' := [(0, .ref (N.1 0)), (1, .int x1), (2, .int x2), (3, .int x3), (4, .int y4), (5, .int x5)]) C [1, 2, 3, 4, 0, 5] dX12_flees_154 rfl (by rw [ey4]; rfl) (by decide) rfl ?_
    refine aw_goto (tgt := 47) C dX12_flees_157 (by decide) ?_
    refine aw_sub (lv' := [(0, .ref (N.1 0)), (1, .int x1), (2, .int x2), (3, .int x3), (4, .int y4)]) [0, 1, 2, 3, 4] rfl ?_
    exact hk47 s2 x1 x2 x3 y4 h
  · have h := bq_f q h
    refine aw_aload_n C 0 dX12_flees_134 rfl ?_
    refine rg_md_there C lw_9_4 dX12_flees_135 ?_
    refine aw_iload C 5 dX12_flees_138 rfl ?_
    refine aw_aload_n C 0 dX12_flees_140 rfl ?_
    refine rg_md_then C lw_9_5 dX12_flees_141 ?_
    refine aw_iload C 5 dX12_flees_144 rfl ?_
    obtain ⟨q5, h⟩ := oA_e h
    refine ra_iald (k := 28) C (by decide) rfl q5 dX12_flees_146 ?_
    obtain ⟨q6, h⟩ := oA_e h
    refine ra_iast (k := 27) C (by decide) rfl q6 dX12_flees_147 ?_
    refine ra_name (fun s7 es7 => ?_)
    have h := oL_e es7 h
    obtain ⟨y8, ey8⟩ : ∃ q : Int32, q = x5 + (1 : Int32) := ⟨_, rfl⟩
    have h := oL_e ey8 h
    refine aw_iinc (v := y8) (k := 5) (lv' := [(0, .ref (N.1 0)), (1, .int x1), (2, .int x2), (3, .int x3), (4, .int x4), (5, .int y8)]) C [1, 2, 3, 4, 5, 0] dX12_flees_148 rfl (by rw [ey8]; rfl) (by decide) rfl ?_
    refine aw_goto (tgt := 123) C dX12_flees_151 (by decide) ?_
    refine aw_sub (lv' := [(0, .ref (N.1 0)), (1, .int x1), (2, .int x2), (3, .int x3), (4, .int x4), (5, .int y8)]) [0, 1, 2, 3, 4, 5] rfl ?_
    exact hk123 s7 x1 x2 x3 x4 y8 h
def F_X12_flees_123 (k47 : St → Int32 → Int32 → Int32 → Int32 → Option (St)) : Nat → St → Int32 → Int32 → Int32 → Int32 → Int32 → Option (St)
  | 0 => fun _ _ _ _ _ _ => none
  | n + 1 => F_X12_flees_123_b k47 (F_X12_flees_123 k47 n)
theorem T_X12_flees_123 {z1 : St} {k47 : St → Int32 → Int32 → Int32 → Int32 → Option (St)} (C : Cx p rm_X12_flees s m args c D A cX12_flees 6 RX12 rm_X12_flees N) (hE : En p l e rm_X12_flees s m args below meth c Q D A cX12_flees .return_ (wR N z1) []) (hk47 : ∀ (s0 : St) (x1 : Int32) (x2 : Int32) (x3 : Int32) (x4 : Int32), k47 s0 x1 x2 x3 x4 = some z1 → Aw p l e rm_X12_flees s m args below meth c Q D A 6 (wR N s0) 47 [(0, .ref (N.1 0)), (1, .int x1), (2, .int x2), (3, .int x3), (4, .int x4)] []) : ∀ (n : Nat) (s0 : St) (x1 : Int32) (x2 : Int32) (x3 : Int32) (x4 : Int32) (x5 : Int32), F_X12_flees_123 k47 n s0 x1 x2 x3 x4 x5 = some z1 → Aw p l e rm_X12_flees s m args below meth c Q D A 6 (wR N s0) 123 [(0, .ref (N.1 0)), (1, .int x1), (2, .int x2), (3, .int x3), (4, .int x4), (5, .int x5)] [] := by
  intro n
  induction n with
  | zero => intro s0 x1 x2 x3 x4 x5 h; cases h
  | succ n ih => intro s0 x1 x2 x3 x4 x5 h; exact T_X12_flees_123_b C hE hk47 ih s0 x1 x2 x3 x4 x5 h
def F_X12_flees_90_b (k47 : St → Int32 → Int32 → Int32 → Int32 → Option (St)) (k90 : St → Int32 → Int32 → Int32 → Int32 → Int32 → Option (St)) (s0 : St) (x1 : Int32) (x2 : Int32) (x3 : Int32) (x4 : Int32) (x5 : Int32) : Option (St) :=
  oC (f_X12_cells s0) fun w3 =>
  oL w3.1 fun v1 => oL w3.2 fun s2 =>
  if v1 ≤ x5 then (
    oL (0 : Int32) fun y4 =>
    F_X12_flees_123 k47 100000 s2 x1 x2 x3 x4 y4)
  else (
    oC (f_X12_sideOf s2 x1 x5) fun w7 =>
    oL w7.1 fun v5 => oL w7.2 fun s6 =>
    oC (f_X12_leaves s6 x5 ((1 : Int32) - v5) x3) fun w10 =>
    oL w10 fun s9 =>
    oL (x5 + (1 : Int32)) fun y11 =>
    k90 s9 x1 x2 x3 x4 y11)
set_option maxHeartbeats 4000000 in
set_option maxRecDepth 100000 in
theorem T_X12_flees_90_b {z1 : St} {k47 : St → Int32 → Int32 → Int32 → Int32 → Option (St)} {k90 : St → Int32 → Int32 → Int32 → Int32 → Int32 → Option (St)} (C : Cx p rm_X12_flees s m args c D A cX12_flees 6 RX12 rm_X12_flees N) (hE : En p l e rm_X12_flees s m args below meth c Q D A cX12_flees .return_ (wR N z1) []) (hk47 : ∀ (s0 : St) (x1 : Int32) (x2 : Int32) (x3 : Int32) (x4 : Int32), k47 s0 x1 x2 x3 x4 = some z1 → Aw p l e rm_X12_flees s m args below meth c Q D A 6 (wR N s0) 47 [(0, .ref (N.1 0)), (1, .int x1), (2, .int x2), (3, .int x3), (4, .int x4)] []) (hk90 : ∀ (s0 : St) (x1 : Int32) (x2 : Int32) (x3 : Int32) (x4 : Int32) (x5 : Int32), k90 s0 x1 x2 x3 x4 x5 = some z1 → Aw p l e rm_X12_flees s m args below meth c Q D A 6 (wR N s0) 90 [(0, .ref (N.1 0)), (1, .int x1), (2, .int x2), (3, .int x3), (4, .int x4), (5, .int x5)] []) (s0 : St) (x1 : Int32) (x2 : Int32) (x3 : Int32) (x4 : Int32) (x5 : Int32) (h : F_X12_flees_90_b k47 k90 s0 x1 x2 x3 x4 x5 = some z1) : Aw p l e rm_X12_flees s m args below meth c Q D A 6 (wR N s0) 90 [(0, .ref (N.1 0)), (1, .int x1), (2, .int x2), (3, .int x3), (4, .int x4), (5, .int x5)] [] := by
  unfold F_X12_flees_90_b at h
  refine aw_iload C 5 dX12_flees_90 rfl ?_
  refine aw_aload_n C 0 dX12_flees_92 rfl ?_
  obtain ⟨⟨v1, s2⟩, cw3, h⟩ := oC_e h
  have h := oL_e (x := s2) rfl (oL_e (x := v1) rfl h)
  refine aw_callVi (n := 0) (As := []) (rest := [.int x5]) (q0 := 0) C (c_X12_cells l D N s0 s2 v1 cw3) lw_23_23 lw_24_0 lw_24_1 lw_1_5 lw_24_2 rfl rfl (by decide +kernel) ⟨Nat.le_of_ble_eq_true rfl, Nat.le_of_ble_eq_true rfl⟩ rfl rfl rfl rfl rfl (Nat.le_of_ble_eq_true rfl) dX12_flees_93 ?_
  refine aw_icmp_ge (tgt := 120) C dX12_flees_96 (by decide) (fun q => ?_) (fun q => ?_)
  · have h := bq_t q h
    refine aw_iconst (v := 0) C dX12_flees_120 (by decide) ?_
    refine aw_topi (fun y4 ey4 => ?_)
    have h := oL_e ey4 h
    refine aw_istore (lv' := [(0, .ref (N.1 0)), (1, .int x1), (2, .int x2), (3, .int x3), (4, .int x4), (5, .int y4)]) C [1, 2, 3, 4, 5, 0] dX12_flees_121 (by decide) rfl ?_
    refine aw_sub (lv' := [(0, .ref (N.1 0)), (1, .int x1), (2, .int x2), (3, .int x3), (4, .int x4), (5, .int y4)]) [0, 1, 2, 3, 4, 5] rfl ?_
    exact T_X12_flees_123 C hE hk47 100000 s2 x1 x2 x3 x4 y4 h
  · have h := bq_f q h
    refine aw_aload_n C 0 dX12_flees_99 rfl ?_
    refine aw_iload C 5 dX12_flees_100 rfl ?_
    refine aw_iconst (v := 1) C dX12_flees_102 (by decide) ?_
    refine aw_iload_n C 1 dX12_flees_103 rfl ?_
    refine aw_iload C 5 dX12_flees_104 rfl ?_
    obtain ⟨⟨v5, s6⟩, cw7, h⟩ := oC_e h
    have h := oL_e (x := s6) rfl (oL_e (x := v5) rfl h)
    refine aw_callSi (n := 2) (As := [.int x1, .int x5]) (rest := [.int (1 : Int32), .int x5, .ref (N.1 0)]) C (c_X12_sideOf l D N s2 s6 x1 x5 v5 cw7) lw_40_7 lw_40_8 lw_1_5 lw_40_9 rfl rfl (by decide +kernel) ⟨Nat.le_of_ble_eq_true rfl, Nat.le_of_ble_eq_true rfl⟩ rfl rfl (Nat.le_of_ble_eq_true rfl) dX12_flees_106 ?_
    refine aw_isub C dX12_flees_109 ?_
    refine aw_iload_n C 3 dX12_flees_110 rfl ?_
    obtain ⟨s9, cw10, h⟩ := oC_e h
    have h := oL_e (x := s9) rfl h
    refine aw_callVv (n := 3) (As := [.int x5, .int ((1 : Int32) - v5), .int x3]) (rest := []) (q0 := 0) C (c_X12_leaves l D N s6 s9 x5 ((1 : Int32) - v5) x3 cw10) lw_51_1 lw_51_2 lw_51_3 lw_1_5 lw_51_4 rfl rfl (by decide +kernel) ⟨Nat.le_of_ble_eq_true rfl, Nat.le_of_ble_eq_true rfl⟩ rfl rfl rfl rfl rfl (Nat.le_of_ble_eq_true rfl) dX12_flees_111 ?_
    obtain ⟨y11, ey11⟩ : ∃ q : Int32, q = x5 + (1 : Int32) := ⟨_, rfl⟩
    have h := oL_e ey11 h
    refine aw_iinc (v := y11) (k := 5) (lv' := [(0, .ref (N.1 0)), (1, .int x1), (2, .int x2), (3, .int x3), (4, .int x4), (5, .int y11)]) C [1, 2, 3, 4, 5, 0] dX12_flees_114 rfl (by rw [ey11]; rfl) (by decide) rfl ?_
    refine aw_goto (tgt := 90) C dX12_flees_117 (by decide) ?_
    refine aw_sub (lv' := [(0, .ref (N.1 0)), (1, .int x1), (2, .int x2), (3, .int x3), (4, .int x4), (5, .int y11)]) [0, 1, 2, 3, 4, 5] rfl ?_
    exact hk90 s9 x1 x2 x3 x4 y11 h
def F_X12_flees_90 (k47 : St → Int32 → Int32 → Int32 → Int32 → Option (St)) : Nat → St → Int32 → Int32 → Int32 → Int32 → Int32 → Option (St)
  | 0 => fun _ _ _ _ _ _ => none
  | n + 1 => F_X12_flees_90_b k47 (F_X12_flees_90 k47 n)
theorem T_X12_flees_90 {z1 : St} {k47 : St → Int32 → Int32 → Int32 → Int32 → Option (St)} (C : Cx p rm_X12_flees s m args c D A cX12_flees 6 RX12 rm_X12_flees N) (hE : En p l e rm_X12_flees s m args below meth c Q D A cX12_flees .return_ (wR N z1) []) (hk47 : ∀ (s0 : St) (x1 : Int32) (x2 : Int32) (x3 : Int32) (x4 : Int32), k47 s0 x1 x2 x3 x4 = some z1 → Aw p l e rm_X12_flees s m args below meth c Q D A 6 (wR N s0) 47 [(0, .ref (N.1 0)), (1, .int x1), (2, .int x2), (3, .int x3), (4, .int x4)] []) : ∀ (n : Nat) (s0 : St) (x1 : Int32) (x2 : Int32) (x3 : Int32) (x4 : Int32) (x5 : Int32), F_X12_flees_90 k47 n s0 x1 x2 x3 x4 x5 = some z1 → Aw p l e rm_X12_flees s m args below meth c Q D A 6 (wR N s0) 90 [(0, .ref (N.1 0)), (1, .int x1), (2, .int x2), (3, .int x3), (4, .int x4), (5, .int x5)] [] := by
  intro n
  induction n with
  | zero => intro s0 x1 x2 x3 x4 x5 h; cases h
  | succ n ih => intro s0 x1 x2 x3 x4 x5 h; exact T_X12_flees_90_b C hE hk47 ih s0 x1 x2 x3 x4 x5 h
def F_X12_flees_56_b (k47 : St → Int32 → Int32 → Int32 → Int32 → Option (St)) (k56 : St → Int32 → Int32 → Int32 → Int32 → Int32 → Option (St)) (s0 : St) (x1 : Int32) (x2 : Int32) (x3 : Int32) (x4 : Int32) (x5 : Int32) : Option (St) :=
  oC (f_X12_cells s0) fun w3 =>
  oL w3.1 fun v1 => oL w3.2 fun s2 =>
  if (2 : Int32) * v1 ≤ x5 then (
    oL (0 : Int32) fun y4 =>
    F_X12_flees_90 k47 100000 s2 x1 x2 x3 x4 y4)
  else (
    oA x5 50 <|
    oA x5 50 <|
    oL (sA s2 28 (upd (s2.2.1 28) (Int32.toNatClampNeg x5) (s2.2.1 27 (Int32.toNatClampNeg x5)))) fun s7 =>
    oL (x5 + (1 : Int32)) fun y8 =>
    k56 s7 x1 x2 x3 x4 y8)
set_option maxHeartbeats 4000000 in
set_option maxRecDepth 100000 in
theorem T_X12_flees_56_b {z1 : St} {k47 : St → Int32 → Int32 → Int32 → Int32 → Option (St)} {k56 : St → Int32 → Int32 → Int32 → Int32 → Int32 → Option (St)} (C : Cx p rm_X12_flees s m args c D A cX12_flees 6 RX12 rm_X12_flees N) (hE : En p l e rm_X12_flees s m args below meth c Q D A cX12_flees .return_ (wR N z1) []) (hk47 : ∀ (s0 : St) (x1 : Int32) (x2 : Int32) (x3 : Int32) (x4 : Int32), k47 s0 x1 x2 x3 x4 = some z1 → Aw p l e rm_X12_flees s m args below meth c Q D A 6 (wR N s0) 47 [(0, .ref (N.1 0)), (1, .int x1), (2, .int x2), (3, .int x3), (4, .int x4)] []) (hk56 : ∀ (s0 : St) (x1 : Int32) (x2 : Int32) (x3 : Int32) (x4 : Int32) (x5 : Int32), k56 s0 x1 x2 x3 x4 x5 = some z1 → Aw p l e rm_X12_flees s m args below meth c Q D A 6 (wR N s0) 56 [(0, .ref (N.1 0)), (1, .int x1), (2, .int x2), (3, .int x3), (4, .int x4), (5, .int x5)] []) (s0 : St) (x1 : Int32) (x2 : Int32) (x3 : Int32) (x4 : Int32) (x5 : Int32) (h : F_X12_flees_56_b k47 k56 s0 x1 x2 x3 x4 x5 = some z1) : Aw p l e rm_X12_flees s m args below meth c Q D A 6 (wR N s0) 56 [(0, .ref (N.1 0)), (1, .int x1), (2, .int x2), (3, .int x3), (4, .int x4), (5, .int x5)] [] := by
  unfold F_X12_flees_56_b at h
  refine aw_iload C 5 dX12_flees_56 rfl ?_
  refine aw_iconst (v := 2) C dX12_flees_58 (by decide) ?_
  refine aw_aload_n C 0 dX12_flees_59 rfl ?_
  obtain ⟨⟨v1, s2⟩, cw3, h⟩ := oC_e h
  have h := oL_e (x := s2) rfl (oL_e (x := v1) rfl h)
  refine aw_callVi (n := 0) (As := []) (rest := [.int (2 : Int32), .int x5]) (q0 := 0) C (c_X12_cells l D N s0 s2 v1 cw3) lw_23_23 lw_24_0 lw_24_1 lw_1_5 lw_24_2 rfl rfl (by decide +kernel) ⟨Nat.le_of_ble_eq_true rfl, Nat.le_of_ble_eq_true rfl⟩ rfl rfl rfl rfl rfl (Nat.le_of_ble_eq_true rfl) dX12_flees_60 ?_
  refine aw_imul C dX12_flees_63 ?_
  refine aw_icmp_ge (tgt := 87) C dX12_flees_64 (by decide) (fun q => ?_) (fun q => ?_)
  · have h := bq_t q h
    refine aw_iconst (v := 0) C dX12_flees_87 (by decide) ?_
    refine aw_topi (fun y4 ey4 => ?_)
    have h := oL_e ey4 h
    refine aw_istore (lv' := [(0, .ref (N.1 0)), (1, .int x1), (2, .int x2), (3, .int x3), (4, .int x4), (5, .int y4)]) C [1, 2, 3, 4, 5, 0] dX12_flees_88 (by decide) rfl ?_
    refine aw_sub (lv' := [(0, .ref (N.1 0)), (1, .int x1), (2, .int x2), (3, .int x3), (4, .int x4), (5, .int y4)]) [0, 1, 2, 3, 4, 5] rfl ?_
    exact T_X12_flees_90 C hE hk47 100000 s2 x1 x2 x3 x4 y4 h
  · have h := bq_f q h
    refine aw_aload_n C 0 dX12_flees_67 rfl ?_
    refine rg_md_then C lw_9_5 dX12_flees_68 ?_
    refine aw_iload C 5 dX12_flees_71 rfl ?_
    refine aw_aload_n C 0 dX12_flees_73 rfl ?_
    refine rg_md_there C lw_9_4 dX12_flees_74 ?_
    refine aw_iload C 5 dX12_flees_77 rfl ?_
    obtain ⟨q5, h⟩ := oA_e h
    refine ra_iald (k := 27) C (by decide) rfl q5 dX12_flees_79 ?_
    obtain ⟨q6, h⟩ := oA_e h
    refine ra_iast (k := 28) C (by decide) rfl q6 dX12_flees_80 ?_
    refine ra_name (fun s7 es7 => ?_)
    have h := oL_e es7 h
    obtain ⟨y8, ey8⟩ : ∃ q : Int32, q = x5 + (1 : Int32) := ⟨_, rfl⟩
    have h := oL_e ey8 h
    refine aw_iinc (v := y8) (k := 5) (lv' := [(0, .ref (N.1 0)), (1, .int x1), (2, .int x2), (3, .int x3), (4, .int x4), (5, .int y8)]) C [1, 2, 3, 4, 5, 0] dX12_flees_81 rfl (by rw [ey8]; rfl) (by decide) rfl ?_
    refine aw_goto (tgt := 56) C dX12_flees_84 (by decide) ?_
    refine aw_sub (lv' := [(0, .ref (N.1 0)), (1, .int x1), (2, .int x2), (3, .int x3), (4, .int x4), (5, .int y8)]) [0, 1, 2, 3, 4, 5] rfl ?_
    exact hk56 s7 x1 x2 x3 x4 y8 h
def F_X12_flees_56 (k47 : St → Int32 → Int32 → Int32 → Int32 → Option (St)) : Nat → St → Int32 → Int32 → Int32 → Int32 → Int32 → Option (St)
  | 0 => fun _ _ _ _ _ _ => none
  | n + 1 => F_X12_flees_56_b k47 (F_X12_flees_56 k47 n)
theorem T_X12_flees_56 {z1 : St} {k47 : St → Int32 → Int32 → Int32 → Int32 → Option (St)} (C : Cx p rm_X12_flees s m args c D A cX12_flees 6 RX12 rm_X12_flees N) (hE : En p l e rm_X12_flees s m args below meth c Q D A cX12_flees .return_ (wR N z1) []) (hk47 : ∀ (s0 : St) (x1 : Int32) (x2 : Int32) (x3 : Int32) (x4 : Int32), k47 s0 x1 x2 x3 x4 = some z1 → Aw p l e rm_X12_flees s m args below meth c Q D A 6 (wR N s0) 47 [(0, .ref (N.1 0)), (1, .int x1), (2, .int x2), (3, .int x3), (4, .int x4)] []) : ∀ (n : Nat) (s0 : St) (x1 : Int32) (x2 : Int32) (x3 : Int32) (x4 : Int32) (x5 : Int32), F_X12_flees_56 k47 n s0 x1 x2 x3 x4 x5 = some z1 → Aw p l e rm_X12_flees s m args below meth c Q D A 6 (wR N s0) 56 [(0, .ref (N.1 0)), (1, .int x1), (2, .int x2), (3, .int x3), (4, .int x4), (5, .int x5)] [] := by
  intro n
  induction n with
  | zero => intro s0 x1 x2 x3 x4 x5 h; cases h
  | succ n ih => intro s0 x1 x2 x3 x4 x5 h; exact T_X12_flees_56_b C hE hk47 ih s0 x1 x2 x3 x4 x5 h
def F_X12_flees_47_b (k47 : St → Int32 → Int32 → Int32 → Int32 → Option (St)) (s0 : St) (x1 : Int32) (x2 : Int32) (x3 : Int32) (x4 : Int32) : Option (St) :=
  if x2 ≤ x4 then (
    some s0)
  else (
    oL (0 : Int32) fun y1 =>
    F_X12_flees_56 k47 100000 s0 x1 x2 x3 x4 y1)
set_option maxHeartbeats 4000000 in
set_option maxRecDepth 100000 in
theorem T_X12_flees_47_b {z1 : St} {k47 : St → Int32 → Int32 → Int32 → Int32 → Option (St)} (C : Cx p rm_X12_flees s m args c D A cX12_flees 6 RX12 rm_X12_flees N) (hE : En p l e rm_X12_flees s m args below meth c Q D A cX12_flees .return_ (wR N z1) []) (hk47 : ∀ (s0 : St) (x1 : Int32) (x2 : Int32) (x3 : Int32) (x4 : Int32), k47 s0 x1 x2 x3 x4 = some z1 → Aw p l e rm_X12_flees s m args below meth c Q D A 6 (wR N s0) 47 [(0, .ref (N.1 0)), (1, .int x1), (2, .int x2), (3, .int x3), (4, .int x4)] []) (s0 : St) (x1 : Int32) (x2 : Int32) (x3 : Int32) (x4 : Int32) (h : F_X12_flees_47_b k47 s0 x1 x2 x3 x4 = some z1) : Aw p l e rm_X12_flees s m args below meth c Q D A 6 (wR N s0) 47 [(0, .ref (N.1 0)), (1, .int x1), (2, .int x2), (3, .int x3), (4, .int x4)] [] := by
  unfold F_X12_flees_47_b at h
  refine aw_iload C 4 dX12_flees_47 rfl ?_
  refine aw_iload_n C 2 dX12_flees_49 rfl ?_
  refine aw_icmp_ge (tgt := 160) C dX12_flees_50 (by decide) (fun q => ?_) (fun q => ?_)
  · have h := bq_t q h
    cases h
    exact aw_ret hE dX12_flees_160
  · have h := bq_f q h
    refine aw_iconst (v := 0) C dX12_flees_53 (by decide) ?_
    refine aw_topi (fun y1 ey1 => ?_)
    have h := oL_e ey1 h
    refine aw_istore (lv' := [(0, .ref (N.1 0)), (1, .int x1), (2, .int x2), (3, .int x3), (4, .int x4), (5, .int y1)]) C [1, 2, 3, 4, 5, 0] dX12_flees_54 (by decide) rfl ?_
    refine aw_sub (lv' := [(0, .ref (N.1 0)), (1, .int x1), (2, .int x2), (3, .int x3), (4, .int x4), (5, .int y1)]) [0, 1, 2, 3, 4, 5] rfl ?_
    exact T_X12_flees_56 C hE hk47 100000 s0 x1 x2 x3 x4 y1 h
def F_X12_flees_47 : Nat → St → Int32 → Int32 → Int32 → Int32 → Option (St)
  | 0 => fun _ _ _ _ _ => none
  | n + 1 => F_X12_flees_47_b (F_X12_flees_47 n)
theorem T_X12_flees_47 {z1 : St} (C : Cx p rm_X12_flees s m args c D A cX12_flees 6 RX12 rm_X12_flees N) (hE : En p l e rm_X12_flees s m args below meth c Q D A cX12_flees .return_ (wR N z1) [])  : ∀ (n : Nat) (s0 : St) (x1 : Int32) (x2 : Int32) (x3 : Int32) (x4 : Int32), F_X12_flees_47 n s0 x1 x2 x3 x4 = some z1 → Aw p l e rm_X12_flees s m args below meth c Q D A 6 (wR N s0) 47 [(0, .ref (N.1 0)), (1, .int x1), (2, .int x2), (3, .int x3), (4, .int x4)] [] := by
  intro n
  induction n with
  | zero => intro s0 x1 x2 x3 x4 h; cases h
  | succ n ih => intro s0 x1 x2 x3 x4 h; exact T_X12_flees_47_b C hE ih s0 x1 x2 x3 x4 h
def F_X12_flees_8_b (k8 : St → Int32 → Int32 → Int32 → Int32 → Option (St)) (s0 : St) (x1 : Int32) (x2 : Int32) (x3 : Int32) (x4 : Int32) : Option (St) :=
  oC (f_X12_cells s0) fun w3 =>
  oL w3.1 fun v1 => oL w3.2 fun s2 =>
  if (2 : Int32) * v1 ≤ x4 then (
    oC (f_X12_paces s2 x1) fun w6 =>
    oL w6 fun s5 =>
    oL (0 : Int32) fun y7 =>
    F_X12_flees_47 100000 s5 x1 x2 x3 y7)
  else (
    oA x4 50 <|
    oA x4 50 <|
    oL (sA s2 27 (upd (s2.2.1 27) (Int32.toNatClampNeg x4) (s2.2.1 24 (Int32.toNatClampNeg x4)))) fun s10 =>
    oL (x4 + (1 : Int32)) fun y11 =>
    k8 s10 x1 x2 x3 y11)
set_option maxHeartbeats 4000000 in
set_option maxRecDepth 100000 in
theorem T_X12_flees_8_b {z1 : St} {k8 : St → Int32 → Int32 → Int32 → Int32 → Option (St)} (C : Cx p rm_X12_flees s m args c D A cX12_flees 6 RX12 rm_X12_flees N) (hE : En p l e rm_X12_flees s m args below meth c Q D A cX12_flees .return_ (wR N z1) []) (hk8 : ∀ (s0 : St) (x1 : Int32) (x2 : Int32) (x3 : Int32) (x4 : Int32), k8 s0 x1 x2 x3 x4 = some z1 → Aw p l e rm_X12_flees s m args below meth c Q D A 6 (wR N s0) 8 [(0, .ref (N.1 0)), (1, .int x1), (2, .int x2), (3, .int x3), (4, .int x4)] []) (s0 : St) (x1 : Int32) (x2 : Int32) (x3 : Int32) (x4 : Int32) (h : F_X12_flees_8_b k8 s0 x1 x2 x3 x4 = some z1) : Aw p l e rm_X12_flees s m args below meth c Q D A 6 (wR N s0) 8 [(0, .ref (N.1 0)), (1, .int x1), (2, .int x2), (3, .int x3), (4, .int x4)] [] := by
  unfold F_X12_flees_8_b at h
  refine aw_iload C 4 dX12_flees_8 rfl ?_
  refine aw_iconst (v := 2) C dX12_flees_10 (by decide) ?_
  refine aw_aload_n C 0 dX12_flees_11 rfl ?_
  obtain ⟨⟨v1, s2⟩, cw3, h⟩ := oC_e h
  have h := oL_e (x := s2) rfl (oL_e (x := v1) rfl h)
  refine aw_callVi (n := 0) (As := []) (rest := [.int (2 : Int32), .int x4]) (q0 := 0) C (c_X12_cells l D N s0 s2 v1 cw3) lw_23_23 lw_24_0 lw_24_1 lw_1_5 lw_24_2 rfl rfl (by decide +kernel) ⟨Nat.le_of_ble_eq_true rfl, Nat.le_of_ble_eq_true rfl⟩ rfl rfl rfl rfl rfl (Nat.le_of_ble_eq_true rfl) dX12_flees_12 ?_
  refine aw_imul C dX12_flees_15 ?_
  refine aw_icmp_ge (tgt := 39) C dX12_flees_16 (by decide) (fun q => ?_) (fun q => ?_)
  · have h := bq_t q h
    refine aw_aload_n C 0 dX12_flees_39 rfl ?_
    refine aw_iload_n C 1 dX12_flees_40 rfl ?_
    obtain ⟨s5, cw6, h⟩ := oC_e h
    have h := oL_e (x := s5) rfl h
    refine aw_callVv (n := 1) (As := [.int x1]) (rest := []) (q0 := 0) C (c_X12_paces l D N s2 s5 x1 cw6) lw_50_21 lw_50_22 lw_50_23 lw_1_5 lw_51_0 rfl rfl (by decide +kernel) ⟨Nat.le_of_ble_eq_true rfl, Nat.le_of_ble_eq_true rfl⟩ rfl rfl rfl rfl rfl (Nat.le_of_ble_eq_true rfl) dX12_flees_41 ?_
    refine aw_iconst (v := 0) C dX12_flees_44 (by decide) ?_
    refine aw_topi (fun y7 ey7 => ?_)
    have h := oL_e ey7 h
    refine aw_istore (lv' := [(0, .ref (N.1 0)), (1, .int x1), (2, .int x2), (3, .int x3), (4, .int y7)]) C [1, 2, 3, 4, 0] dX12_flees_45 (by decide) rfl ?_
    refine aw_sub (lv' := [(0, .ref (N.1 0)), (1, .int x1), (2, .int x2), (3, .int x3), (4, .int y7)]) [0, 1, 2, 3, 4] rfl ?_
    exact T_X12_flees_47 C hE 100000 s5 x1 x2 x3 y7 h
  · have h := bq_f q h
    refine aw_aload_n C 0 dX12_flees_19 rfl ?_
    refine rg_md_there C lw_9_4 dX12_flees_20 ?_
    refine aw_iload C 4 dX12_flees_23 rfl ?_
    refine aw_aload_n C 0 dX12_flees_25 rfl ?_
    refine rg_md_people C lw_9_1 dX12_flees_26 ?_
    refine aw_iload C 4 dX12_flees_29 rfl ?_
    obtain ⟨q8, h⟩ := oA_e h
    refine ra_iald (k := 24) C (by decide) rfl q8 dX12_flees_31 ?_
    obtain ⟨q9, h⟩ := oA_e h
    refine ra_iast (k := 27) C (by decide) rfl q9 dX12_flees_32 ?_
    refine ra_name (fun s10 es10 => ?_)
    have h := oL_e es10 h
    obtain ⟨y11, ey11⟩ : ∃ q : Int32, q = x4 + (1 : Int32) := ⟨_, rfl⟩
    have h := oL_e ey11 h
    refine aw_iinc (v := y11) (k := 4) (lv' := [(0, .ref (N.1 0)), (1, .int x1), (2, .int x2), (3, .int x3), (4, .int y11)]) C [1, 2, 3, 4, 0] dX12_flees_33 rfl (by rw [ey11]; rfl) (by decide) rfl ?_
    refine aw_goto (tgt := 8) C dX12_flees_36 (by decide) ?_
    refine aw_sub (lv' := [(0, .ref (N.1 0)), (1, .int x1), (2, .int x2), (3, .int x3), (4, .int y11)]) [0, 1, 2, 3, 4] rfl ?_
    exact hk8 s10 x1 x2 x3 y11 h
def F_X12_flees_8 : Nat → St → Int32 → Int32 → Int32 → Int32 → Option (St)
  | 0 => fun _ _ _ _ _ => none
  | n + 1 => F_X12_flees_8_b (F_X12_flees_8 n)
theorem T_X12_flees_8 {z1 : St} (C : Cx p rm_X12_flees s m args c D A cX12_flees 6 RX12 rm_X12_flees N) (hE : En p l e rm_X12_flees s m args below meth c Q D A cX12_flees .return_ (wR N z1) [])  : ∀ (n : Nat) (s0 : St) (x1 : Int32) (x2 : Int32) (x3 : Int32) (x4 : Int32), F_X12_flees_8 n s0 x1 x2 x3 x4 = some z1 → Aw p l e rm_X12_flees s m args below meth c Q D A 6 (wR N s0) 8 [(0, .ref (N.1 0)), (1, .int x1), (2, .int x2), (3, .int x3), (4, .int x4)] [] := by
  intro n
  induction n with
  | zero => intro s0 x1 x2 x3 x4 h; cases h
  | succ n ih => intro s0 x1 x2 x3 x4 h; exact T_X12_flees_8_b C hE ih s0 x1 x2 x3 x4 h
def F_X12_flees_0 (s0 : St) (x1 : Int32) (x2 : Int32) (x3 : Int32) : Option (St) :=
  oL (sI s0 30 (0 : Int32)) fun s1 =>
  oL (0 : Int32) fun y2 =>
  F_X12_flees_8 100000 s1 x1 x2 x3 y2
set_option maxHeartbeats 4000000 in
set_option maxRecDepth 100000 in
theorem T_X12_flees_0 {z1 : St} (C : Cx p rm_X12_flees s m args c D A cX12_flees 6 RX12 rm_X12_flees N) (hE : En p l e rm_X12_flees s m args below meth c Q D A cX12_flees .return_ (wR N z1) [])  (s0 : St) (x1 : Int32) (x2 : Int32) (x3 : Int32) (h : F_X12_flees_0 s0 x1 x2 x3 = some z1) : Aw p l e rm_X12_flees s m args below meth c Q D A 6 (wR N s0) 0 [(0, .ref (N.1 0)), (1, .int x1), (2, .int x2), (3, .int x3)] [] := by
  unfold F_X12_flees_0 at h
  refine aw_aload_n C 0 dX12_flees_0 rfl ?_
  refine aw_iconst (v := 0) C dX12_flees_1 (by decide) ?_
  refine rp_md_lost C lw_50_12 dX12_flees_2 ?_
  refine ra_name (fun s1 es1 => ?_)
  have h := oL_e es1 h
  refine aw_iconst (v := 0) C dX12_flees_5 (by decide) ?_
  refine aw_topi (fun y2 ey2 => ?_)
  have h := oL_e ey2 h
  refine aw_istore (lv' := [(0, .ref (N.1 0)), (1, .int x1), (2, .int x2), (3, .int x3), (4, .int y2)]) C [1, 2, 3, 4, 0] dX12_flees_6 (by decide) rfl ?_
  refine aw_sub (lv' := [(0, .ref (N.1 0)), (1, .int x1), (2, .int x2), (3, .int x3), (4, .int y2)]) [0, 1, 2, 3, 4] rfl ?_
  exact T_X12_flees_8 C hE 100000 s1 x1 x2 x3 y2 h
def f_X12_flees (s0 : St) (x1 : Int32) (x2 : Int32) (x3 : Int32) : Option (St) := F_X12_flees_0 s0 x1 x2 x3
theorem c_X12_flees (l : Launch) (D : va_G) (N : Nm) (s0 z1 : St) (x1 : Int32) (x2 : Int32) (x3 : Int32) (h : f_X12_flees s0 x1 x2 x3 = some z1) : Metv l yX12_flees (tsU yX12_flees cX12_flees 6 none) rm_X12_flees D N [.ref (N.1 0), .int x1, .int x2, .int x3] (wR N s0) (wR N z1) :=
  met_v (cc := cX12_flees) (nL := 6) (own := RX12) (by decide) rfl (Nat.le_of_ble_eq_true rfl) (fun p e s m args below meth c Q A C hE => aw_sub [0, 1, 2, 3] rfl (T_X12_flees_0 C hE s0 x1 x2 x3 h))
/-! AwardLineModel.guarded(I)I -/
def rm_X12_guarded : Room := { frames := 0, cells := 0, slots := 0, locals := 0 }
def F_X12_guarded_32 (k4 : St → Int32 → Int32 → Int32 → Option (Int32 × St)) (s0 : St) (x1 : Int32) (x2 : Int32) (x3 : Int32) : Option (Int32 × St) :=
  oL (x3 + (1 : Int32)) fun y1 =>
  k4 s0 x1 x2 y1
set_option maxHeartbeats 4000000 in
set_option maxRecDepth 100000 in
theorem T_X12_guarded_32 {r : Int32} {z1 : St} {k4 : St → Int32 → Int32 → Int32 → Option (Int32 × St)} (C : Cx p rm_X12_guarded s m args c D A cX12_guarded 4 RX12 rm_X12_guarded N) (hE : En p l e rm_X12_guarded s m args below meth c Q D A cX12_guarded .ireturn (wR N z1) [.int r]) (hk4 : ∀ (s0 : St) (x1 : Int32) (x2 : Int32) (x3 : Int32), k4 s0 x1 x2 x3 = some (r, z1) → Aw p l e rm_X12_guarded s m args below meth c Q D A 4 (wR N s0) 4 [(0, .ref (N.1 0)), (1, .int x1), (2, .int x2), (3, .int x3)] []) (s0 : St) (x1 : Int32) (x2 : Int32) (x3 : Int32) (h : F_X12_guarded_32 k4 s0 x1 x2 x3 = some (r, z1)) : Aw p l e rm_X12_guarded s m args below meth c Q D A 4 (wR N s0) 32 [(0, .ref (N.1 0)), (1, .int x1), (2, .int x2), (3, .int x3)] [] := by
  unfold F_X12_guarded_32 at h
  obtain ⟨y1, ey1⟩ : ∃ q : Int32, q = x3 + (1 : Int32) := ⟨_, rfl⟩
  have h := oL_e ey1 h
  refine aw_iinc (v := y1) (k := 3) (lv' := [(0, .ref (N.1 0)), (1, .int x1), (2, .int x2), (3, .int y1)]) C [1, 2, 3, 0] dX12_guarded_32 rfl (by rw [ey1]; rfl) (by decide) rfl ?_
  refine aw_goto (tgt := 4) C dX12_guarded_35 (by decide) ?_
  refine aw_sub (lv' := [(0, .ref (N.1 0)), (1, .int x1), (2, .int x2), (3, .int y1)]) [0, 1, 2, 3] rfl ?_
  exact hk4 s0 x1 x2 y1 h
def F_X12_guarded_4_b (k4 : St → Int32 → Int32 → Int32 → Option (Int32 × St)) (s0 : St) (x1 : Int32) (x2 : Int32) (x3 : Int32) : Option (Int32 × St) :=
  if (s0.1 26) ≤ x3 then (
    some (x2, s0))
  else (
    if (x1 >>> (x3 &&& 31)) &&& (1 : Int32) = (1 : Int32) then (
      oA x3 8 <|
      oL (x2 ||| ((1 : Int32) <<< ((s0.2.1 15 (Int32.toNatClampNeg x3)) &&& 31))) fun y2 =>
      F_X12_guarded_32 k4 s0 x1 y2 x3)
    else (
      F_X12_guarded_32 k4 s0 x1 x2 x3))
set_option maxHeartbeats 4000000 in
set_option maxRecDepth 100000 in
theorem T_X12_guarded_4_b {r : Int32} {z1 : St} {k4 : St → Int32 → Int32 → Int32 → Option (Int32 × St)} (C : Cx p rm_X12_guarded s m args c D A cX12_guarded 4 RX12 rm_X12_guarded N) (hE : En p l e rm_X12_guarded s m args below meth c Q D A cX12_guarded .ireturn (wR N z1) [.int r]) (hk4 : ∀ (s0 : St) (x1 : Int32) (x2 : Int32) (x3 : Int32), k4 s0 x1 x2 x3 = some (r, z1) → Aw p l e rm_X12_guarded s m args below meth c Q D A 4 (wR N s0) 4 [(0, .ref (N.1 0)), (1, .int x1), (2, .int x2), (3, .int x3)] []) (s0 : St) (x1 : Int32) (x2 : Int32) (x3 : Int32) (h : F_X12_guarded_4_b k4 s0 x1 x2 x3 = some (r, z1)) : Aw p l e rm_X12_guarded s m args below meth c Q D A 4 (wR N s0) 4 [(0, .ref (N.1 0)), (1, .int x1), (2, .int x2), (3, .int x3)] [] := by
  unfold F_X12_guarded_4_b at h
  refine aw_iload_n C 3 dX12_guarded_4 rfl ?_
  refine aw_aload_n C 0 dX12_guarded_5 rfl ?_
  refine rg_md_candidates C lw_9_15 dX12_guarded_6 ?_
  refine aw_icmp_ge (tgt := 38) C dX12_guarded_9 (by decide) (fun q => ?_) (fun q => ?_)
  · have h := bq_t q h
    refine aw_iload_n C 2 dX12_guarded_38 rfl ?_
    cases h
    exact aw_ret hE dX12_guarded_39
  · have h := bq_f q h
    refine aw_iload_n C 1 dX12_guarded_12 rfl ?_
    refine aw_iload_n C 3 dX12_guarded_13 rfl ?_
    refine aw_ishr C dX12_guarded_14 ?_
    refine aw_iconst (v := 1) C dX12_guarded_15 (by decide) ?_
    refine aw_iand C dX12_guarded_16 ?_
    refine aw_iconst (v := 1) C dX12_guarded_17 (by decide) ?_
    refine aw_icmp_ne (tgt := 32) C dX12_guarded_18 (by decide) (fun q => ?_) (fun q => ?_)
    · have h := bq_f q h
      refine aw_sub (lv' := [(0, .ref (N.1 0)), (1, .int x1), (2, .int x2), (3, .int x3)]) [0, 1, 2, 3] rfl ?_
      exact T_X12_guarded_32 C hE hk4 s0 x1 x2 x3 h
    · have h := bq_t q h
      refine aw_iload_n C 2 dX12_guarded_21 rfl ?_
      refine aw_iconst (v := 1) C dX12_guarded_22 (by decide) ?_
      refine aw_aload_n C 0 dX12_guarded_23 rfl ?_
      refine rg_md_candidate C lw_8_16 dX12_guarded_24 ?_
      refine aw_iload_n C 3 dX12_guarded_27 rfl ?_
      obtain ⟨q1, h⟩ := oA_e h
      refine ra_iald (k := 15) C (by decide) rfl q1 dX12_guarded_28 ?_
      refine aw_ishl C dX12_guarded_29 ?_
      refine aw_ior C dX12_guarded_30 ?_
      refine aw_topi (fun y2 ey2 => ?_)
      have h := oL_e ey2 h
      refine aw_istore_n (lv' := [(0, .ref (N.1 0)), (1, .int x1), (2, .int y2), (3, .int x3)]) C [1, 2, 0, 3] dX12_guarded_31 rfl (by decide) rfl ?_
      refine aw_sub (lv' := [(0, .ref (N.1 0)), (1, .int x1), (2, .int y2), (3, .int x3)]) [0, 1, 2, 3] rfl ?_
      exact T_X12_guarded_32 C hE hk4 s0 x1 y2 x3 h
def F_X12_guarded_4 : Nat → St → Int32 → Int32 → Int32 → Option (Int32 × St)
  | 0 => fun _ _ _ _ => none
  | n + 1 => F_X12_guarded_4_b (F_X12_guarded_4 n)
theorem T_X12_guarded_4 {r : Int32} {z1 : St} (C : Cx p rm_X12_guarded s m args c D A cX12_guarded 4 RX12 rm_X12_guarded N) (hE : En p l e rm_X12_guarded s m args below meth c Q D A cX12_guarded .ireturn (wR N z1) [.int r])  : ∀ (n : Nat) (s0 : St) (x1 : Int32) (x2 : Int32) (x3 : Int32), F_X12_guarded_4 n s0 x1 x2 x3 = some (r, z1) → Aw p l e rm_X12_guarded s m args below meth c Q D A 4 (wR N s0) 4 [(0, .ref (N.1 0)), (1, .int x1), (2, .int x2), (3, .int x3)] [] := by
  intro n
  induction n with
  | zero => intro s0 x1 x2 x3 h; cases h
  | succ n ih => intro s0 x1 x2 x3 h; exact T_X12_guarded_4_b C hE ih s0 x1 x2 x3 h
def F_X12_guarded_0 (s0 : St) (x1 : Int32) : Option (Int32 × St) :=
  oL (0 : Int32) fun y1 =>
  oL (0 : Int32) fun y2 =>
  F_X12_guarded_4 100000 s0 x1 y1 y2
set_option maxHeartbeats 4000000 in
set_option maxRecDepth 100000 in
theorem T_X12_guarded_0 {r : Int32} {z1 : St} (C : Cx p rm_X12_guarded s m args c D A cX12_guarded 4 RX12 rm_X12_guarded N) (hE : En p l e rm_X12_guarded s m args below meth c Q D A cX12_guarded .ireturn (wR N z1) [.int r])  (s0 : St) (x1 : Int32) (h : F_X12_guarded_0 s0 x1 = some (r, z1)) : Aw p l e rm_X12_guarded s m args below meth c Q D A 4 (wR N s0) 0 [(0, .ref (N.1 0)), (1, .int x1)] [] := by
  unfold F_X12_guarded_0 at h
  refine aw_iconst (v := 0) C dX12_guarded_0 (by decide) ?_
  refine aw_topi (fun y1 ey1 => ?_)
  have h := oL_e ey1 h
  refine aw_istore_n (lv' := [(0, .ref (N.1 0)), (1, .int x1), (2, .int y1)]) C [1, 2, 0] dX12_guarded_1 rfl (by decide) rfl ?_
  refine aw_iconst (v := 0) C dX12_guarded_2 (by decide) ?_
  refine aw_topi (fun y2 ey2 => ?_)
  have h := oL_e ey2 h
  refine aw_istore_n (lv' := [(0, .ref (N.1 0)), (1, .int x1), (2, .int y1), (3, .int y2)]) C [1, 2, 3, 0] dX12_guarded_3 rfl (by decide) rfl ?_
  refine aw_sub (lv' := [(0, .ref (N.1 0)), (1, .int x1), (2, .int y1), (3, .int y2)]) [0, 1, 2, 3] rfl ?_
  exact T_X12_guarded_4 C hE 100000 s0 x1 y1 y2 h
def f_X12_guarded (s0 : St) (x1 : Int32) : Option (Int32 × St) := F_X12_guarded_0 s0 x1
theorem c_X12_guarded (l : Launch) (D : va_G) (N : Nm) (s0 z1 : St) (x1 : Int32) (r : Int32) (h : f_X12_guarded s0 x1 = some (r, z1)) : Meti l yX12_guarded (tsU yX12_guarded cX12_guarded 4 (some .int)) rm_X12_guarded D N [.ref (N.1 0), .int x1] (wR N s0) r (wR N z1) :=
  met_i (cc := cX12_guarded) (nL := 4) (own := RX12) (by decide) rfl (Nat.le_of_ble_eq_true rfl) (fun p e s m args below meth c Q A C hE => aw_sub [0, 1] rfl (T_X12_guarded_0 C hE s0 x1 h))
/-! AwardLineModel.flight(IIIII)I -/
def rm_X12_flight : Room := { frames := 5, cells := 0, slots := 0, locals := 111 }
def F_X12_flight_42 (s0 : St) : Option (Int32 × St) :=
  some ((-1 : Int32), s0)
set_option maxHeartbeats 4000000 in
set_option maxRecDepth 100000 in
theorem T_X12_flight_42 {r : Int32} {z1 : St} (C : Cx p rm_X12_flight s m args c D A cX12_flight 9 RX12 rm_X12_flight N) (hE : En p l e rm_X12_flight s m args below meth c Q D A cX12_flight .ireturn (wR N z1) [.int r])  (s0 : St) (h : F_X12_flight_42 s0 = some (r, z1)) : Aw p l e rm_X12_flight s m args below meth c Q D A 9 (wR N s0) 42 [] [] := by
  unfold F_X12_flight_42 at h
  refine aw_iconst (v := -1) C dX12_flight_42 (by decide) ?_
  cases h
  exact aw_ret hE dX12_flight_43
def F_X12_flight_159 (s0 : St) (t0 : Int32) : Option (Int32 × St) :=
  some (t0, s0)
set_option maxHeartbeats 4000000 in
set_option maxRecDepth 100000 in
theorem T_X12_flight_159 {r : Int32} {z1 : St} (C : Cx p rm_X12_flight s m args c D A cX12_flight 9 RX12 rm_X12_flight N) (hE : En p l e rm_X12_flight s m args below meth c Q D A cX12_flight .ireturn (wR N z1) [.int r])  (s0 : St) (t0 : Int32) (h : F_X12_flight_159 s0 t0 = some (r, z1)) : Aw p l e rm_X12_flight s m args below meth c Q D A 9 (wR N s0) 159 [] [.int t0] := by
  unfold F_X12_flight_159 at h
  cases h
  exact aw_ret hE dX12_flight_159
def F_X12_flight_80_b (k80 : St → Int32 → Int32 → Int32 → Int32 → Int32 → Option (Int32 × St)) (s0 : St) (x1 : Int32) (x5 : Int32) (x6 : Int32) (x7 : Int32) (x8 : Int32) : Option (Int32 × St) :=
  oC (f_X12_cells s0) fun w3 =>
  oL w3.1 fun v1 => oL w3.2 fun s2 =>
  if v1 ≤ x8 then (
    if x5 = (1 : Int32) then (
      F_X12_flight_159 s2 x6)
    else (
      F_X12_flight_159 s2 x7))
  else (
    oC (f_X12_sideOf s2 x1 x8) fun w6 =>
    oL w6.1 fun v4 => oL w6.2 fun s5 =>
    oA ((((2 : Int32) * x8) + (1 : Int32)) - v4) 50 <|
    oL (x6 + (s5.2.1 27 (Int32.toNatClampNeg ((((2 : Int32) * x8) + (1 : Int32)) - v4)))) fun y8 =>
    oA ((2 : Int32) * x8) 50 <|
    oA (((2 : Int32) * x8) + (1 : Int32)) 50 <|
    oL (jmax x7 ((s5.2.1 27 (Int32.toNatClampNeg ((2 : Int32) * x8))) + (s5.2.1 27 (Int32.toNatClampNeg (((2 : Int32) * x8) + (1 : Int32)))))) fun y11 =>
    oL (x8 + (1 : Int32)) fun y12 =>
    k80 s5 x1 x5 y8 y11 y12)
set_option maxHeartbeats 4000000 in
set_option maxRecDepth 100000 in
theorem T_X12_flight_80_b {r : Int32} {z1 : St} {k80 : St → Int32 → Int32 → Int32 → Int32 → Int32 → Option (Int32 × St)} (C : Cx p rm_X12_flight s m args c D A cX12_flight 9 RX12 rm_X12_flight N) (hE : En p l e rm_X12_flight s m args below meth c Q D A cX12_flight .ireturn (wR N z1) [.int r]) (hk80 : ∀ (s0 : St) (x1 : Int32) (x5 : Int32) (x6 : Int32) (x7 : Int32) (x8 : Int32), k80 s0 x1 x5 x6 x7 x8 = some (r, z1) → Aw p l e rm_X12_flight s m args below meth c Q D A 9 (wR N s0) 80 [(0, .ref (N.1 0)), (1, .int x1), (5, .int x5), (6, .int x6), (7, .int x7), (8, .int x8)] []) (s0 : St) (x1 : Int32) (x5 : Int32) (x6 : Int32) (x7 : Int32) (x8 : Int32) (h : F_X12_flight_80_b k80 s0 x1 x5 x6 x7 x8 = some (r, z1)) : Aw p l e rm_X12_flight s m args below meth c Q D A 9 (wR N s0) 80 [(0, .ref (N.1 0)), (1, .int x1), (5, .int x5), (6, .int x6), (7, .int x7), (8, .int x8)] [] := by
  unfold F_X12_flight_80_b at h
  refine aw_iload C 5 dX12_flight_80 rfl ?_
  refine aw_aload_n C 0 dX12_flight_82 rfl ?_
  obtain ⟨⟨v1, s2⟩, cw3, h⟩ := oC_e h
  have h := oL_e (x := s2) rfl (oL_e (x := v1) rfl h)
  refine aw_callVi (n := 0) (As := []) (rest := [.int x8]) (q0 := 0) C (c_X12_cells l D N s0 s2 v1 cw3) lw_23_23 lw_24_0 lw_24_1 lw_1_5 lw_24_2 rfl rfl (by decide +kernel) ⟨Nat.le_of_ble_eq_true rfl, Nat.le_of_ble_eq_true rfl⟩ rfl rfl rfl rfl rfl (Nat.le_of_ble_eq_true rfl) dX12_flight_83 ?_
  refine aw_icmp_ge (tgt := 146) C dX12_flight_86 (by decide) (fun q => ?_) (fun q => ?_)
  · have h := bq_t q h
    refine aw_iload C 2 dX12_flight_146 rfl ?_
    refine aw_iconst (v := 1) C dX12_flight_148 (by decide) ?_
    refine aw_icmp_ne (tgt := 157) C dX12_flight_149 (by decide) (fun q => ?_) (fun q => ?_)
    · have h := bq_f q h
      refine aw_iload C 4 dX12_flight_157 rfl ?_
      refine aw_sub (lv' := []) [] rfl ?_
      exact T_X12_flight_159 C hE s2 x7 h
    · have h := bq_t q h
      refine aw_iload C 3 dX12_flight_152 rfl ?_
      refine aw_goto (tgt := 159) C dX12_flight_154 (by decide) ?_
      refine aw_sub (lv' := []) [] rfl ?_
      exact T_X12_flight_159 C hE s2 x6 h
  · have h := bq_f q h
    refine aw_iload C 3 dX12_flight_89 rfl ?_
    refine aw_aload_n C 0 dX12_flight_91 rfl ?_
    refine rg_md_there C lw_9_4 dX12_flight_92 ?_
    refine aw_iconst (v := 2) C dX12_flight_95 (by decide) ?_
    refine aw_iload C 5 dX12_flight_96 rfl ?_
    refine aw_imul C dX12_flight_98 ?_
    refine aw_iconst (v := 1) C dX12_flight_99 (by decide) ?_
    refine aw_iadd C dX12_flight_100 ?_
    refine aw_iload_n C 1 dX12_flight_101 rfl ?_
    refine aw_iload C 5 dX12_flight_102 rfl ?_
    obtain ⟨⟨v4, s5⟩, cw6, h⟩ := oC_e h
    have h := oL_e (x := s5) rfl (oL_e (x := v4) rfl h)
    refine aw_callSi (n := 2) (As := [.int x1, .int x8]) (rest := [.int (((2 : Int32) * x8) + (1 : Int32)), .ref (N.2.1 27), .int x6]) C (c_X12_sideOf l D N s2 s5 x1 x8 v4 cw6) lw_40_7 lw_40_8 lw_1_5 lw_40_9 rfl rfl (by decide +kernel) ⟨Nat.le_of_ble_eq_true rfl, Nat.le_of_ble_eq_true rfl⟩ rfl rfl (Nat.le_of_ble_eq_true rfl) dX12_flight_104 ?_
    refine aw_isub C dX12_flight_107 ?_
    obtain ⟨q7, h⟩ := oA_e h
    refine ra_iald (k := 27) C (by decide) rfl q7 dX12_flight_108 ?_
    refine aw_iadd C dX12_flight_109 ?_
    refine aw_topi (fun y8 ey8 => ?_)
    have h := oL_e ey8 h
    refine aw_istore (lv' := [(0, .ref (N.1 0)), (1, .int x1), (5, .int x5), (6, .int y8), (7, .int x7), (8, .int x8)]) C [1, 2, 3, 0, 4, 5] dX12_flight_110 (by decide) rfl ?_
    refine aw_iload C 4 dX12_flight_112 rfl ?_
    refine aw_aload_n C 0 dX12_flight_114 rfl ?_
    refine rg_md_there C lw_9_4 dX12_flight_115 ?_
    refine aw_iconst (v := 2) C dX12_flight_118 (by decide) ?_
    refine aw_iload C 5 dX12_flight_119 rfl ?_
    refine aw_imul C dX12_flight_121 ?_
    obtain ⟨q9, h⟩ := oA_e h
    refine ra_iald (k := 27) C (by decide) rfl q9 dX12_flight_122 ?_
    refine aw_aload_n C 0 dX12_flight_123 rfl ?_
    refine rg_md_there C lw_9_4 dX12_flight_124 ?_
    refine aw_iconst (v := 2) C dX12_flight_127 (by decide) ?_
    refine aw_iload C 5 dX12_flight_128 rfl ?_
    refine aw_imul C dX12_flight_130 ?_
    refine aw_iconst (v := 1) C dX12_flight_131 (by decide) ?_
    refine aw_iadd C dX12_flight_132 ?_
    obtain ⟨q10, h⟩ := oA_e h
    refine ra_iald (k := 27) C (by decide) rfl q10 dX12_flight_133 ?_
    refine aw_iadd C dX12_flight_134 ?_
    refine aw_mmax C lw_29_15 lw_28_13 (by decide +kernel) lw_28_14 (Nat.le_of_ble_eq_true rfl) (Nat.le_of_ble_eq_true rfl) dX12_flight_135 ?_
    refine aw_topi (fun y11 ey11 => ?_)
    have h := oL_e ey11 h
    refine aw_istore (lv' := [(0, .ref (N.1 0)), (1, .int x1), (5, .int x5), (6, .int y8), (7, .int y11), (8, .int x8)]) C [1, 2, 3, 4, 0, 5] dX12_flight_138 (by decide) rfl ?_
    obtain ⟨y12, ey12⟩ : ∃ q : Int32, q = x8 + (1 : Int32) := ⟨_, rfl⟩
    have h := oL_e ey12 h
    refine aw_iinc (v := y12) (k := 5) (lv' := [(0, .ref (N.1 0)), (1, .int x1), (5, .int x5), (6, .int y8), (7, .int y11), (8, .int y12)]) C [1, 2, 3, 4, 5, 0] dX12_flight_140 rfl (by rw [ey12]; rfl) (by decide) rfl ?_
    refine aw_goto (tgt := 80) C dX12_flight_143 (by decide) ?_
    refine aw_sub (lv' := [(0, .ref (N.1 0)), (1, .int x1), (5, .int x5), (6, .int y8), (7, .int y11), (8, .int y12)]) [0, 1, 2, 3, 4, 5] rfl ?_
    exact hk80 s5 x1 x5 y8 y11 y12 h
def F_X12_flight_80 : Nat → St → Int32 → Int32 → Int32 → Int32 → Int32 → Option (Int32 × St)
  | 0 => fun _ _ _ _ _ _ => none
  | n + 1 => F_X12_flight_80_b (F_X12_flight_80 n)
theorem T_X12_flight_80 {r : Int32} {z1 : St} (C : Cx p rm_X12_flight s m args c D A cX12_flight 9 RX12 rm_X12_flight N) (hE : En p l e rm_X12_flight s m args below meth c Q D A cX12_flight .ireturn (wR N z1) [.int r])  : ∀ (n : Nat) (s0 : St) (x1 : Int32) (x5 : Int32) (x6 : Int32) (x7 : Int32) (x8 : Int32), F_X12_flight_80 n s0 x1 x5 x6 x7 x8 = some (r, z1) → Aw p l e rm_X12_flight s m args below meth c Q D A 9 (wR N s0) 80 [(0, .ref (N.1 0)), (1, .int x1), (5, .int x5), (6, .int x6), (7, .int x7), (8, .int x8)] [] := by
  intro n
  induction n with
  | zero => intro s0 x1 x5 x6 x7 x8 h; cases h
  | succ n ih => intro s0 x1 x5 x6 x7 x8 h; exact T_X12_flight_80_b C hE ih s0 x1 x5 x6 x7 x8 h
def F_X12_flight_0 (s0 : St) (x1 : Int32) (x2 : Int32) (x3 : Int32) (x4 : Int32) (x5 : Int32) : Option (Int32 × St) :=
  oL (sI s0 0 (0 : Int32)) fun s1 =>
  oC (f_X12_isLine s1 x1) fun w4 =>
  oL w4.1 fun v2 => oL w4.2 fun s3 =>
  if v2 = 0 then (
    F_X12_flight_42 s3)
  else (
    if x2 < 0 then (
      F_X12_flight_42 s3)
    else (
      if (20 : Int32) < x2 then (
        F_X12_flight_42 s3)
      else (
        oC (f_X12_isDay s3 x4) fun w7 =>
        oL w7.1 fun v5 => oL w7.2 fun s6 =>
        if v5 = 0 then (
          F_X12_flight_42 s6)
        else (
          if x5 < 0 then (
            F_X12_flight_42 s6)
          else (
            if x5 ≤ (2 : Int32) then (
              oC (f_X12_reckons s6 x4) fun w10 =>
              oL w10 fun s9 =>
              oC (f_X12_guarded s9 x3) fun w13 =>
              oL w13.1 fun v11 => oL w13.2 fun s12 =>
              oC (f_X12_flees s12 x1 x2 v11) fun w16 =>
              oL w16 fun s15 =>
              if x5 = 0 then (
                some ((s15.1 30), s15))
              else (
                oL (0 : Int32) fun y17 =>
                oL (0 : Int32) fun y18 =>
                oL (0 : Int32) fun y19 =>
                F_X12_flight_80 100000 s15 x1 x5 y17 y18 y19))
            else (
              F_X12_flight_42 s6))))))
set_option maxHeartbeats 4000000 in
set_option maxRecDepth 100000 in
theorem T_X12_flight_0 {r : Int32} {z1 : St} (C : Cx p rm_X12_flight s m args c D A cX12_flight 9 RX12 rm_X12_flight N) (hE : En p l e rm_X12_flight s m args below meth c Q D A cX12_flight .ireturn (wR N z1) [.int r])  (s0 : St) (x1 : Int32) (x2 : Int32) (x3 : Int32) (x4 : Int32) (x5 : Int32) (h : F_X12_flight_0 s0 x1 x2 x3 x4 x5 = some (r, z1)) : Aw p l e rm_X12_flight s m args below meth c Q D A 9 (wR N s0) 0 [(0, .ref (N.1 0)), (1, .int x1), (2, .int x2), (3, .int x3), (4, .int x4), (5, .int x5)] [] := by
  unfold F_X12_flight_0 at h
  refine aw_aload_n C 0 dX12_flight_0 rfl ?_
  refine aw_iconst (v := 0) C dX12_flight_1 (by decide) ?_
  refine rp_md_thrown C lw_10_11 dX12_flight_2 ?_
  refine ra_name (fun s1 es1 => ?_)
  have h := oL_e es1 h
  refine aw_aload_n C 0 dX12_flight_5 rfl ?_
  refine aw_iload_n C 1 dX12_flight_6 rfl ?_
  obtain ⟨⟨v2, s3⟩, cw4, h⟩ := oC_e h
  have h := oL_e (x := s3) rfl (oL_e (x := v2) rfl h)
  refine aw_callVi (n := 1) (As := [.int x1]) (rest := []) (q0 := 0) C (c_X12_isLine l D N s1 s3 x1 v2 cw4) lw_36_9 lw_36_10 lw_36_11 lw_1_5 lw_36_12 rfl rfl (by decide +kernel) ⟨Nat.le_of_ble_eq_true rfl, Nat.le_of_ble_eq_true rfl⟩ rfl rfl rfl rfl rfl (Nat.le_of_ble_eq_true rfl) dX12_flight_7 ?_
  refine aw_if_eq (tgt := 42) C dX12_flight_10 (by decide) (fun q => ?_) (fun q => ?_)
  · have h := bq_t q h
    refine aw_sub (lv' := []) [] rfl ?_
    exact T_X12_flight_42 C hE s3 h
  · have h := bq_f q h
    refine aw_iload_n C 2 dX12_flight_13 rfl ?_
    refine aw_if_lt (tgt := 42) C dX12_flight_14 (by decide) (fun q => ?_) (fun q => ?_)
    · have h := bq_t q h
      refine aw_sub (lv' := []) [] rfl ?_
      exact T_X12_flight_42 C hE s3 h
    · have h := bq_f q h
      refine aw_iload_n C 2 dX12_flight_17 rfl ?_
      refine aw_bipush (v := 20) C dX12_flight_18 (by decide) ?_
      refine aw_icmp_gt (tgt := 42) C dX12_flight_20 (by decide) (fun q => ?_) (fun q => ?_)
      · have h := bq_t q h
        refine aw_sub (lv' := []) [] rfl ?_
        exact T_X12_flight_42 C hE s3 h
      · have h := bq_f q h
        refine aw_iload C 4 dX12_flight_23 rfl ?_
        obtain ⟨⟨v5, s6⟩, cw7, h⟩ := oC_e h
        have h := oL_e (x := s6) rfl (oL_e (x := v5) rfl h)
        refine aw_callSi (n := 1) (As := [.int x4]) (rest := []) C (c_X12_isDay l D N s3 s6 x4 v5 cw7) lw_29_4 lw_29_5 lw_1_5 lw_29_6 rfl rfl (by decide +kernel) ⟨Nat.le_of_ble_eq_true rfl, Nat.le_of_ble_eq_true rfl⟩ rfl rfl (Nat.le_of_ble_eq_true rfl) dX12_flight_25 ?_
        refine aw_if_eq (tgt := 42) C dX12_flight_28 (by decide) (fun q => ?_) (fun q => ?_)
        · have h := bq_t q h
          refine aw_sub (lv' := []) [] rfl ?_
          exact T_X12_flight_42 C hE s6 h
        · have h := bq_f q h
          refine aw_iload C 5 dX12_flight_31 rfl ?_
          refine aw_if_lt (tgt := 42) C dX12_flight_33 (by decide) (fun q => ?_) (fun q => ?_)
          · have h := bq_t q h
            refine aw_sub (lv' := []) [] rfl ?_
            exact T_X12_flight_42 C hE s6 h
          · have h := bq_f q h
            refine aw_iload C 5 dX12_flight_36 rfl ?_
            refine aw_iconst (v := 2) C dX12_flight_38 (by decide) ?_
            refine aw_icmp_le (tgt := 44) C dX12_flight_39 (by decide) (fun q => ?_) (fun q => ?_)
            · have h := bq_t q h
              refine aw_aload_n C 0 dX12_flight_44 rfl ?_
              refine aw_iload C 4 dX12_flight_45 rfl ?_
              obtain ⟨s9, cw10, h⟩ := oC_e h
              have h := oL_e (x := s9) rfl h
              refine aw_callVv (n := 1) (As := [.int x4]) (rest := []) (q0 := 0) C (c_X12_reckons l D N s6 s9 x4 cw10) lw_33_17 lw_33_18 lw_33_19 lw_1_5 lw_33_20 rfl rfl (by decide +kernel) ⟨Nat.le_of_ble_eq_true rfl, Nat.le_of_ble_eq_true rfl⟩ rfl rfl rfl rfl rfl (Nat.le_of_ble_eq_true rfl) dX12_flight_47 ?_
              refine aw_aload_n C 0 dX12_flight_50 rfl ?_
              refine aw_iload_n C 1 dX12_flight_51 rfl ?_
              refine aw_iload_n C 2 dX12_flight_52 rfl ?_
              refine aw_aload_n C 0 dX12_flight_53 rfl ?_
              refine aw_iload_n C 3 dX12_flight_54 rfl ?_
              obtain ⟨⟨v11, s12⟩, cw13, h⟩ := oC_e h
              have h := oL_e (x := s12) rfl (oL_e (x := v11) rfl h)
              refine aw_callVi (n := 1) (As := [.int x3]) (rest := [.int x2, .int x1, .ref (N.1 0)]) (q0 := 0) C (c_X12_guarded l D N s9 s12 x3 v11 cw13) lw_50_13 lw_50_14 lw_50_15 lw_1_5 lw_50_16 rfl rfl (by decide +kernel) ⟨Nat.le_of_ble_eq_true rfl, Nat.le_of_ble_eq_true rfl⟩ rfl rfl rfl rfl rfl (Nat.le_of_ble_eq_true rfl) dX12_flight_55 ?_
              obtain ⟨s15, cw16, h⟩ := oC_e h
              have h := oL_e (x := s15) rfl h
              refine aw_callVv (n := 3) (As := [.int x1, .int x2, .int v11]) (rest := []) (q0 := 0) C (c_X12_flees l D N s12 s15 x1 x2 v11 cw16) lw_50_17 lw_50_18 lw_50_19 lw_1_5 lw_50_20 rfl rfl (by decide +kernel) ⟨Nat.le_of_ble_eq_true rfl, Nat.le_of_ble_eq_true rfl⟩ rfl rfl rfl rfl rfl (Nat.le_of_ble_eq_true rfl) dX12_flight_58 ?_
              refine aw_iload C 5 dX12_flight_61 rfl ?_
              refine aw_if_ne (tgt := 71) C dX12_flight_63 (by decide) (fun q => ?_) (fun q => ?_)
              · have h := bq_f q h
                refine aw_iconst (v := 0) C dX12_flight_71 (by decide) ?_
                refine aw_topi (fun y17 ey17 => ?_)
                have h := oL_e ey17 h
                refine aw_istore (lv' := [(0, .ref (N.1 0)), (1, .int x1), (2, .int x2), (3, .int x3), (4, .int x4), (5, .int x5), (6, .int y17)]) C [1, 2, 3, 4, 5, 6, 0] dX12_flight_72 (by decide) rfl ?_
                refine aw_iconst (v := 0) C dX12_flight_74 (by decide) ?_
                refine aw_topi (fun y18 ey18 => ?_)
                have h := oL_e ey18 h
                refine aw_istore (lv' := [(0, .ref (N.1 0)), (1, .int x1), (2, .int x2), (3, .int x3), (4, .int x4), (5, .int x5), (6, .int y17), (7, .int y18)]) C [1, 2, 3, 4, 5, 6, 7, 0] dX12_flight_75 (by decide) rfl ?_
                refine aw_iconst (v := 0) C dX12_flight_77 (by decide) ?_
                refine aw_topi (fun y19 ey19 => ?_)
                have h := oL_e ey19 h
                refine aw_istore (lv' := [(0, .ref (N.1 0)), (1, .int x1), (2, .int x2), (3, .int x3), (4, .int x4), (5, .int x5), (6, .int y17), (7, .int y18), (8, .int y19)]) C [1, 2, 3, 4, 5, 6, 7, 8, 0] dX12_flight_78 (by decide) rfl ?_
                refine aw_sub (lv' := [(0, .ref (N.1 0)), (1, .int x1), (5, .int x5), (6, .int y17), (7, .int y18), (8, .int y19)]) [0, 1, 5, 6, 7, 8] rfl ?_
                exact T_X12_flight_80 C hE 100000 s15 x1 x5 y17 y18 y19 h
              · have h := bq_t q h
                refine aw_aload_n C 0 dX12_flight_66 rfl ?_
                refine rg_md_lost C lw_50_12 dX12_flight_67 ?_
                cases h
                exact aw_ret hE dX12_flight_70
            · have h := bq_f q h
              refine aw_sub (lv' := []) [] rfl ?_
              exact T_X12_flight_42 C hE s6 h
def f_X12_flight (s0 : St) (x1 : Int32) (x2 : Int32) (x3 : Int32) (x4 : Int32) (x5 : Int32) : Option (Int32 × St) := F_X12_flight_0 s0 x1 x2 x3 x4 x5
theorem c_X12_flight (l : Launch) (D : va_G) (N : Nm) (s0 z1 : St) (x1 : Int32) (x2 : Int32) (x3 : Int32) (x4 : Int32) (x5 : Int32) (r : Int32) (h : f_X12_flight s0 x1 x2 x3 x4 x5 = some (r, z1)) : Meti l yX12_flight (tsU yX12_flight cX12_flight 9 (some .int)) rm_X12_flight D N [.ref (N.1 0), .int x1, .int x2, .int x3, .int x4, .int x5] (wR N s0) r (wR N z1) :=
  met_i (cc := cX12_flight) (nL := 9) (own := RX12) (by decide) rfl (Nat.le_of_ble_eq_true rfl) (fun p e s m args below meth c Q A C hE => aw_sub [0, 1, 2, 3, 4, 5] rfl (T_X12_flight_0 C hE s0 x1 x2 x3 x4 x5 h))
/-! AwardLineModel.guards(IIIII)I -/
def rm_X12_guards : Room := { frames := 5, cells := 0, slots := 0, locals := 111 }
def F_X12_guards_60 (s0 : St) : Option (Int32 × St) :=
  some ((-1 : Int32), s0)
set_option maxHeartbeats 4000000 in
set_option maxRecDepth 100000 in
theorem T_X12_guards_60 {r : Int32} {z1 : St} (C : Cx p rm_X12_guards s m args c D A cX12_guards 11 RX12 rm_X12_guards N) (hE : En p l e rm_X12_guards s m args below meth c Q D A cX12_guards .ireturn (wR N z1) [.int r])  (s0 : St) (h : F_X12_guards_60 s0 = some (r, z1)) : Aw p l e rm_X12_guards s m args below meth c Q D A 11 (wR N s0) 60 [] [] := by
  unfold F_X12_guards_60 at h
  refine aw_iconst (v := -1) C dX12_guards_60 (by decide) ?_
  cases h
  exact aw_ret hE dX12_guards_61
def F_X12_guards_224 (s0 : St) (t0 : Int32) : Option (Int32 × St) :=
  some (t0, s0)
set_option maxHeartbeats 4000000 in
set_option maxRecDepth 100000 in
theorem T_X12_guards_224 {r : Int32} {z1 : St} (C : Cx p rm_X12_guards s m args c D A cX12_guards 11 RX12 rm_X12_guards N) (hE : En p l e rm_X12_guards s m args below meth c Q D A cX12_guards .ireturn (wR N z1) [.int r])  (s0 : St) (t0 : Int32) (h : F_X12_guards_224 s0 t0 = some (r, z1)) : Aw p l e rm_X12_guards s m args below meth c Q D A 11 (wR N s0) 224 [] [.int t0] := by
  unfold F_X12_guards_224 at h
  cases h
  exact aw_ret hE dX12_guards_224
def F_X12_guards_206 (k77 : St → Int32 → Int32 → Int32 → Int32 → Int32 → Int32 → Int32 → Option (Int32 × St)) (s0 : St) (x1 : Int32) (x2 : Int32) (x3 : Int32) (x5 : Int32) (x6 : Int32) (x7 : Int32) (x8 : Int32) : Option (Int32 × St) :=
  oL (x8 + (1 : Int32)) fun y1 =>
  k77 s0 x1 x2 x3 x5 x6 x7 y1
set_option maxHeartbeats 4000000 in
set_option maxRecDepth 100000 in
theorem T_X12_guards_206 {r : Int32} {z1 : St} {k77 : St → Int32 → Int32 → Int32 → Int32 → Int32 → Int32 → Int32 → Option (Int32 × St)} (C : Cx p rm_X12_guards s m args c D A cX12_guards 11 RX12 rm_X12_guards N) (hE : En p l e rm_X12_guards s m args below meth c Q D A cX12_guards .ireturn (wR N z1) [.int r]) (hk77 : ∀ (s0 : St) (x1 : Int32) (x2 : Int32) (x3 : Int32) (x5 : Int32) (x6 : Int32) (x7 : Int32) (x8 : Int32), k77 s0 x1 x2 x3 x5 x6 x7 x8 = some (r, z1) → Aw p l e rm_X12_guards s m args below meth c Q D A 11 (wR N s0) 77 [(0, .ref (N.1 0)), (1, .int x1), (2, .int x2), (3, .int x3), (5, .int x5), (6, .int x6), (7, .int x7), (8, .int x8)] []) (s0 : St) (x1 : Int32) (x2 : Int32) (x3 : Int32) (x5 : Int32) (x6 : Int32) (x7 : Int32) (x8 : Int32) (h : F_X12_guards_206 k77 s0 x1 x2 x3 x5 x6 x7 x8 = some (r, z1)) : Aw p l e rm_X12_guards s m args below meth c Q D A 11 (wR N s0) 206 [(0, .ref (N.1 0)), (1, .int x1), (2, .int x2), (3, .int x3), (5, .int x5), (6, .int x6), (7, .int x7), (8, .int x8)] [] := by
  unfold F_X12_guards_206 at h
  obtain ⟨y1, ey1⟩ : ∃ q : Int32, q = x8 + (1 : Int32) := ⟨_, rfl⟩
  have h := oL_e ey1 h
  refine aw_iinc (v := y1) (k := 7) (lv' := [(0, .ref (N.1 0)), (1, .int x1), (2, .int x2), (3, .int x3), (5, .int x5), (6, .int x6), (7, .int x7), (8, .int y1)]) C [1, 2, 3, 4, 5, 6, 7, 0] dX12_guards_206 rfl (by rw [ey1]; rfl) (by decide) rfl ?_
  refine aw_goto (tgt := 77) C dX12_guards_209 (by decide) ?_
  refine aw_sub (lv' := [(0, .ref (N.1 0)), (1, .int x1), (2, .int x2), (3, .int x3), (5, .int x5), (6, .int x6), (7, .int x7), (8, .int y1)]) [0, 1, 2, 3, 4, 5, 6, 7] rfl ?_
  exact hk77 s0 x1 x2 x3 x5 x6 x7 y1 h
def F_X12_guards_198 (k77 : St → Int32 → Int32 → Int32 → Int32 → Int32 → Int32 → Int32 → Option (Int32 × St)) (s0 : St) (x1 : Int32) (x2 : Int32) (x3 : Int32) (x5 : Int32) (x8 : Int32) (x9 : Int32) : Option (Int32 × St) :=
  F_X12_guards_206 k77 s0 x1 x2 x3 x5 x8 x9 x8
set_option maxHeartbeats 4000000 in
set_option maxRecDepth 100000 in
theorem T_X12_guards_198 {r : Int32} {z1 : St} {k77 : St → Int32 → Int32 → Int32 → Int32 → Int32 → Int32 → Int32 → Option (Int32 × St)} (C : Cx p rm_X12_guards s m args c D A cX12_guards 11 RX12 rm_X12_guards N) (hE : En p l e rm_X12_guards s m args below meth c Q D A cX12_guards .ireturn (wR N z1) [.int r]) (hk77 : ∀ (s0 : St) (x1 : Int32) (x2 : Int32) (x3 : Int32) (x5 : Int32) (x6 : Int32) (x7 : Int32) (x8 : Int32), k77 s0 x1 x2 x3 x5 x6 x7 x8 = some (r, z1) → Aw p l e rm_X12_guards s m args below meth c Q D A 11 (wR N s0) 77 [(0, .ref (N.1 0)), (1, .int x1), (2, .int x2), (3, .int x3), (5, .int x5), (6, .int x6), (7, .int x7), (8, .int x8)] []) (s0 : St) (x1 : Int32) (x2 : Int32) (x3 : Int32) (x5 : Int32) (x8 : Int32) (x9 : Int32) (h : F_X12_guards_198 k77 s0 x1 x2 x3 x5 x8 x9 = some (r, z1)) : Aw p l e rm_X12_guards s m args below meth c Q D A 11 (wR N s0) 198 [(0, .ref (N.1 0)), (1, .int x1), (2, .int x2), (3, .int x3), (5, .int x5), (8, .int x8), (9, .int x9)] [] := by
  unfold F_X12_guards_198 at h
  refine aw_iload C 5 dX12_guards_198 rfl ?_
  refine aw_istore (lv' := [(0, .ref (N.1 0)), (1, .int x1), (2, .int x2), (3, .int x3), (5, .int x5), (6, .int x8), (8, .int x8), (9, .int x9)]) C [1, 2, 3, 4, 5, 0, 6, 7] dX12_guards_200 (by decide) rfl ?_
  refine aw_iload C 7 dX12_guards_202 rfl ?_
  refine aw_istore (lv' := [(0, .ref (N.1 0)), (1, .int x1), (2, .int x2), (3, .int x3), (5, .int x5), (6, .int x8), (7, .int x9), (8, .int x8), (9, .int x9)]) C [1, 2, 3, 4, 5, 6, 0, 7, 8] dX12_guards_204 (by decide) rfl ?_
  refine aw_sub (lv' := [(0, .ref (N.1 0)), (1, .int x1), (2, .int x2), (3, .int x3), (5, .int x5), (6, .int x8), (7, .int x9), (8, .int x8)]) [0, 1, 2, 3, 4, 5, 6, 7] rfl ?_
  exact T_X12_guards_206 C hE hk77 s0 x1 x2 x3 x5 x8 x9 x8 h
def F_X12_guards_156 (k77 : St → Int32 → Int32 → Int32 → Int32 → Int32 → Int32 → Int32 → Option (Int32 × St)) (k106 : St → Int32 → Int32 → Int32 → Int32 → Int32 → Int32 → Int32 → Int32 → Int32 → Option (Int32 × St)) (s0 : St) (x1 : Int32) (x2 : Int32) (x3 : Int32) (x5 : Int32) (x6 : Int32) (x7 : Int32) (x8 : Int32) (x9 : Int32) (x10 : Int32) : Option (Int32 × St) :=
  oL (x10 + (1 : Int32)) fun y1 =>
  k106 s0 x1 x2 x3 x5 x6 x7 x8 x9 y1
set_option maxHeartbeats 4000000 in
set_option maxRecDepth 100000 in
theorem T_X12_guards_156 {r : Int32} {z1 : St} {k77 : St → Int32 → Int32 → Int32 → Int32 → Int32 → Int32 → Int32 → Option (Int32 × St)} {k106 : St → Int32 → Int32 → Int32 → Int32 → Int32 → Int32 → Int32 → Int32 → Int32 → Option (Int32 × St)} (C : Cx p rm_X12_guards s m args c D A cX12_guards 11 RX12 rm_X12_guards N) (hE : En p l e rm_X12_guards s m args below meth c Q D A cX12_guards .ireturn (wR N z1) [.int r]) (hk77 : ∀ (s0 : St) (x1 : Int32) (x2 : Int32) (x3 : Int32) (x5 : Int32) (x6 : Int32) (x7 : Int32) (x8 : Int32), k77 s0 x1 x2 x3 x5 x6 x7 x8 = some (r, z1) → Aw p l e rm_X12_guards s m args below meth c Q D A 11 (wR N s0) 77 [(0, .ref (N.1 0)), (1, .int x1), (2, .int x2), (3, .int x3), (5, .int x5), (6, .int x6), (7, .int x7), (8, .int x8)] []) (hk106 : ∀ (s0 : St) (x1 : Int32) (x2 : Int32) (x3 : Int32) (x5 : Int32) (x6 : Int32) (x7 : Int32) (x8 : Int32) (x9 : Int32) (x10 : Int32), k106 s0 x1 x2 x3 x5 x6 x7 x8 x9 x10 = some (r, z1) → Aw p l e rm_X12_guards s m args below meth c Q D A 11 (wR N s0) 106 [(0, .ref (N.1 0)), (1, .int x1), (2, .int x2), (3, .int x3), (5, .int x5), (6, .int x6), (7, .int x7), (8, .int x8), (9, .int x9), (10, .int x10)] []) (s0 : St) (x1 : Int32) (x2 : Int32) (x3 : Int32) (x5 : Int32) (x6 : Int32) (x7 : Int32) (x8 : Int32) (x9 : Int32) (x10 : Int32) (h : F_X12_guards_156 k77 k106 s0 x1 x2 x3 x5 x6 x7 x8 x9 x10 = some (r, z1)) : Aw p l e rm_X12_guards s m args below meth c Q D A 11 (wR N s0) 156 [(0, .ref (N.1 0)), (1, .int x1), (2, .int x2), (3, .int x3), (5, .int x5), (6, .int x6), (7, .int x7), (8, .int x8), (9, .int x9), (10, .int x10)] [] := by
  unfold F_X12_guards_156 at h
  obtain ⟨y1, ey1⟩ : ∃ q : Int32, q = x10 + (1 : Int32) := ⟨_, rfl⟩
  have h := oL_e ey1 h
  refine aw_iinc (v := y1) (k := 9) (lv' := [(0, .ref (N.1 0)), (1, .int x1), (2, .int x2), (3, .int x3), (5, .int x5), (6, .int x6), (7, .int x7), (8, .int x8), (9, .int x9), (10, .int y1)]) C [1, 2, 3, 4, 5, 6, 7, 8, 9, 0] dX12_guards_156 rfl (by rw [ey1]; rfl) (by decide) rfl ?_
  refine aw_goto (tgt := 106) C dX12_guards_159 (by decide) ?_
  refine aw_sub (lv' := [(0, .ref (N.1 0)), (1, .int x1), (2, .int x2), (3, .int x3), (5, .int x5), (6, .int x6), (7, .int x7), (8, .int x8), (9, .int x9), (10, .int y1)]) [0, 1, 2, 3, 4, 5, 6, 7, 8, 9] rfl ?_
  exact hk106 s0 x1 x2 x3 x5 x6 x7 x8 x9 y1 h
def F_X12_guards_106_b (k77 : St → Int32 → Int32 → Int32 → Int32 → Int32 → Int32 → Int32 → Option (Int32 × St)) (k106 : St → Int32 → Int32 → Int32 → Int32 → Int32 → Int32 → Int32 → Int32 → Int32 → Option (Int32 × St)) (s0 : St) (x1 : Int32) (x2 : Int32) (x3 : Int32) (x5 : Int32) (x6 : Int32) (x7 : Int32) (x8 : Int32) (x9 : Int32) (x10 : Int32) : Option (Int32 × St) :=
  if (s0.1 25) ≤ x10 then (
    if x6 = (-1 : Int32) then (
      F_X12_guards_198 k77 s0 x1 x2 x3 x5 x8 x9)
    else (
      if x7 < x9 then (
        F_X12_guards_206 k77 s0 x1 x2 x3 x5 x6 x7 x8)
      else (
        if x9 = x7 then (
          oC (f_X12_bits s0 x8) fun w3 =>
          oL w3.1 fun v1 => oL w3.2 fun s2 =>
          oC (f_X12_bits s2 x6) fun w6 =>
          oL w6.1 fun v4 => oL w6.2 fun s5 =>
          if v1 < v4 then (
            F_X12_guards_198 k77 s5 x1 x2 x3 x5 x8 x9)
          else (
            F_X12_guards_206 k77 s5 x1 x2 x3 x5 x6 x7 x8))
        else (
          F_X12_guards_198 k77 s0 x1 x2 x3 x5 x8 x9))))
  else (
    if (x2 >>> (x10 &&& 31)) &&& (1 : Int32) = 0 then (
      F_X12_guards_156 k77 k106 s0 x1 x2 x3 x5 x6 x7 x8 x9 x10)
    else (
      oA x10 12 <|
      oC (f_X12_guarded s0 x8) fun w10 =>
      oL w10.1 fun v8 => oL w10.2 fun s9 =>
      oC (f_X12_flees s9 (s0.2.1 13 (Int32.toNatClampNeg x10)) x3 v8) fun w13 =>
      oL w13 fun s12 =>
      oL (jmax x9 (s12.1 30)) fun y14 =>
      F_X12_guards_156 k77 k106 s12 x1 x2 x3 x5 x6 x7 x8 y14 x10))
set_option maxHeartbeats 4000000 in
set_option maxRecDepth 100000 in
theorem T_X12_guards_106_b {r : Int32} {z1 : St} {k77 : St → Int32 → Int32 → Int32 → Int32 → Int32 → Int32 → Int32 → Option (Int32 × St)} {k106 : St → Int32 → Int32 → Int32 → Int32 → Int32 → Int32 → Int32 → Int32 → Int32 → Option (Int32 × St)} (C : Cx p rm_X12_guards s m args c D A cX12_guards 11 RX12 rm_X12_guards N) (hE : En p l e rm_X12_guards s m args below meth c Q D A cX12_guards .ireturn (wR N z1) [.int r]) (hk77 : ∀ (s0 : St) (x1 : Int32) (x2 : Int32) (x3 : Int32) (x5 : Int32) (x6 : Int32) (x7 : Int32) (x8 : Int32), k77 s0 x1 x2 x3 x5 x6 x7 x8 = some (r, z1) → Aw p l e rm_X12_guards s m args below meth c Q D A 11 (wR N s0) 77 [(0, .ref (N.1 0)), (1, .int x1), (2, .int x2), (3, .int x3), (5, .int x5), (6, .int x6), (7, .int x7), (8, .int x8)] []) (hk106 : ∀ (s0 : St) (x1 : Int32) (x2 : Int32) (x3 : Int32) (x5 : Int32) (x6 : Int32) (x7 : Int32) (x8 : Int32) (x9 : Int32) (x10 : Int32), k106 s0 x1 x2 x3 x5 x6 x7 x8 x9 x10 = some (r, z1) → Aw p l e rm_X12_guards s m args below meth c Q D A 11 (wR N s0) 106 [(0, .ref (N.1 0)), (1, .int x1), (2, .int x2), (3, .int x3), (5, .int x5), (6, .int x6), (7, .int x7), (8, .int x8), (9, .int x9), (10, .int x10)] []) (s0 : St) (x1 : Int32) (x2 : Int32) (x3 : Int32) (x5 : Int32) (x6 : Int32) (x7 : Int32) (x8 : Int32) (x9 : Int32) (x10 : Int32) (h : F_X12_guards_106_b k77 k106 s0 x1 x2 x3 x5 x6 x7 x8 x9 x10 = some (r, z1)) : Aw p l e rm_X12_guards s m args below meth c Q D A 11 (wR N s0) 106 [(0, .ref (N.1 0)), (1, .int x1), (2, .int x2), (3, .int x3), (5, .int x5), (6, .int x6), (7, .int x7), (8, .int x8), (9, .int x9), (10, .int x10)] [] := by
  unfold F_X12_guards_106_b at h
  refine aw_iload C 9 dX12_guards_106 rfl ?_
  refine aw_aload_n C 0 dX12_guards_108 rfl ?_
  refine rg_md_drafts C lw_9_14 dX12_guards_109 ?_
  refine aw_icmp_ge (tgt := 162) C dX12_guards_112 (by decide) (fun q => ?_) (fun q => ?_)
  · have h := bq_t q h
    refine aw_iload C 5 dX12_guards_162 rfl ?_
    refine aw_iconst (v := -1) C dX12_guards_164 (by decide) ?_
    refine aw_icmp_eq (tgt := 198) C dX12_guards_165 (by decide) (fun q => ?_) (fun q => ?_)
    · have h := bq_t q h
      refine aw_sub (lv' := [(0, .ref (N.1 0)), (1, .int x1), (2, .int x2), (3, .int x3), (5, .int x5), (8, .int x8), (9, .int x9)]) [0, 1, 2, 3, 4, 7, 8] rfl ?_
      exact T_X12_guards_198 C hE hk77 s0 x1 x2 x3 x5 x8 x9 h
    · have h := bq_f q h
      refine aw_iload C 8 dX12_guards_168 rfl ?_
      refine aw_iload C 6 dX12_guards_170 rfl ?_
      refine aw_icmp_gt (tgt := 206) C dX12_guards_172 (by decide) (fun q => ?_) (fun q => ?_)
      · have h := bq_t q h
        refine aw_sub (lv' := [(0, .ref (N.1 0)), (1, .int x1), (2, .int x2), (3, .int x3), (5, .int x5), (6, .int x6), (7, .int x7), (8, .int x8)]) [0, 1, 2, 3, 4, 5, 6, 7] rfl ?_
        exact T_X12_guards_206 C hE hk77 s0 x1 x2 x3 x5 x6 x7 x8 h
      · have h := bq_f q h
        refine aw_iload C 8 dX12_guards_175 rfl ?_
        refine aw_iload C 6 dX12_guards_177 rfl ?_
        refine aw_icmp_ne (tgt := 198) C dX12_guards_179 (by decide) (fun q => ?_) (fun q => ?_)
        · have h := bq_f q h
          refine aw_sub (lv' := [(0, .ref (N.1 0)), (1, .int x1), (2, .int x2), (3, .int x3), (5, .int x5), (8, .int x8), (9, .int x9)]) [0, 1, 2, 3, 4, 7, 8] rfl ?_
          exact T_X12_guards_198 C hE hk77 s0 x1 x2 x3 x5 x8 x9 h
        · have h := bq_t q h
          refine aw_iload C 7 dX12_guards_182 rfl ?_
          obtain ⟨⟨v1, s2⟩, cw3, h⟩ := oC_e h
          have h := oL_e (x := s2) rfl (oL_e (x := v1) rfl h)
          refine aw_callSi (n := 1) (As := [.int x8]) (rest := []) C (c_X12_bits l D N s0 s2 x8 v1 cw3) lw_35_14 lw_35_15 lw_1_5 lw_35_16 rfl rfl (by decide +kernel) ⟨Nat.le_of_ble_eq_true rfl, Nat.le_of_ble_eq_true rfl⟩ rfl rfl (Nat.le_of_ble_eq_true rfl) dX12_guards_184 ?_
          refine aw_iload C 5 dX12_guards_187 rfl ?_
          obtain ⟨⟨v4, s5⟩, cw6, h⟩ := oC_e h
          have h := oL_e (x := s5) rfl (oL_e (x := v4) rfl h)
          refine aw_callSi (n := 1) (As := [.int x6]) (rest := [.int v1]) C (c_X12_bits l D N s2 s5 x6 v4 cw6) lw_35_14 lw_35_15 lw_1_5 lw_35_16 rfl rfl (by decide +kernel) ⟨Nat.le_of_ble_eq_true rfl, Nat.le_of_ble_eq_true rfl⟩ rfl rfl (Nat.le_of_ble_eq_true rfl) dX12_guards_189 ?_
          refine aw_icmp_lt (tgt := 198) C dX12_guards_192 (by decide) (fun q => ?_) (fun q => ?_)
          · have h := bq_t q h
            refine aw_sub (lv' := [(0, .ref (N.1 0)), (1, .int x1), (2, .int x2), (3, .int x3), (5, .int x5), (8, .int x8), (9, .int x9)]) [0, 1, 2, 3, 4, 7, 8] rfl ?_
            exact T_X12_guards_198 C hE hk77 s5 x1 x2 x3 x5 x8 x9 h
          · have h := bq_f q h
            refine aw_goto (tgt := 206) C dX12_guards_195 (by decide) ?_
            refine aw_sub (lv' := [(0, .ref (N.1 0)), (1, .int x1), (2, .int x2), (3, .int x3), (5, .int x5), (6, .int x6), (7, .int x7), (8, .int x8)]) [0, 1, 2, 3, 4, 5, 6, 7] rfl ?_
            exact T_X12_guards_206 C hE hk77 s5 x1 x2 x3 x5 x6 x7 x8 h
  · have h := bq_f q h
    refine aw_iload_n C 2 dX12_guards_115 rfl ?_
    refine aw_iload C 9 dX12_guards_116 rfl ?_
    refine aw_ishr C dX12_guards_118 ?_
    refine aw_iconst (v := 1) C dX12_guards_119 (by decide) ?_
    refine aw_iand C dX12_guards_120 ?_
    refine aw_if_ne (tgt := 127) C dX12_guards_121 (by decide) (fun q => ?_) (fun q => ?_)
    · have h := bq_f q h
      refine aw_aload_n C 0 dX12_guards_127 rfl ?_
      refine aw_aload_n C 0 dX12_guards_128 rfl ?_
      refine rg_md_draftLine C lw_8_14 dX12_guards_129 ?_
      refine aw_iload C 9 dX12_guards_132 rfl ?_
      obtain ⟨q7, h⟩ := oA_e h
      refine ra_iald (k := 13) C (by decide) rfl q7 dX12_guards_134 ?_
      refine aw_iload_n C 3 dX12_guards_135 rfl ?_
      refine aw_aload_n C 0 dX12_guards_136 rfl ?_
      refine aw_iload C 7 dX12_guards_137 rfl ?_
      obtain ⟨⟨v8, s9⟩, cw10, h⟩ := oC_e h
      have h := oL_e (x := s9) rfl (oL_e (x := v8) rfl h)
      refine aw_callVi (n := 1) (As := [.int x8]) (rest := [.int x3, .int (s0.2.1 13 (Int32.toNatClampNeg x10)), .ref (N.1 0)]) (q0 := 0) C (c_X12_guarded l D N s0 s9 x8 v8 cw10) lw_50_13 lw_50_14 lw_50_15 lw_1_5 lw_50_16 rfl rfl (by decide +kernel) ⟨Nat.le_of_ble_eq_true rfl, Nat.le_of_ble_eq_true rfl⟩ rfl rfl rfl rfl rfl (Nat.le_of_ble_eq_true rfl) dX12_guards_139 ?_
      obtain ⟨s12, cw13, h⟩ := oC_e h
      have h := oL_e (x := s12) rfl h
      refine aw_callVv (n := 3) (As := [.int (s0.2.1 13 (Int32.toNatClampNeg x10)), .int x3, .int v8]) (rest := []) (q0 := 0) C (c_X12_flees l D N s9 s12 (s0.2.1 13 (Int32.toNatClampNeg x10)) x3 v8 cw13) lw_50_17 lw_50_18 lw_50_19 lw_1_5 lw_50_20 rfl rfl (by decide +kernel) ⟨Nat.le_of_ble_eq_true rfl, Nat.le_of_ble_eq_true rfl⟩ rfl rfl rfl rfl rfl (Nat.le_of_ble_eq_true rfl) dX12_guards_142 ?_
      refine aw_iload C 8 dX12_guards_145 rfl ?_
      refine aw_aload_n C 0 dX12_guards_147 rfl ?_
      refine rg_md_lost C lw_50_12 dX12_guards_148 ?_
      refine aw_mmax C lw_29_15 lw_28_13 (by decide +kernel) lw_28_14 (Nat.le_of_ble_eq_true rfl) (Nat.le_of_ble_eq_true rfl) dX12_guards_151 ?_
      refine aw_topi (fun y14 ey14 => ?_)
      have h := oL_e ey14 h
      refine aw_istore (lv' := [(0, .ref (N.1 0)), (1, .int x1), (2, .int x2), (3, .int x3), (5, .int x5), (6, .int x6), (7, .int x7), (8, .int x8), (9, .int y14), (10, .int x10)]) C [1, 2, 3, 4, 5, 6, 7, 8, 0, 9] dX12_guards_154 (by decide) rfl ?_
      refine aw_sub (lv' := [(0, .ref (N.1 0)), (1, .int x1), (2, .int x2), (3, .int x3), (5, .int x5), (6, .int x6), (7, .int x7), (8, .int x8), (9, .int y14), (10, .int x10)]) [0, 1, 2, 3, 4, 5, 6, 7, 8, 9] rfl ?_
      exact T_X12_guards_156 C hE hk77 hk106 s12 x1 x2 x3 x5 x6 x7 x8 y14 x10 h
    · have h := bq_t q h
      refine aw_goto (tgt := 156) C dX12_guards_124 (by decide) ?_
      refine aw_sub (lv' := [(0, .ref (N.1 0)), (1, .int x1), (2, .int x2), (3, .int x3), (5, .int x5), (6, .int x6), (7, .int x7), (8, .int x8), (9, .int x9), (10, .int x10)]) [0, 1, 2, 3, 4, 5, 6, 7, 8, 9] rfl ?_
      exact T_X12_guards_156 C hE hk77 hk106 s0 x1 x2 x3 x5 x6 x7 x8 x9 x10 h
def F_X12_guards_106 (k77 : St → Int32 → Int32 → Int32 → Int32 → Int32 → Int32 → Int32 → Option (Int32 × St)) : Nat → St → Int32 → Int32 → Int32 → Int32 → Int32 → Int32 → Int32 → Int32 → Int32 → Option (Int32 × St)
  | 0 => fun _ _ _ _ _ _ _ _ _ _ => none
  | n + 1 => F_X12_guards_106_b k77 (F_X12_guards_106 k77 n)
theorem T_X12_guards_106 {r : Int32} {z1 : St} {k77 : St → Int32 → Int32 → Int32 → Int32 → Int32 → Int32 → Int32 → Option (Int32 × St)} (C : Cx p rm_X12_guards s m args c D A cX12_guards 11 RX12 rm_X12_guards N) (hE : En p l e rm_X12_guards s m args below meth c Q D A cX12_guards .ireturn (wR N z1) [.int r]) (hk77 : ∀ (s0 : St) (x1 : Int32) (x2 : Int32) (x3 : Int32) (x5 : Int32) (x6 : Int32) (x7 : Int32) (x8 : Int32), k77 s0 x1 x2 x3 x5 x6 x7 x8 = some (r, z1) → Aw p l e rm_X12_guards s m args below meth c Q D A 11 (wR N s0) 77 [(0, .ref (N.1 0)), (1, .int x1), (2, .int x2), (3, .int x3), (5, .int x5), (6, .int x6), (7, .int x7), (8, .int x8)] []) : ∀ (n : Nat) (s0 : St) (x1 : Int32) (x2 : Int32) (x3 : Int32) (x5 : Int32) (x6 : Int32) (x7 : Int32) (x8 : Int32) (x9 : Int32) (x10 : Int32), F_X12_guards_106 k77 n s0 x1 x2 x3 x5 x6 x7 x8 x9 x10 = some (r, z1) → Aw p l e rm_X12_guards s m args below meth c Q D A 11 (wR N s0) 106 [(0, .ref (N.1 0)), (1, .int x1), (2, .int x2), (3, .int x3), (5, .int x5), (6, .int x6), (7, .int x7), (8, .int x8), (9, .int x9), (10, .int x10)] [] := by
  intro n
  induction n with
  | zero => intro s0 x1 x2 x3 x5 x6 x7 x8 x9 x10 h; cases h
  | succ n ih => intro s0 x1 x2 x3 x5 x6 x7 x8 x9 x10 h; exact T_X12_guards_106_b C hE hk77 ih s0 x1 x2 x3 x5 x6 x7 x8 x9 x10 h
def F_X12_guards_77_b (k77 : St → Int32 → Int32 → Int32 → Int32 → Int32 → Int32 → Int32 → Option (Int32 × St)) (s0 : St) (x1 : Int32) (x2 : Int32) (x3 : Int32) (x5 : Int32) (x6 : Int32) (x7 : Int32) (x8 : Int32) : Option (Int32 × St) :=
  if (1 : Int32) <<< ((s0.1 26) &&& 31) ≤ x8 then (
    if x5 = 0 then (
      F_X12_guards_224 s0 x6)
    else (
      F_X12_guards_224 s0 x7))
  else (
    oC (f_X12_bits s0 x8) fun w3 =>
    oL w3.1 fun v1 => oL w3.2 fun s2 =>
    if v1 ≤ x1 then (
      oL (0 : Int32) fun y4 =>
      oL (0 : Int32) fun y5 =>
      F_X12_guards_106 k77 100000 s2 x1 x2 x3 x5 x6 x7 x8 y4 y5)
    else (
      F_X12_guards_206 k77 s2 x1 x2 x3 x5 x6 x7 x8))
set_option maxHeartbeats 4000000 in
set_option maxRecDepth 100000 in
theorem T_X12_guards_77_b {r : Int32} {z1 : St} {k77 : St → Int32 → Int32 → Int32 → Int32 → Int32 → Int32 → Int32 → Option (Int32 × St)} (C : Cx p rm_X12_guards s m args c D A cX12_guards 11 RX12 rm_X12_guards N) (hE : En p l e rm_X12_guards s m args below meth c Q D A cX12_guards .ireturn (wR N z1) [.int r]) (hk77 : ∀ (s0 : St) (x1 : Int32) (x2 : Int32) (x3 : Int32) (x5 : Int32) (x6 : Int32) (x7 : Int32) (x8 : Int32), k77 s0 x1 x2 x3 x5 x6 x7 x8 = some (r, z1) → Aw p l e rm_X12_guards s m args below meth c Q D A 11 (wR N s0) 77 [(0, .ref (N.1 0)), (1, .int x1), (2, .int x2), (3, .int x3), (5, .int x5), (6, .int x6), (7, .int x7), (8, .int x8)] []) (s0 : St) (x1 : Int32) (x2 : Int32) (x3 : Int32) (x5 : Int32) (x6 : Int32) (x7 : Int32) (x8 : Int32) (h : F_X12_guards_77_b k77 s0 x1 x2 x3 x5 x6 x7 x8 = some (r, z1)) : Aw p l e rm_X12_guards s m args below meth c Q D A 11 (wR N s0) 77 [(0, .ref (N.1 0)), (1, .int x1), (2, .int x2), (3, .int x3), (5, .int x5), (6, .int x6), (7, .int x7), (8, .int x8)] [] := by
  unfold F_X12_guards_77_b at h
  refine aw_iload C 7 dX12_guards_77 rfl ?_
  refine aw_iconst (v := 1) C dX12_guards_79 (by decide) ?_
  refine aw_aload_n C 0 dX12_guards_80 rfl ?_
  refine rg_md_candidates C lw_9_15 dX12_guards_81 ?_
  refine aw_ishl C dX12_guards_84 ?_
  refine aw_icmp_ge (tgt := 212) C dX12_guards_85 (by decide) (fun q => ?_) (fun q => ?_)
  · have h := bq_t q h
    refine aw_iload C 4 dX12_guards_212 rfl ?_
    refine aw_if_ne (tgt := 222) C dX12_guards_214 (by decide) (fun q => ?_) (fun q => ?_)
    · have h := bq_f q h
      refine aw_iload C 6 dX12_guards_222 rfl ?_
      refine aw_sub (lv' := []) [] rfl ?_
      exact T_X12_guards_224 C hE s0 x7 h
    · have h := bq_t q h
      refine aw_iload C 5 dX12_guards_217 rfl ?_
      refine aw_goto (tgt := 224) C dX12_guards_219 (by decide) ?_
      refine aw_sub (lv' := []) [] rfl ?_
      exact T_X12_guards_224 C hE s0 x6 h
  · have h := bq_f q h
    refine aw_iload C 7 dX12_guards_88 rfl ?_
    obtain ⟨⟨v1, s2⟩, cw3, h⟩ := oC_e h
    have h := oL_e (x := s2) rfl (oL_e (x := v1) rfl h)
    refine aw_callSi (n := 1) (As := [.int x8]) (rest := []) C (c_X12_bits l D N s0 s2 x8 v1 cw3) lw_35_14 lw_35_15 lw_1_5 lw_35_16 rfl rfl (by decide +kernel) ⟨Nat.le_of_ble_eq_true rfl, Nat.le_of_ble_eq_true rfl⟩ rfl rfl (Nat.le_of_ble_eq_true rfl) dX12_guards_90 ?_
    refine aw_iload_n C 1 dX12_guards_93 rfl ?_
    refine aw_icmp_le (tgt := 100) C dX12_guards_94 (by decide) (fun q => ?_) (fun q => ?_)
    · have h := bq_t q h
      refine aw_iconst (v := 0) C dX12_guards_100 (by decide) ?_
      refine aw_topi (fun y4 ey4 => ?_)
      have h := oL_e ey4 h
      refine aw_istore (lv' := [(0, .ref (N.1 0)), (1, .int x1), (2, .int x2), (3, .int x3), (5, .int x5), (6, .int x6), (7, .int x7), (8, .int x8), (9, .int y4)]) C [1, 2, 3, 4, 5, 6, 7, 8, 0] dX12_guards_101 (by decide) rfl ?_
      refine aw_iconst (v := 0) C dX12_guards_103 (by decide) ?_
      refine aw_topi (fun y5 ey5 => ?_)
      have h := oL_e ey5 h
      refine aw_istore (lv' := [(0, .ref (N.1 0)), (1, .int x1), (2, .int x2), (3, .int x3), (5, .int x5), (6, .int x6), (7, .int x7), (8, .int x8), (9, .int y4), (10, .int y5)]) C [1, 2, 3, 4, 5, 6, 7, 8, 9, 0] dX12_guards_104 (by decide) rfl ?_
      refine aw_sub (lv' := [(0, .ref (N.1 0)), (1, .int x1), (2, .int x2), (3, .int x3), (5, .int x5), (6, .int x6), (7, .int x7), (8, .int x8), (9, .int y4), (10, .int y5)]) [0, 1, 2, 3, 4, 5, 6, 7, 8, 9] rfl ?_
      exact T_X12_guards_106 C hE hk77 100000 s2 x1 x2 x3 x5 x6 x7 x8 y4 y5 h
    · have h := bq_f q h
      refine aw_goto (tgt := 206) C dX12_guards_97 (by decide) ?_
      refine aw_sub (lv' := [(0, .ref (N.1 0)), (1, .int x1), (2, .int x2), (3, .int x3), (5, .int x5), (6, .int x6), (7, .int x7), (8, .int x8)]) [0, 1, 2, 3, 4, 5, 6, 7] rfl ?_
      exact T_X12_guards_206 C hE hk77 s2 x1 x2 x3 x5 x6 x7 x8 h
def F_X12_guards_77 : Nat → St → Int32 → Int32 → Int32 → Int32 → Int32 → Int32 → Int32 → Option (Int32 × St)
  | 0 => fun _ _ _ _ _ _ _ _ => none
  | n + 1 => F_X12_guards_77_b (F_X12_guards_77 n)
theorem T_X12_guards_77 {r : Int32} {z1 : St} (C : Cx p rm_X12_guards s m args c D A cX12_guards 11 RX12 rm_X12_guards N) (hE : En p l e rm_X12_guards s m args below meth c Q D A cX12_guards .ireturn (wR N z1) [.int r])  : ∀ (n : Nat) (s0 : St) (x1 : Int32) (x2 : Int32) (x3 : Int32) (x5 : Int32) (x6 : Int32) (x7 : Int32) (x8 : Int32), F_X12_guards_77 n s0 x1 x2 x3 x5 x6 x7 x8 = some (r, z1) → Aw p l e rm_X12_guards s m args below meth c Q D A 11 (wR N s0) 77 [(0, .ref (N.1 0)), (1, .int x1), (2, .int x2), (3, .int x3), (5, .int x5), (6, .int x6), (7, .int x7), (8, .int x8)] [] := by
  intro n
  induction n with
  | zero => intro s0 x1 x2 x3 x5 x6 x7 x8 h; cases h
  | succ n ih => intro s0 x1 x2 x3 x5 x6 x7 x8 h; exact T_X12_guards_77_b C hE ih s0 x1 x2 x3 x5 x6 x7 x8 h
def F_X12_guards_0 (s0 : St) (x1 : Int32) (x2 : Int32) (x3 : Int32) (x4 : Int32) (x5 : Int32) : Option (Int32 × St) :=
  oL (sI s0 0 (0 : Int32)) fun s1 =>
  if x1 < 0 then (
    F_X12_guards_60 s1)
  else (
    if (8 : Int32) < x1 then (
      F_X12_guards_60 s1)
    else (
      if x2 < (1 : Int32) then (
        F_X12_guards_60 s1)
      else (
        if (1 : Int32) <<< ((s1.1 25) &&& 31) ≤ x2 then (
          F_X12_guards_60 s1)
        else (
          if x3 < (1 : Int32) then (
            F_X12_guards_60 s1)
          else (
            if (20 : Int32) < x3 then (
              F_X12_guards_60 s1)
            else (
              oC (f_X12_isDay s1 x4) fun w4 =>
              oL w4.1 fun v2 => oL w4.2 fun s3 =>
              if v2 = 0 then (
                F_X12_guards_60 s3)
              else (
                if x5 < 0 then (
                  F_X12_guards_60 s3)
                else (
                  if x5 ≤ (1 : Int32) then (
                    oC (f_X12_reckons s3 x4) fun w7 =>
                    oL w7 fun s6 =>
                    oL (-1 : Int32) fun y8 =>
                    oL (0 : Int32) fun y9 =>
                    oL (0 : Int32) fun y10 =>
                    F_X12_guards_77 100000 s6 x1 x2 x3 x5 y8 y9 y10)
                  else (
                    F_X12_guards_60 s3)))))))))
set_option maxHeartbeats 4000000 in
set_option maxRecDepth 100000 in
theorem T_X12_guards_0 {r : Int32} {z1 : St} (C : Cx p rm_X12_guards s m args c D A cX12_guards 11 RX12 rm_X12_guards N) (hE : En p l e rm_X12_guards s m args below meth c Q D A cX12_guards .ireturn (wR N z1) [.int r])  (s0 : St) (x1 : Int32) (x2 : Int32) (x3 : Int32) (x4 : Int32) (x5 : Int32) (h : F_X12_guards_0 s0 x1 x2 x3 x4 x5 = some (r, z1)) : Aw p l e rm_X12_guards s m args below meth c Q D A 11 (wR N s0) 0 [(0, .ref (N.1 0)), (1, .int x1), (2, .int x2), (3, .int x3), (4, .int x4), (5, .int x5)] [] := by
  unfold F_X12_guards_0 at h
  refine aw_aload_n C 0 dX12_guards_0 rfl ?_
  refine aw_iconst (v := 0) C dX12_guards_1 (by decide) ?_
  refine rp_md_thrown C lw_10_11 dX12_guards_2 ?_
  refine ra_name (fun s1 es1 => ?_)
  have h := oL_e es1 h
  refine aw_iload_n C 1 dX12_guards_5 rfl ?_
  refine aw_if_lt (tgt := 60) C dX12_guards_6 (by decide) (fun q => ?_) (fun q => ?_)
  · have h := bq_t q h
    refine aw_sub (lv' := []) [] rfl ?_
    exact T_X12_guards_60 C hE s1 h
  · have h := bq_f q h
    refine aw_iload_n C 1 dX12_guards_9 rfl ?_
    refine aw_bipush (v := 8) C dX12_guards_10 (by decide) ?_
    refine aw_icmp_gt (tgt := 60) C dX12_guards_12 (by decide) (fun q => ?_) (fun q => ?_)
    · have h := bq_t q h
      refine aw_sub (lv' := []) [] rfl ?_
      exact T_X12_guards_60 C hE s1 h
    · have h := bq_f q h
      refine aw_iload_n C 2 dX12_guards_15 rfl ?_
      refine aw_iconst (v := 1) C dX12_guards_16 (by decide) ?_
      refine aw_icmp_lt (tgt := 60) C dX12_guards_17 (by decide) (fun q => ?_) (fun q => ?_)
      · have h := bq_t q h
        refine aw_sub (lv' := []) [] rfl ?_
        exact T_X12_guards_60 C hE s1 h
      · have h := bq_f q h
        refine aw_iload_n C 2 dX12_guards_20 rfl ?_
        refine aw_iconst (v := 1) C dX12_guards_21 (by decide) ?_
        refine aw_aload_n C 0 dX12_guards_22 rfl ?_
        refine rg_md_drafts C lw_9_14 dX12_guards_23 ?_
        refine aw_ishl C dX12_guards_26 ?_
        refine aw_icmp_ge (tgt := 60) C dX12_guards_27 (by decide) (fun q => ?_) (fun q => ?_)
        · have h := bq_t q h
          refine aw_sub (lv' := []) [] rfl ?_
          exact T_X12_guards_60 C hE s1 h
        · have h := bq_f q h
          refine aw_iload_n C 3 dX12_guards_30 rfl ?_
          refine aw_iconst (v := 1) C dX12_guards_31 (by decide) ?_
          refine aw_icmp_lt (tgt := 60) C dX12_guards_32 (by decide) (fun q => ?_) (fun q => ?_)
          · have h := bq_t q h
            refine aw_sub (lv' := []) [] rfl ?_
            exact T_X12_guards_60 C hE s1 h
          · have h := bq_f q h
            refine aw_iload_n C 3 dX12_guards_35 rfl ?_
            refine aw_bipush (v := 20) C dX12_guards_36 (by decide) ?_
            refine aw_icmp_gt (tgt := 60) C dX12_guards_38 (by decide) (fun q => ?_) (fun q => ?_)
            · have h := bq_t q h
              refine aw_sub (lv' := []) [] rfl ?_
              exact T_X12_guards_60 C hE s1 h
            · have h := bq_f q h
              refine aw_iload C 4 dX12_guards_41 rfl ?_
              obtain ⟨⟨v2, s3⟩, cw4, h⟩ := oC_e h
              have h := oL_e (x := s3) rfl (oL_e (x := v2) rfl h)
              refine aw_callSi (n := 1) (As := [.int x4]) (rest := []) C (c_X12_isDay l D N s1 s3 x4 v2 cw4) lw_29_4 lw_29_5 lw_1_5 lw_29_6 rfl rfl (by decide +kernel) ⟨Nat.le_of_ble_eq_true rfl, Nat.le_of_ble_eq_true rfl⟩ rfl rfl (Nat.le_of_ble_eq_true rfl) dX12_guards_43 ?_
              refine aw_if_eq (tgt := 60) C dX12_guards_46 (by decide) (fun q => ?_) (fun q => ?_)
              · have h := bq_t q h
                refine aw_sub (lv' := []) [] rfl ?_
                exact T_X12_guards_60 C hE s3 h
              · have h := bq_f q h
                refine aw_iload C 5 dX12_guards_49 rfl ?_
                refine aw_if_lt (tgt := 60) C dX12_guards_51 (by decide) (fun q => ?_) (fun q => ?_)
                · have h := bq_t q h
                  refine aw_sub (lv' := []) [] rfl ?_
                  exact T_X12_guards_60 C hE s3 h
                · have h := bq_f q h
                  refine aw_iload C 5 dX12_guards_54 rfl ?_
                  refine aw_iconst (v := 1) C dX12_guards_56 (by decide) ?_
                  refine aw_icmp_le (tgt := 62) C dX12_guards_57 (by decide) (fun q => ?_) (fun q => ?_)
                  · have h := bq_t q h
                    refine aw_aload_n C 0 dX12_guards_62 rfl ?_
                    refine aw_iload C 4 dX12_guards_63 rfl ?_
                    obtain ⟨s6, cw7, h⟩ := oC_e h
                    have h := oL_e (x := s6) rfl h
                    refine aw_callVv (n := 1) (As := [.int x4]) (rest := []) (q0 := 0) C (c_X12_reckons l D N s3 s6 x4 cw7) lw_33_17 lw_33_18 lw_33_19 lw_1_5 lw_33_20 rfl rfl (by decide +kernel) ⟨Nat.le_of_ble_eq_true rfl, Nat.le_of_ble_eq_true rfl⟩ rfl rfl rfl rfl rfl (Nat.le_of_ble_eq_true rfl) dX12_guards_65 ?_
                    refine aw_iconst (v := -1) C dX12_guards_68 (by decide) ?_
                    refine aw_topi (fun y8 ey8 => ?_)
                    have h := oL_e ey8 h
                    refine aw_istore (lv' := [(0, .ref (N.1 0)), (1, .int x1), (2, .int x2), (3, .int x3), (4, .int x4), (5, .int x5), (6, .int y8)]) C [1, 2, 3, 4, 5, 6, 0] dX12_guards_69 (by decide) rfl ?_
                    refine aw_iconst (v := 0) C dX12_guards_71 (by decide) ?_
                    refine aw_topi (fun y9 ey9 => ?_)
                    have h := oL_e ey9 h
                    refine aw_istore (lv' := [(0, .ref (N.1 0)), (1, .int x1), (2, .int x2), (3, .int x3), (4, .int x4), (5, .int x5), (6, .int y8), (7, .int y9)]) C [1, 2, 3, 4, 5, 6, 7, 0] dX12_guards_72 (by decide) rfl ?_
                    refine aw_iconst (v := 0) C dX12_guards_74 (by decide) ?_
                    refine aw_topi (fun y10 ey10 => ?_)
                    have h := oL_e ey10 h
                    refine aw_istore (lv' := [(0, .ref (N.1 0)), (1, .int x1), (2, .int x2), (3, .int x3), (4, .int x4), (5, .int x5), (6, .int y8), (7, .int y9), (8, .int y10)]) C [1, 2, 3, 4, 5, 6, 7, 8, 0] dX12_guards_75 (by decide) rfl ?_
                    refine aw_sub (lv' := [(0, .ref (N.1 0)), (1, .int x1), (2, .int x2), (3, .int x3), (5, .int x5), (6, .int y8), (7, .int y9), (8, .int y10)]) [0, 1, 2, 3, 5, 6, 7, 8] rfl ?_
                    exact T_X12_guards_77 C hE 100000 s6 x1 x2 x3 x5 y8 y9 y10 h
                  · have h := bq_f q h
                    refine aw_sub (lv' := []) [] rfl ?_
                    exact T_X12_guards_60 C hE s3 h
def f_X12_guards (s0 : St) (x1 : Int32) (x2 : Int32) (x3 : Int32) (x4 : Int32) (x5 : Int32) : Option (Int32 × St) := F_X12_guards_0 s0 x1 x2 x3 x4 x5
theorem c_X12_guards (l : Launch) (D : va_G) (N : Nm) (s0 z1 : St) (x1 : Int32) (x2 : Int32) (x3 : Int32) (x4 : Int32) (x5 : Int32) (r : Int32) (h : f_X12_guards s0 x1 x2 x3 x4 x5 = some (r, z1)) : Meti l yX12_guards (tsU yX12_guards cX12_guards 11 (some .int)) rm_X12_guards D N [.ref (N.1 0), .int x1, .int x2, .int x3, .int x4, .int x5] (wR N s0) r (wR N z1) :=
  met_i (cc := cX12_guards) (nL := 11) (own := RX12) (by decide) rfl (Nat.le_of_ble_eq_true rfl) (fun p e s m args below meth c Q A C hE => aw_sub [0, 1, 2, 3, 4, 5] rfl (T_X12_guards_0 C hE s0 x1 x2 x3 x4 x5 h))
/-! AwardLineModel.counted(I)I -/
def rm_X12_counted : Room := { frames := 1, cells := 0, slots := 0, locals := 20 }
def F_X12_counted_0 (s0 : St) (x1 : Int32) : Option (Int32 × St) :=
  oL (sI s0 0 (0 : Int32)) fun s1 =>
  if x1 = 0 then (
    some ((s1.1 21), s1))
  else (
  if x1 = 1 then (
    oC (f_X12_cells s1) fun w4 =>
    oL w4.1 fun v2 => oL w4.2 fun s3 =>
    some (v2, s3))
  else (
  if x1 = 2 then (
    some ((s1.1 27), s1))
  else (
  if x1 = 3 then (
    some ((s1.1 24), s1))
  else (
  if x1 = 4 then (
    some ((s1.1 25), s1))
  else (
  if x1 = 5 then (
    some ((s1.1 26), s1))
  else (
  if x1 = 6 then (
    some ((s1.1 19), s1))
  else (
  if x1 = 7 then (
    oA (4 : Int32) 12 <|
    some ((s1.2.1 3 (Int32.toNatClampNeg (4 : Int32))), s1))
  else (
  if x1 = 8 then (
    oA (5 : Int32) 12 <|
    some ((s1.2.1 3 (Int32.toNatClampNeg (5 : Int32))), s1))
  else (
    some ((-1 : Int32), s1))))))))))
set_option maxHeartbeats 4000000 in
set_option maxRecDepth 100000 in
theorem T_X12_counted_0 {r : Int32} {z1 : St} (C : Cx p rm_X12_counted s m args c D A cX12_counted 2 RX12 rm_X12_counted N) (hE : En p l e rm_X12_counted s m args below meth c Q D A cX12_counted .ireturn (wR N z1) [.int r])  (s0 : St) (x1 : Int32) (h : F_X12_counted_0 s0 x1 = some (r, z1)) : Aw p l e rm_X12_counted s m args below meth c Q D A 2 (wR N s0) 0 [(0, .ref (N.1 0)), (1, .int x1)] [] := by
  unfold F_X12_counted_0 at h
  refine aw_aload_n C 0 dX12_counted_0 rfl ?_
  refine aw_iconst (v := 0) C dX12_counted_1 (by decide) ?_
  refine rp_md_thrown C lw_10_11 dX12_counted_2 ?_
  refine ra_name (fun s1 es1 => ?_)
  have h := oL_e es1 h
  refine aw_iload_n C 1 dX12_counted_5 rfl ?_
  by_cases q0 : x1 = (0 : Int32)
  · have h := bq_t q0 h
    refine aw_table (tgt := 56) C 50 dX12_counted_6 (by rw [q0]; decide) (by rw [q0]; decide) (by rw [q0]; decide) (by decide) ?_
    refine aw_aload_n C 0 dX12_counted_56 rfl ?_
    refine rg_md_today C lw_22_23 dX12_counted_57 ?_
    cases h
    exact aw_ret hE dX12_counted_60
  have h := bq_f q0 h
  by_cases q1 : x1 = (1 : Int32)
  · have h := bq_t q1 h
    refine aw_table (tgt := 61) C 55 dX12_counted_6 (by rw [q1]; decide) (by rw [q1]; decide) (by rw [q1]; decide) (by decide) ?_
    refine aw_aload_n C 0 dX12_counted_61 rfl ?_
    obtain ⟨⟨v2, s3⟩, cw4, h⟩ := oC_e h
    have h := oL_e (x := s3) rfl (oL_e (x := v2) rfl h)
    refine aw_callVi (n := 0) (As := []) (rest := []) (q0 := 0) C (c_X12_cells l D N s1 s3 v2 cw4) lw_23_23 lw_24_0 lw_24_1 lw_1_5 lw_24_2 rfl rfl (by decide +kernel) ⟨Nat.le_of_ble_eq_true rfl, Nat.le_of_ble_eq_true rfl⟩ rfl rfl rfl rfl rfl (Nat.le_of_ble_eq_true rfl) dX12_counted_62 ?_
    cases h
    exact aw_ret hE dX12_counted_65
  have h := bq_f q1 h
  by_cases q2 : x1 = (2 : Int32)
  · have h := bq_t q2 h
    refine aw_table (tgt := 66) C 60 dX12_counted_6 (by rw [q2]; decide) (by rw [q2]; decide) (by rw [q2]; decide) (by decide) ?_
    refine aw_aload_n C 0 dX12_counted_66 rfl ?_
    refine rg_md_notes C lw_9_16 dX12_counted_67 ?_
    cases h
    exact aw_ret hE dX12_counted_70
  have h := bq_f q2 h
  by_cases q3 : x1 = (3 : Int32)
  · have h := bq_t q3 h
    refine aw_table (tgt := 71) C 65 dX12_counted_6 (by rw [q3]; decide) (by rw [q3]; decide) (by rw [q3]; decide) (by decide) ?_
    refine aw_aload_n C 0 dX12_counted_71 rfl ?_
    refine rg_md_canals C lw_9_13 dX12_counted_72 ?_
    cases h
    exact aw_ret hE dX12_counted_75
  have h := bq_f q3 h
  by_cases q4 : x1 = (4 : Int32)
  · have h := bq_t q4 h
    refine aw_table (tgt := 76) C 70 dX12_counted_6 (by rw [q4]; decide) (by rw [q4]; decide) (by rw [q4]; decide) (by decide) ?_
    refine aw_aload_n C 0 dX12_counted_76 rfl ?_
    refine rg_md_drafts C lw_9_14 dX12_counted_77 ?_
    cases h
    exact aw_ret hE dX12_counted_80
  have h := bq_f q4 h
  by_cases q5 : x1 = (5 : Int32)
  · have h := bq_t q5 h
    refine aw_table (tgt := 81) C 75 dX12_counted_6 (by rw [q5]; decide) (by rw [q5]; decide) (by rw [q5]; decide) (by decide) ?_
    refine aw_aload_n C 0 dX12_counted_81 rfl ?_
    refine rg_md_candidates C lw_9_15 dX12_counted_82 ?_
    cases h
    exact aw_ret hE dX12_counted_85
  have h := bq_f q5 h
  by_cases q6 : x1 = (6 : Int32)
  · have h := bq_t q6 h
    refine aw_table (tgt := 86) C 80 dX12_counted_6 (by rw [q6]; decide) (by rw [q6]; decide) (by rw [q6]; decide) (by decide) ?_
    refine aw_aload_n C 0 dX12_counted_86 rfl ?_
    refine rg_md_knots C lw_18_5 dX12_counted_87 ?_
    cases h
    exact aw_ret hE dX12_counted_90
  have h := bq_f q6 h
  by_cases q7 : x1 = (7 : Int32)
  · have h := bq_t q7 h
    refine aw_table (tgt := 91) C 85 dX12_counted_6 (by rw [q7]; decide) (by rw [q7]; decide) (by rw [q7]; decide) (by decide) ?_
    refine aw_aload_n C 0 dX12_counted_91 rfl ?_
    refine rg_md_rule C lw_8_3 dX12_counted_92 ?_
    refine aw_iconst (v := 4) C dX12_counted_95 (by decide) ?_
    obtain ⟨q5, h⟩ := oA_e h
    refine ra_iald (k := 3) C (by decide) rfl q5 dX12_counted_96 ?_
    cases h
    exact aw_ret hE dX12_counted_97
  have h := bq_f q7 h
  by_cases q8 : x1 = (8 : Int32)
  · have h := bq_t q8 h
    refine aw_table (tgt := 98) C 92 dX12_counted_6 (by rw [q8]; decide) (by rw [q8]; decide) (by rw [q8]; decide) (by decide) ?_
    refine aw_aload_n C 0 dX12_counted_98 rfl ?_
    refine rg_md_rule C lw_8_3 dX12_counted_99 ?_
    refine aw_iconst (v := 5) C dX12_counted_102 (by decide) ?_
    obtain ⟨q6, h⟩ := oA_e h
    refine ra_iald (k := 3) C (by decide) rfl q6 dX12_counted_103 ?_
    cases h
    exact aw_ret hE dX12_counted_104
  have h := bq_f q8 h
  refine aw_tableO (tgt := 105) C dX12_counted_6 (by have n0 := sw_ne (k := 0) (by decide) q0; have n1 := sw_ne (k := 1) (by decide) q1; have n2 := sw_ne (k := 2) (by decide) q2; have n3 := sw_ne (k := 3) (by decide) q3; have n4 := sw_ne (k := 4) (by decide) q4; have n5 := sw_ne (k := 5) (by decide) q5; have n6 := sw_ne (k := 6) (by decide) q6; have n7 := sw_ne (k := 7) (by decide) q7; have n8 := sw_ne (k := 8) (by decide) q8; omega) (by decide) ?_
  refine aw_iconst (v := -1) C dX12_counted_105 (by decide) ?_
  cases h
  exact aw_ret hE dX12_counted_106
def f_X12_counted (s0 : St) (x1 : Int32) : Option (Int32 × St) := F_X12_counted_0 s0 x1
theorem c_X12_counted (l : Launch) (D : va_G) (N : Nm) (s0 z1 : St) (x1 : Int32) (r : Int32) (h : f_X12_counted s0 x1 = some (r, z1)) : Meti l yX12_counted (tsU yX12_counted cX12_counted 2 (some .int)) rm_X12_counted D N [.ref (N.1 0), .int x1] (wR N s0) r (wR N z1) :=
  met_i (cc := cX12_counted) (nL := 2) (own := RX12) (by decide) rfl (Nat.le_of_ble_eq_true rfl) (fun p e s m args below meth c Q A C hE => aw_sub [0, 1] rfl (T_X12_counted_0 C hE s0 x1 h))
end WK
