section WK
variable {p : Program} {l : Launch} {e : Env} {s : State} {m : MethodId} {args : Array Value} {below : List Frame} {meth : Method} {c : Code} {Q : State → Prop} {D : va_G} {A : Nat → Prop} {N : Nm}
/-! AwardLine$Rumour.hears(II)Z -/
def rm_X7_hears : Room := { frames := 0, cells := 0, slots := 0, locals := 0 }
def F_X7_hears_0 (s0 : St) (x1 : Int32) (x2 : Int32) : Option (Int32 × St) :=
  oA x1 8 <|
  if x2 < (s0.2.1 35 (Int32.toNatClampNeg x1)) then (
    oA x1 8 <|
    oL (sA s0 35 (upd (s0.2.1 35) (Int32.toNatClampNeg x1) x2)) fun s3 =>
    some ((1 : Int32), s3))
  else (
    some ((0 : Int32), s0))
set_option maxHeartbeats 4000000 in
set_option maxRecDepth 100000 in
theorem T_X7_hears_0 {r : Int32} {z1 : St} (C : Cx p rm_X7_hears s m args c D A cX7_hears 3 RX7 rm_X7_hears N) (hE : En p l e rm_X7_hears s m args below meth c Q D A cX7_hears .ireturn (wC N z1) [.int r])  (s0 : St) (x1 : Int32) (x2 : Int32) (h : F_X7_hears_0 s0 x1 x2 = some (r, z1)) : Aw p l e rm_X7_hears s m args below meth c Q D A 3 (wC N s0) 0 [(0, .ref (N.1 10)), (1, .int x1), (2, .int x2)] [] := by
  unfold F_X7_hears_0 at h
  refine aw_aload_n C 0 dX7_hears_0 rfl ?_
  refine cg_ru_since C lw_7_5 dX7_hears_1 ?_
  refine aw_iload_n C 1 dX7_hears_4 rfl ?_
  obtain ⟨q1, h⟩ := oA_e h
  refine ca_iald (k := 35) C (by decide) rfl q1 dX7_hears_5 ?_
  refine aw_iload_n C 2 dX7_hears_6 rfl ?_
  refine aw_icmp_gt (tgt := 12) C dX7_hears_7 (by decide) (fun q => ?_) (fun q => ?_)
  · have h := bq_t q h
    refine aw_aload_n C 0 dX7_hears_12 rfl ?_
    refine cg_ru_since C lw_7_5 dX7_hears_13 ?_
    refine aw_iload_n C 1 dX7_hears_16 rfl ?_
    refine aw_iload_n C 2 dX7_hears_17 rfl ?_
    obtain ⟨q2, h⟩ := oA_e h
    refine ca_iast (k := 35) C (by decide) rfl q2 dX7_hears_18 ?_
    refine ca_name (fun s3 es3 => ?_)
    have h := oL_e es3 h
    refine aw_iconst (v := 1) C dX7_hears_19 (by decide) ?_
    cases h
    exact aw_ret hE dX7_hears_20
  · have h := bq_f q h
    refine aw_iconst (v := 0) C dX7_hears_10 (by decide) ?_
    cases h
    exact aw_ret hE dX7_hears_11
def f_X7_hears (s0 : St) (x1 : Int32) (x2 : Int32) : Option (Int32 × St) := oC (F_X7_hears_0 s0 x1 x2) fun w => oZ w.1 (some w)
theorem c_X7_hears (l : Launch) (D : va_G) (N : Nm) (s0 z1 : St) (x1 : Int32) (x2 : Int32) (r : Int32) (h : f_X7_hears s0 x1 x2 = some (r, z1)) : Meti l yX7_hears (tsU yX7_hears cX7_hears 3 (some .boolean)) rm_X7_hears D N [.ref (N.1 10), .int x1, .int x2] (wC N s0) r (wC N z1) := by
  obtain ⟨w, h1, h2⟩ := oC_e h
  obtain ⟨hz, h2⟩ := oZ_e h2
  cases h2
  exact met_z (cc := cX7_hears) (nL := 3) (own := RX7) (by decide) rfl (Nat.le_of_ble_eq_true rfl) (zN hz) (fun p e s m args below meth c Q A C hE => aw_sub [0, 1, 2] rfl (T_X7_hears_0 C hE s0 x1 x2 h1))
/-! AwardLine$Rumour.tells(IIII)Z -/
def rm_X7_tells : Room := { frames := 1, cells := 0, slots := 0, locals := 22 }
def F_X7_tells_30 (s0 : St) (t0 : Int32) : Option (Int32 × St) :=
  some (t0, s0)
set_option maxHeartbeats 4000000 in
set_option maxRecDepth 100000 in
theorem T_X7_tells_30 {r : Int32} {z1 : St} (C : Cx p rm_X7_tells s m args c D A cX7_tells 5 RX7 rm_X7_tells N) (hE : En p l e rm_X7_tells s m args below meth c Q D A cX7_tells .ireturn (wC N z1) [.int r])  (s0 : St) (t0 : Int32) (h : F_X7_tells_30 s0 t0 = some (r, z1)) : Aw p l e rm_X7_tells s m args below meth c Q D A 5 (wC N s0) 30 [] [.int t0] := by
  unfold F_X7_tells_30 at h
  cases h
  exact aw_ret hE dX7_tells_30
def F_X7_tells_29 (s0 : St) : Option (Int32 × St) :=
  F_X7_tells_30 s0 (0 : Int32)
set_option maxHeartbeats 4000000 in
set_option maxRecDepth 100000 in
theorem T_X7_tells_29 {r : Int32} {z1 : St} (C : Cx p rm_X7_tells s m args c D A cX7_tells 5 RX7 rm_X7_tells N) (hE : En p l e rm_X7_tells s m args below meth c Q D A cX7_tells .ireturn (wC N z1) [.int r])  (s0 : St) (h : F_X7_tells_29 s0 = some (r, z1)) : Aw p l e rm_X7_tells s m args below meth c Q D A 5 (wC N s0) 29 [] [] := by
  unfold F_X7_tells_29 at h
  refine aw_iconst (v := 0) C dX7_tells_29 (by decide) ?_
  refine aw_sub (lv' := []) [] rfl ?_
  exact T_X7_tells_30 C hE s0 (0 : Int32) h
def F_X7_tells_0 (s0 : St) (x1 : Int32) (x2 : Int32) (x3 : Int32) (x4 : Int32) : Option (Int32 × St) :=
  if x1 = x4 then (
    F_X7_tells_29 s0)
  else (
    oA x1 8 <|
    if x3 < (s0.2.1 35 (Int32.toNatClampNeg x1)) then (
      F_X7_tells_29 s0)
    else (
      oC (f_X7_hears s0 x2 x3) fun w4 =>
      oL w4.1 fun v2 => oL w4.2 fun s3 =>
      if v2 = 0 then (
        F_X7_tells_29 s3)
      else (
        F_X7_tells_30 s3 (1 : Int32))))
set_option maxHeartbeats 4000000 in
set_option maxRecDepth 100000 in
theorem T_X7_tells_0 {r : Int32} {z1 : St} (C : Cx p rm_X7_tells s m args c D A cX7_tells 5 RX7 rm_X7_tells N) (hE : En p l e rm_X7_tells s m args below meth c Q D A cX7_tells .ireturn (wC N z1) [.int r])  (s0 : St) (x1 : Int32) (x2 : Int32) (x3 : Int32) (x4 : Int32) (h : F_X7_tells_0 s0 x1 x2 x3 x4 = some (r, z1)) : Aw p l e rm_X7_tells s m args below meth c Q D A 5 (wC N s0) 0 [(0, .ref (N.1 10)), (1, .int x1), (2, .int x2), (3, .int x3), (4, .int x4)] [] := by
  unfold F_X7_tells_0 at h
  refine aw_iload_n C 1 dX7_tells_0 rfl ?_
  refine aw_iload C 4 dX7_tells_1 rfl ?_
  refine aw_icmp_eq (tgt := 29) C dX7_tells_3 (by decide) (fun q => ?_) (fun q => ?_)
  · have h := bq_t q h
    refine aw_sub (lv' := []) [] rfl ?_
    exact T_X7_tells_29 C hE s0 h
  · have h := bq_f q h
    refine aw_aload_n C 0 dX7_tells_6 rfl ?_
    refine cg_ru_since C lw_7_5 dX7_tells_7 ?_
    refine aw_iload_n C 1 dX7_tells_10 rfl ?_
    obtain ⟨q1, h⟩ := oA_e h
    refine ca_iald (k := 35) C (by decide) rfl q1 dX7_tells_11 ?_
    refine aw_iload_n C 3 dX7_tells_12 rfl ?_
    refine aw_icmp_gt (tgt := 29) C dX7_tells_13 (by decide) (fun q => ?_) (fun q => ?_)
    · have h := bq_t q h
      refine aw_sub (lv' := []) [] rfl ?_
      exact T_X7_tells_29 C hE s0 h
    · have h := bq_f q h
      refine aw_aload_n C 0 dX7_tells_16 rfl ?_
      refine aw_iload_n C 2 dX7_tells_17 rfl ?_
      refine aw_iload_n C 3 dX7_tells_18 rfl ?_
      obtain ⟨⟨v2, s3⟩, cw4, h⟩ := oC_e h
      have h := oL_e (x := s3) rfl (oL_e (x := v2) rfl h)
      refine aw_callVi (n := 2) (As := [.int x2, .int x3]) (rest := []) (q0 := 10) C (c_X7_hears l D N s0 s3 x2 x3 v2 cw4) lw_44_15 lw_44_16 lw_44_17 lw_3_1 lw_44_18 rfl rfl (by decide +kernel) ⟨Nat.le_of_ble_eq_true rfl, Nat.le_of_ble_eq_true rfl⟩ rfl rfl rfl rfl rfl (Nat.le_of_ble_eq_true rfl) dX7_tells_19 ?_
      refine aw_if_eq (tgt := 29) C dX7_tells_22 (by decide) (fun q => ?_) (fun q => ?_)
      · have h := bq_t q h
        refine aw_sub (lv' := []) [] rfl ?_
        exact T_X7_tells_29 C hE s3 h
      · have h := bq_f q h
        refine aw_iconst (v := 1) C dX7_tells_25 (by decide) ?_
        refine aw_goto (tgt := 30) C dX7_tells_26 (by decide) ?_
        refine aw_sub (lv' := []) [] rfl ?_
        exact T_X7_tells_30 C hE s3 (1 : Int32) h
def f_X7_tells (s0 : St) (x1 : Int32) (x2 : Int32) (x3 : Int32) (x4 : Int32) : Option (Int32 × St) := oC (F_X7_tells_0 s0 x1 x2 x3 x4) fun w => oZ w.1 (some w)
theorem c_X7_tells (l : Launch) (D : va_G) (N : Nm) (s0 z1 : St) (x1 : Int32) (x2 : Int32) (x3 : Int32) (x4 : Int32) (r : Int32) (h : f_X7_tells s0 x1 x2 x3 x4 = some (r, z1)) : Meti l yX7_tells (tsU yX7_tells cX7_tells 5 (some .boolean)) rm_X7_tells D N [.ref (N.1 10), .int x1, .int x2, .int x3, .int x4] (wC N s0) r (wC N z1) := by
  obtain ⟨w, h1, h2⟩ := oC_e h
  obtain ⟨hz, h2⟩ := oZ_e h2
  cases h2
  exact met_z (cc := cX7_tells) (nL := 5) (own := RX7) (by decide) rfl (Nat.le_of_ble_eq_true rfl) (zN hz) (fun p e s m args below meth c Q A C hE => aw_sub [0, 1, 2, 3, 4] rfl (T_X7_tells_0 C hE s0 x1 x2 x3 x4 h1))
/-! AwardLine$Rumour.meetAll(I)Z -/
def rm_X7_meetAll : Room := { frames := 2, cells := 0, slots := 0, locals := 46 }
def F_X7_meetAll_97 (k4 : St → Int32 → Int32 → Int32 → Option (Int32 × St)) (s0 : St) (x1 : Int32) (x2 : Int32) (x3 : Int32) : Option (Int32 × St) :=
  oL (x3 + (1 : Int32)) fun y1 =>
  k4 s0 x1 x2 y1
set_option maxHeartbeats 4000000 in
set_option maxRecDepth 100000 in
theorem T_X7_meetAll_97 {r : Int32} {z1 : St} {k4 : St → Int32 → Int32 → Int32 → Option (Int32 × St)} (C : Cx p rm_X7_meetAll s m args c D A cX7_meetAll 4 RX7 rm_X7_meetAll N) (hE : En p l e rm_X7_meetAll s m args below meth c Q D A cX7_meetAll .ireturn (wC N z1) [.int r]) (hk4 : ∀ (s0 : St) (x1 : Int32) (x2 : Int32) (x3 : Int32), k4 s0 x1 x2 x3 = some (r, z1) → Aw p l e rm_X7_meetAll s m args below meth c Q D A 4 (wC N s0) 4 [(0, .ref (N.1 10)), (1, .int x1), (2, .int x2), (3, .int x3)] []) (s0 : St) (x1 : Int32) (x2 : Int32) (x3 : Int32) (h : F_X7_meetAll_97 k4 s0 x1 x2 x3 = some (r, z1)) : Aw p l e rm_X7_meetAll s m args below meth c Q D A 4 (wC N s0) 97 [(0, .ref (N.1 10)), (1, .int x1), (2, .int x2), (3, .int x3)] [] := by
  unfold F_X7_meetAll_97 at h
  obtain ⟨y1, ey1⟩ : ∃ q : Int32, q = x3 + (1 : Int32) := ⟨_, rfl⟩
  have h := oL_e ey1 h
  refine aw_iinc (v := y1) (k := 3) (lv' := [(0, .ref (N.1 10)), (1, .int x1), (2, .int x2), (3, .int y1)]) C [1, 2, 3, 0] dX7_meetAll_97 rfl (by rw [ey1]; rfl) (by decide) rfl ?_
  refine aw_goto (tgt := 4) C dX7_meetAll_100 (by decide) ?_
  refine aw_sub (lv' := [(0, .ref (N.1 10)), (1, .int x1), (2, .int x2), (3, .int y1)]) [0, 1, 2, 3] rfl ?_
  exact hk4 s0 x1 x2 y1 h
def F_X7_meetAll_4_b (k4 : St → Int32 → Int32 → Int32 → Option (Int32 × St)) (s0 : St) (x1 : Int32) (x2 : Int32) (x3 : Int32) : Option (Int32 × St) :=
  if (s0.1 29) ≤ x3 then (
    some (x2, s0))
  else (
    oC (f_X5_isKnown s0 x3 (1 : Int32)) fun w3 =>
    oL w3.1 fun v1 => oL w3.2 fun s2 =>
    if v1 = 0 then (
      F_X7_meetAll_97 k4 s2 x1 x2 x3)
    else (
      oA x3 80 <|
      oA x3 80 <|
      oA x3 80 <|
      oC (f_X7_tells s2 (s2.2.1 12 (Int32.toNatClampNeg x3)) (s2.2.1 13 (Int32.toNatClampNeg x3)) (s2.2.1 14 (Int32.toNatClampNeg x3)) x1) fun w9 =>
      oL w9.1 fun v7 => oL w9.2 fun s8 =>
      oL (x2 ||| v7) fun y10 =>
      oA x3 80 <|
      oA x3 80 <|
      oA x3 80 <|
      oC (f_X7_tells s8 (s8.2.1 13 (Int32.toNatClampNeg x3)) (s8.2.1 12 (Int32.toNatClampNeg x3)) (s8.2.1 14 (Int32.toNatClampNeg x3)) x1) fun w16 =>
      oL w16.1 fun v14 => oL w16.2 fun s15 =>
      oL (y10 ||| v14) fun y17 =>
      F_X7_meetAll_97 k4 s15 x1 y17 x3))
set_option maxHeartbeats 4000000 in
set_option maxRecDepth 100000 in
theorem T_X7_meetAll_4_b {r : Int32} {z1 : St} {k4 : St → Int32 → Int32 → Int32 → Option (Int32 × St)} (C : Cx p rm_X7_meetAll s m args c D A cX7_meetAll 4 RX7 rm_X7_meetAll N) (hE : En p l e rm_X7_meetAll s m args below meth c Q D A cX7_meetAll .ireturn (wC N z1) [.int r]) (hk4 : ∀ (s0 : St) (x1 : Int32) (x2 : Int32) (x3 : Int32), k4 s0 x1 x2 x3 = some (r, z1) → Aw p l e rm_X7_meetAll s m args below meth c Q D A 4 (wC N s0) 4 [(0, .ref (N.1 10)), (1, .int x1), (2, .int x2), (3, .int x3)] []) (s0 : St) (x1 : Int32) (x2 : Int32) (x3 : Int32) (h : F_X7_meetAll_4_b k4 s0 x1 x2 x3 = some (r, z1)) : Aw p l e rm_X7_meetAll s m args below meth c Q D A 4 (wC N s0) 4 [(0, .ref (N.1 10)), (1, .int x1), (2, .int x2), (3, .int x3)] [] := by
  unfold F_X7_meetAll_4_b at h
  refine aw_iload_n C 3 dX7_meetAll_4 rfl ?_
  refine aw_aload_n C 0 dX7_meetAll_5 rfl ?_
  refine cg_ru_notes C lw_7_7 dX7_meetAll_6 ?_
  refine cg_nt_held C lw_44_9 dX7_meetAll_9 ?_
  refine aw_icmp_ge (tgt := 103) C dX7_meetAll_12 (by decide) (fun q => ?_) (fun q => ?_)
  · have h := bq_t q h
    refine aw_iload_n C 2 dX7_meetAll_103 rfl ?_
    cases h
    exact aw_ret hE dX7_meetAll_104
  · have h := bq_f q h
    refine aw_aload_n C 0 dX7_meetAll_15 rfl ?_
    refine cg_ru_notes C lw_7_7 dX7_meetAll_16 ?_
    refine aw_iload_n C 3 dX7_meetAll_19 rfl ?_
    refine aw_iconst (v := 1) C dX7_meetAll_20 (by decide) ?_
    obtain ⟨⟨v1, s2⟩, cw3, h⟩ := oC_e h
    have h := oL_e (x := s2) rfl (oL_e (x := v1) rfl h)
    refine aw_callVi (n := 2) (As := [.int x3, .int (1 : Int32)]) (rest := []) (q0 := 5) C (c_X5_isKnown l D N s0 s2 x3 (1 : Int32) v1 cw3) lw_44_14 lw_28_1 lw_28_2 lw_1_18 lw_28_3 rfl rfl (by decide +kernel) ⟨Nat.le_of_ble_eq_true rfl, Nat.le_of_ble_eq_true rfl⟩ rfl rfl rfl rfl rfl (Nat.le_of_ble_eq_true rfl) dX7_meetAll_21 ?_
    refine aw_if_eq (tgt := 97) C dX7_meetAll_24 (by decide) (fun q => ?_) (fun q => ?_)
    · have h := bq_t q h
      refine aw_sub (lv' := [(0, .ref (N.1 10)), (1, .int x1), (2, .int x2), (3, .int x3)]) [0, 1, 2, 3] rfl ?_
      exact T_X7_meetAll_97 C hE hk4 s2 x1 x2 x3 h
    · have h := bq_f q h
      refine aw_iload_n C 2 dX7_meetAll_27 rfl ?_
      refine aw_aload_n C 0 dX7_meetAll_28 rfl ?_
      refine aw_aload_n C 0 dX7_meetAll_29 rfl ?_
      refine cg_ru_notes C lw_7_7 dX7_meetAll_30 ?_
      refine cg_nt_subject C lw_44_10 dX7_meetAll_33 ?_
      refine aw_iload_n C 3 dX7_meetAll_36 rfl ?_
      obtain ⟨q4, h⟩ := oA_e h
      refine ca_iald (k := 12) C (by decide) rfl q4 dX7_meetAll_37 ?_
      refine aw_aload_n C 0 dX7_meetAll_38 rfl ?_
      refine cg_ru_notes C lw_7_7 dX7_meetAll_39 ?_
      refine cg_nt_object C lw_44_11 dX7_meetAll_42 ?_
      refine aw_iload_n C 3 dX7_meetAll_45 rfl ?_
      obtain ⟨q5, h⟩ := oA_e h
      refine ca_iald (k := 13) C (by decide) rfl q5 dX7_meetAll_46 ?_
      refine aw_aload_n C 0 dX7_meetAll_47 rfl ?_
      refine cg_ru_notes C lw_7_7 dX7_meetAll_48 ?_
      refine cg_nt_third C lw_44_12 dX7_meetAll_51 ?_
      refine aw_iload_n C 3 dX7_meetAll_54 rfl ?_
      obtain ⟨q6, h⟩ := oA_e h
      refine ca_iald (k := 14) C (by decide) rfl q6 dX7_meetAll_55 ?_
      refine aw_iload_n C 1 dX7_meetAll_56 rfl ?_
      obtain ⟨⟨v7, s8⟩, cw9, h⟩ := oC_e h
      have h := oL_e (x := s8) rfl (oL_e (x := v7) rfl h)
      refine aw_callVi (n := 4) (As := [.int (s2.2.1 12 (Int32.toNatClampNeg x3)), .int (s2.2.1 13 (Int32.toNatClampNeg x3)), .int (s2.2.1 14 (Int32.toNatClampNeg x3)), .int x1]) (rest := [.int x2]) (q0 := 10) C (c_X7_tells l D N s2 s8 (s2.2.1 12 (Int32.toNatClampNeg x3)) (s2.2.1 13 (Int32.toNatClampNeg x3)) (s2.2.1 14 (Int32.toNatClampNeg x3)) x1 v7 cw9) lw_44_23 lw_45_0 lw_45_1 lw_3_1 lw_45_2 rfl rfl (by decide +kernel) ⟨Nat.le_of_ble_eq_true rfl, Nat.le_of_ble_eq_true rfl⟩ rfl rfl rfl rfl rfl (Nat.le_of_ble_eq_true rfl) dX7_meetAll_57 ?_
      refine aw_ior C dX7_meetAll_60 ?_
      refine aw_topi (fun y10 ey10 => ?_)
      have h := oL_e ey10 h
      refine aw_istore_n (lv' := [(0, .ref (N.1 10)), (1, .int x1), (2, .int y10), (3, .int x3)]) C [1, 2, 0, 3] dX7_meetAll_61 rfl (by decide) rfl ?_
      refine aw_iload_n C 2 dX7_meetAll_62 rfl ?_
      refine aw_aload_n C 0 dX7_meetAll_63 rfl ?_
      refine aw_aload_n C 0 dX7_meetAll_64 rfl ?_
      refine cg_ru_notes C lw_7_7 dX7_meetAll_65 ?_
      refine cg_nt_object C lw_44_11 dX7_meetAll_68 ?_
      refine aw_iload_n C 3 dX7_meetAll_71 rfl ?_
      obtain ⟨q11, h⟩ := oA_e h
      refine ca_iald (k := 13) C (by decide) rfl q11 dX7_meetAll_72 ?_
      refine aw_aload_n C 0 dX7_meetAll_73 rfl ?_
      refine cg_ru_notes C lw_7_7 dX7_meetAll_74 ?_
      refine cg_nt_subject C lw_44_10 dX7_meetAll_77 ?_
      refine aw_iload_n C 3 dX7_meetAll_80 rfl ?_
      obtain ⟨q12, h⟩ := oA_e h
      refine ca_iald (k := 12) C (by decide) rfl q12 dX7_meetAll_81 ?_
      refine aw_aload_n C 0 dX7_meetAll_82 rfl ?_
      refine cg_ru_notes C lw_7_7 dX7_meetAll_83 ?_
      refine cg_nt_third C lw_44_12 dX7_meetAll_86 ?_
      refine aw_iload_n C 3 dX7_meetAll_89 rfl ?_
      obtain ⟨q13, h⟩ := oA_e h
      refine ca_iald (k := 14) C (by decide) rfl q13 dX7_meetAll_90 ?_
      refine aw_iload_n C 1 dX7_meetAll_91 rfl ?_
      obtain ⟨⟨v14, s15⟩, cw16, h⟩ := oC_e h
      have h := oL_e (x := s15) rfl (oL_e (x := v14) rfl h)
      refine aw_callVi (n := 4) (As := [.int (s8.2.1 13 (Int32.toNatClampNeg x3)), .int (s8.2.1 12 (Int32.toNatClampNeg x3)), .int (s8.2.1 14 (Int32.toNatClampNeg x3)), .int x1]) (rest := [.int y10]) (q0 := 10) C (c_X7_tells l D N s8 s15 (s8.2.1 13 (Int32.toNatClampNeg x3)) (s8.2.1 12 (Int32.toNatClampNeg x3)) (s8.2.1 14 (Int32.toNatClampNeg x3)) x1 v14 cw16) lw_44_23 lw_45_0 lw_45_1 lw_3_1 lw_45_2 rfl rfl (by decide +kernel) ⟨Nat.le_of_ble_eq_true rfl, Nat.le_of_ble_eq_true rfl⟩ rfl rfl rfl rfl rfl (Nat.le_of_ble_eq_true rfl) dX7_meetAll_92 ?_
      refine aw_ior C dX7_meetAll_95 ?_
      refine aw_topi (fun y17 ey17 => ?_)
      have h := oL_e ey17 h
      refine aw_istore_n (lv' := [(0, .ref (N.1 10)), (1, .int x1), (2, .int y17), (3, .int x3)]) C [1, 2, 0, 3] dX7_meetAll_96 rfl (by decide) rfl ?_
      refine aw_sub (lv' := [(0, .ref (N.1 10)), (1, .int x1), (2, .int y17), (3, .int x3)]) [0, 1, 2, 3] rfl ?_
      exact T_X7_meetAll_97 C hE hk4 s15 x1 y17 x3 h
def F_X7_meetAll_4 : Nat → St → Int32 → Int32 → Int32 → Option (Int32 × St)
  | 0 => fun _ _ _ _ => none
  | n + 1 => F_X7_meetAll_4_b (F_X7_meetAll_4 n)
theorem T_X7_meetAll_4 {r : Int32} {z1 : St} (C : Cx p rm_X7_meetAll s m args c D A cX7_meetAll 4 RX7 rm_X7_meetAll N) (hE : En p l e rm_X7_meetAll s m args below meth c Q D A cX7_meetAll .ireturn (wC N z1) [.int r])  : ∀ (n : Nat) (s0 : St) (x1 : Int32) (x2 : Int32) (x3 : Int32), F_X7_meetAll_4 n s0 x1 x2 x3 = some (r, z1) → Aw p l e rm_X7_meetAll s m args below meth c Q D A 4 (wC N s0) 4 [(0, .ref (N.1 10)), (1, .int x1), (2, .int x2), (3, .int x3)] [] := by
  intro n
  induction n with
  | zero => intro s0 x1 x2 x3 h; cases h
  | succ n ih => intro s0 x1 x2 x3 h; exact T_X7_meetAll_4_b C hE ih s0 x1 x2 x3 h
def F_X7_meetAll_0 (s0 : St) (x1 : Int32) : Option (Int32 × St) :=
  oL (0 : Int32) fun y1 =>
  oL (0 : Int32) fun y2 =>
  F_X7_meetAll_4 100000 s0 x1 y1 y2
set_option maxHeartbeats 4000000 in
set_option maxRecDepth 100000 in
theorem T_X7_meetAll_0 {r : Int32} {z1 : St} (C : Cx p rm_X7_meetAll s m args c D A cX7_meetAll 4 RX7 rm_X7_meetAll N) (hE : En p l e rm_X7_meetAll s m args below meth c Q D A cX7_meetAll .ireturn (wC N z1) [.int r])  (s0 : St) (x1 : Int32) (h : F_X7_meetAll_0 s0 x1 = some (r, z1)) : Aw p l e rm_X7_meetAll s m args below meth c Q D A 4 (wC N s0) 0 [(0, .ref (N.1 10)), (1, .int x1)] [] := by
  unfold F_X7_meetAll_0 at h
  refine aw_iconst (v := 0) C dX7_meetAll_0 (by decide) ?_
  refine aw_topi (fun y1 ey1 => ?_)
  have h := oL_e ey1 h
  refine aw_istore_n (lv' := [(0, .ref (N.1 10)), (1, .int x1), (2, .int y1)]) C [1, 2, 0] dX7_meetAll_1 rfl (by decide) rfl ?_
  refine aw_iconst (v := 0) C dX7_meetAll_2 (by decide) ?_
  refine aw_topi (fun y2 ey2 => ?_)
  have h := oL_e ey2 h
  refine aw_istore_n (lv' := [(0, .ref (N.1 10)), (1, .int x1), (2, .int y1), (3, .int y2)]) C [1, 2, 3, 0] dX7_meetAll_3 rfl (by decide) rfl ?_
  refine aw_sub (lv' := [(0, .ref (N.1 10)), (1, .int x1), (2, .int y1), (3, .int y2)]) [0, 1, 2, 3] rfl ?_
  exact T_X7_meetAll_4 C hE 100000 s0 x1 y1 y2 h
def f_X7_meetAll (s0 : St) (x1 : Int32) : Option (Int32 × St) := oC (F_X7_meetAll_0 s0 x1) fun w => oZ w.1 (some w)
theorem c_X7_meetAll (l : Launch) (D : va_G) (N : Nm) (s0 z1 : St) (x1 : Int32) (r : Int32) (h : f_X7_meetAll s0 x1 = some (r, z1)) : Meti l yX7_meetAll (tsU yX7_meetAll cX7_meetAll 4 (some .boolean)) rm_X7_meetAll D N [.ref (N.1 10), .int x1] (wC N s0) r (wC N z1) := by
  obtain ⟨w, h1, h2⟩ := oC_e h
  obtain ⟨hz, h2⟩ := oZ_e h2
  cases h2
  exact met_z (cc := cX7_meetAll) (nL := 4) (own := RX7) (by decide) rfl (Nat.le_of_ble_eq_true rfl) (zN hz) (fun p e s m args below meth c Q A C hE => aw_sub [0, 1] rfl (T_X7_meetAll_0 C hE s0 x1 h1))
/-! AwardLine$Rumour.spread(II)V -/
def rm_X7_spread : Room := { frames := 3, cells := 0, slots := 0, locals := 69 }
def F_X7_spread_105 (s0 : St) : Option (St) :=
  some s0
set_option maxHeartbeats 4000000 in
set_option maxRecDepth 100000 in
theorem T_X7_spread_105 {z1 : St} (C : Cx p rm_X7_spread s m args c D A cX7_spread 5 RX7 rm_X7_spread N) (hE : En p l e rm_X7_spread s m args below meth c Q D A cX7_spread .return_ (wC N z1) [])  (s0 : St) (h : F_X7_spread_105 s0 = some z1) : Aw p l e rm_X7_spread s m args below meth c Q D A 5 (wC N s0) 105 [] [] := by
  unfold F_X7_spread_105 at h
  cases h
  exact aw_ret hE dX7_spread_105
def F_X7_spread_82_b (k82 : St → Int32 → Int32 → Int32 → Option (St)) (s0 : St) (x2 : Int32) (x3 : Int32) (x4 : Int32) : Option (St) :=
  if (8 : Int32) ≤ x4 then (
    F_X7_spread_105 s0)
  else (
    if x3 = 0 then (
      F_X7_spread_105 s0)
    else (
      oC (f_X7_meetAll s0 x2) fun w3 =>
      oL w3.1 fun v1 => oL w3.2 fun s2 =>
      oL (x4 + (1 : Int32)) fun y4 =>
      k82 s2 x2 v1 y4))
set_option maxHeartbeats 4000000 in
set_option maxRecDepth 100000 in
theorem T_X7_spread_82_b {z1 : St} {k82 : St → Int32 → Int32 → Int32 → Option (St)} (C : Cx p rm_X7_spread s m args c D A cX7_spread 5 RX7 rm_X7_spread N) (hE : En p l e rm_X7_spread s m args below meth c Q D A cX7_spread .return_ (wC N z1) []) (hk82 : ∀ (s0 : St) (x2 : Int32) (x3 : Int32) (x4 : Int32), k82 s0 x2 x3 x4 = some z1 → Aw p l e rm_X7_spread s m args below meth c Q D A 5 (wC N s0) 82 [(0, .ref (N.1 10)), (2, .int x2), (3, .int x3), (4, .int x4)] []) (s0 : St) (x2 : Int32) (x3 : Int32) (x4 : Int32) (h : F_X7_spread_82_b k82 s0 x2 x3 x4 = some z1) : Aw p l e rm_X7_spread s m args below meth c Q D A 5 (wC N s0) 82 [(0, .ref (N.1 10)), (2, .int x2), (3, .int x3), (4, .int x4)] [] := by
  unfold F_X7_spread_82_b at h
  refine aw_iload C 3 dX7_spread_82 rfl ?_
  refine aw_bipush (v := 8) C dX7_spread_84 (by decide) ?_
  refine aw_icmp_ge (tgt := 105) C dX7_spread_86 (by decide) (fun q => ?_) (fun q => ?_)
  · have h := bq_t q h
    refine aw_sub (lv' := []) [] rfl ?_
    exact T_X7_spread_105 C hE s0 h
  · have h := bq_f q h
    refine aw_iload_n C 2 dX7_spread_89 rfl ?_
    refine aw_if_eq (tgt := 105) C dX7_spread_90 (by decide) (fun q => ?_) (fun q => ?_)
    · have h := bq_t q h
      refine aw_sub (lv' := []) [] rfl ?_
      exact T_X7_spread_105 C hE s0 h
    · have h := bq_f q h
      refine aw_aload_n C 0 dX7_spread_93 rfl ?_
      refine aw_iload_n C 1 dX7_spread_94 rfl ?_
      obtain ⟨⟨v1, s2⟩, cw3, h⟩ := oC_e h
      have h := oL_e (x := s2) rfl (oL_e (x := v1) rfl h)
      refine aw_callVi (n := 1) (As := [.int x2]) (rest := []) (q0 := 10) C (c_X7_meetAll l D N s0 s2 x2 v1 cw3) lw_44_19 lw_44_20 lw_44_21 lw_3_1 lw_44_22 rfl rfl (by decide +kernel) ⟨Nat.le_of_ble_eq_true rfl, Nat.le_of_ble_eq_true rfl⟩ rfl rfl rfl rfl rfl (Nat.le_of_ble_eq_true rfl) dX7_spread_95 ?_
      refine aw_istore_n (lv' := [(0, .ref (N.1 10)), (2, .int x2), (3, .int v1), (4, .int x4)]) C [1, 2, 0, 3] dX7_spread_98 rfl (by decide) rfl ?_
      obtain ⟨y4, ey4⟩ : ∃ q : Int32, q = x4 + (1 : Int32) := ⟨_, rfl⟩
      have h := oL_e ey4 h
      refine aw_iinc (v := y4) (k := 3) (lv' := [(0, .ref (N.1 10)), (2, .int x2), (3, .int v1), (4, .int y4)]) C [1, 2, 3, 0] dX7_spread_99 rfl (by rw [ey4]; rfl) (by decide) rfl ?_
      refine aw_goto (tgt := 82) C dX7_spread_102 (by decide) ?_
      refine aw_sub (lv' := [(0, .ref (N.1 10)), (2, .int x2), (3, .int v1), (4, .int y4)]) [0, 1, 2, 3] rfl ?_
      exact hk82 s2 x2 v1 y4 h
def F_X7_spread_82 : Nat → St → Int32 → Int32 → Int32 → Option (St)
  | 0 => fun _ _ _ _ => none
  | n + 1 => F_X7_spread_82_b (F_X7_spread_82 n)
theorem T_X7_spread_82 {z1 : St} (C : Cx p rm_X7_spread s m args c D A cX7_spread 5 RX7 rm_X7_spread N) (hE : En p l e rm_X7_spread s m args below meth c Q D A cX7_spread .return_ (wC N z1) [])  : ∀ (n : Nat) (s0 : St) (x2 : Int32) (x3 : Int32) (x4 : Int32), F_X7_spread_82 n s0 x2 x3 x4 = some z1 → Aw p l e rm_X7_spread s m args below meth c Q D A 5 (wC N s0) 82 [(0, .ref (N.1 10)), (2, .int x2), (3, .int x3), (4, .int x4)] [] := by
  intro n
  induction n with
  | zero => intro s0 x2 x3 x4 h; cases h
  | succ n ih => intro s0 x2 x3 x4 h; exact T_X7_spread_82_b C hE ih s0 x2 x3 x4 h
def F_X7_spread_71 (k12 : St → Int32 → Int32 → Int32 → Option (St)) (s0 : St) (x1 : Int32) (x2 : Int32) (x3 : Int32) : Option (St) :=
  oL (x3 + (1 : Int32)) fun y1 =>
  k12 s0 x1 x2 y1
set_option maxHeartbeats 4000000 in
set_option maxRecDepth 100000 in
theorem T_X7_spread_71 {z1 : St} {k12 : St → Int32 → Int32 → Int32 → Option (St)} (C : Cx p rm_X7_spread s m args c D A cX7_spread 5 RX7 rm_X7_spread N) (hE : En p l e rm_X7_spread s m args below meth c Q D A cX7_spread .return_ (wC N z1) []) (hk12 : ∀ (s0 : St) (x1 : Int32) (x2 : Int32) (x3 : Int32), k12 s0 x1 x2 x3 = some z1 → Aw p l e rm_X7_spread s m args below meth c Q D A 5 (wC N s0) 12 [(0, .ref (N.1 10)), (1, .int x1), (2, .int x2), (3, .int x3)] []) (s0 : St) (x1 : Int32) (x2 : Int32) (x3 : Int32) (h : F_X7_spread_71 k12 s0 x1 x2 x3 = some z1) : Aw p l e rm_X7_spread s m args below meth c Q D A 5 (wC N s0) 71 [(0, .ref (N.1 10)), (1, .int x1), (2, .int x2), (3, .int x3)] [] := by
  unfold F_X7_spread_71 at h
  obtain ⟨y1, ey1⟩ : ∃ q : Int32, q = x3 + (1 : Int32) := ⟨_, rfl⟩
  have h := oL_e ey1 h
  refine aw_iinc (v := y1) (k := 3) (lv' := [(0, .ref (N.1 10)), (1, .int x1), (2, .int x2), (3, .int y1)]) C [1, 2, 3, 0] dX7_spread_71 rfl (by rw [ey1]; rfl) (by decide) rfl ?_
  refine aw_goto (tgt := 12) C dX7_spread_74 (by decide) ?_
  refine aw_sub (lv' := [(0, .ref (N.1 10)), (1, .int x1), (2, .int x2), (3, .int y1)]) [0, 1, 2, 3] rfl ?_
  exact hk12 s0 x1 x2 y1 h
def F_X7_spread_12_b (k12 : St → Int32 → Int32 → Int32 → Option (St)) (s0 : St) (x1 : Int32) (x2 : Int32) (x3 : Int32) : Option (St) :=
  if (s0.1 29) ≤ x3 then (
    oL (1 : Int32) fun y1 =>
    oL (0 : Int32) fun y2 =>
    F_X7_spread_82 100000 s0 x2 y1 y2)
  else (
    oC (f_X5_isKnown s0 x3 (0 : Int32)) fun w5 =>
    oL w5.1 fun v3 => oL w5.2 fun s4 =>
    if v3 = 0 then (
      F_X7_spread_71 k12 s4 x1 x2 x3)
    else (
      oA x3 80 <|
      if (s4.2.1 12 (Int32.toNatClampNeg x3)) = x1 then (
        oA x3 80 <|
        oA x3 80 <|
        oC (f_X7_hears s4 (s4.2.1 13 (Int32.toNatClampNeg x3)) (s4.2.1 14 (Int32.toNatClampNeg x3))) fun w11 =>
        oL w11.1 fun v9 => oL w11.2 fun s10 =>
        F_X7_spread_71 k12 s10 x1 x2 x3)
      else (
        F_X7_spread_71 k12 s4 x1 x2 x3)))
set_option maxHeartbeats 4000000 in
set_option maxRecDepth 100000 in
theorem T_X7_spread_12_b {z1 : St} {k12 : St → Int32 → Int32 → Int32 → Option (St)} (C : Cx p rm_X7_spread s m args c D A cX7_spread 5 RX7 rm_X7_spread N) (hE : En p l e rm_X7_spread s m args below meth c Q D A cX7_spread .return_ (wC N z1) []) (hk12 : ∀ (s0 : St) (x1 : Int32) (x2 : Int32) (x3 : Int32), k12 s0 x1 x2 x3 = some z1 → Aw p l e rm_X7_spread s m args below meth c Q D A 5 (wC N s0) 12 [(0, .ref (N.1 10)), (1, .int x1), (2, .int x2), (3, .int x3)] []) (s0 : St) (x1 : Int32) (x2 : Int32) (x3 : Int32) (h : F_X7_spread_12_b k12 s0 x1 x2 x3 = some z1) : Aw p l e rm_X7_spread s m args below meth c Q D A 5 (wC N s0) 12 [(0, .ref (N.1 10)), (1, .int x1), (2, .int x2), (3, .int x3)] [] := by
  unfold F_X7_spread_12_b at h
  refine aw_iload_n C 3 dX7_spread_12 rfl ?_
  refine aw_aload_n C 0 dX7_spread_13 rfl ?_
  refine cg_ru_notes C lw_7_7 dX7_spread_14 ?_
  refine cg_nt_held C lw_44_9 dX7_spread_17 ?_
  refine aw_icmp_ge (tgt := 77) C dX7_spread_20 (by decide) (fun q => ?_) (fun q => ?_)
  · have h := bq_t q h
    refine aw_iconst (v := 1) C dX7_spread_77 (by decide) ?_
    refine aw_topi (fun y1 ey1 => ?_)
    have h := oL_e ey1 h
    refine aw_istore_n (lv' := [(0, .ref (N.1 10)), (1, .int x1), (2, .int x2), (3, .int y1)]) C [1, 2, 3, 0] dX7_spread_78 rfl (by decide) rfl ?_
    refine aw_iconst (v := 0) C dX7_spread_79 (by decide) ?_
    refine aw_topi (fun y2 ey2 => ?_)
    have h := oL_e ey2 h
    refine aw_istore (lv' := [(0, .ref (N.1 10)), (1, .int x1), (2, .int x2), (3, .int y1), (4, .int y2)]) C [1, 2, 3, 4, 0] dX7_spread_80 (by decide) rfl ?_
    refine aw_sub (lv' := [(0, .ref (N.1 10)), (2, .int x2), (3, .int y1), (4, .int y2)]) [0, 2, 3, 4] rfl ?_
    exact T_X7_spread_82 C hE 100000 s0 x2 y1 y2 h
  · have h := bq_f q h
    refine aw_aload_n C 0 dX7_spread_23 rfl ?_
    refine cg_ru_notes C lw_7_7 dX7_spread_24 ?_
    refine aw_iload_n C 3 dX7_spread_27 rfl ?_
    refine aw_iconst (v := 0) C dX7_spread_28 (by decide) ?_
    obtain ⟨⟨v3, s4⟩, cw5, h⟩ := oC_e h
    have h := oL_e (x := s4) rfl (oL_e (x := v3) rfl h)
    refine aw_callVi (n := 2) (As := [.int x3, .int (0 : Int32)]) (rest := []) (q0 := 5) C (c_X5_isKnown l D N s0 s4 x3 (0 : Int32) v3 cw5) lw_44_14 lw_28_1 lw_28_2 lw_1_18 lw_28_3 rfl rfl (by decide +kernel) ⟨Nat.le_of_ble_eq_true rfl, Nat.le_of_ble_eq_true rfl⟩ rfl rfl rfl rfl rfl (Nat.le_of_ble_eq_true rfl) dX7_spread_29 ?_
    refine aw_if_eq (tgt := 71) C dX7_spread_32 (by decide) (fun q => ?_) (fun q => ?_)
    · have h := bq_t q h
      refine aw_sub (lv' := [(0, .ref (N.1 10)), (1, .int x1), (2, .int x2), (3, .int x3)]) [0, 1, 2, 3] rfl ?_
      exact T_X7_spread_71 C hE hk12 s4 x1 x2 x3 h
    · have h := bq_f q h
      refine aw_aload_n C 0 dX7_spread_35 rfl ?_
      refine cg_ru_notes C lw_7_7 dX7_spread_36 ?_
      refine cg_nt_subject C lw_44_10 dX7_spread_39 ?_
      refine aw_iload_n C 3 dX7_spread_42 rfl ?_
      obtain ⟨q6, h⟩ := oA_e h
      refine ca_iald (k := 12) C (by decide) rfl q6 dX7_spread_43 ?_
      refine aw_iload_n C 1 dX7_spread_44 rfl ?_
      refine aw_icmp_ne (tgt := 71) C dX7_spread_45 (by decide) (fun q => ?_) (fun q => ?_)
      · have h := bq_f q h
        refine aw_sub (lv' := [(0, .ref (N.1 10)), (1, .int x1), (2, .int x2), (3, .int x3)]) [0, 1, 2, 3] rfl ?_
        exact T_X7_spread_71 C hE hk12 s4 x1 x2 x3 h
      · have h := bq_t q h
        refine aw_aload_n C 0 dX7_spread_48 rfl ?_
        refine aw_aload_n C 0 dX7_spread_49 rfl ?_
        refine cg_ru_notes C lw_7_7 dX7_spread_50 ?_
        refine cg_nt_object C lw_44_11 dX7_spread_53 ?_
        refine aw_iload_n C 3 dX7_spread_56 rfl ?_
        obtain ⟨q7, h⟩ := oA_e h
        refine ca_iald (k := 13) C (by decide) rfl q7 dX7_spread_57 ?_
        refine aw_aload_n C 0 dX7_spread_58 rfl ?_
        refine cg_ru_notes C lw_7_7 dX7_spread_59 ?_
        refine cg_nt_third C lw_44_12 dX7_spread_62 ?_
        refine aw_iload_n C 3 dX7_spread_65 rfl ?_
        obtain ⟨q8, h⟩ := oA_e h
        refine ca_iald (k := 14) C (by decide) rfl q8 dX7_spread_66 ?_
        obtain ⟨⟨v9, s10⟩, cw11, h⟩ := oC_e h
        have h := oL_e (x := s10) rfl (oL_e (x := v9) rfl h)
        refine aw_callVi (n := 2) (As := [.int (s4.2.1 13 (Int32.toNatClampNeg x3)), .int (s4.2.1 14 (Int32.toNatClampNeg x3))]) (rest := []) (q0 := 10) C (c_X7_hears l D N s4 s10 (s4.2.1 13 (Int32.toNatClampNeg x3)) (s4.2.1 14 (Int32.toNatClampNeg x3)) v9 cw11) lw_44_15 lw_44_16 lw_44_17 lw_3_1 lw_44_18 rfl rfl (by decide +kernel) ⟨Nat.le_of_ble_eq_true rfl, Nat.le_of_ble_eq_true rfl⟩ rfl rfl rfl rfl rfl (Nat.le_of_ble_eq_true rfl) dX7_spread_67 ?_
        refine aw_pop C dX7_spread_70 rfl ?_
        refine aw_sub (lv' := [(0, .ref (N.1 10)), (1, .int x1), (2, .int x2), (3, .int x3)]) [0, 1, 2, 3] rfl ?_
        exact T_X7_spread_71 C hE hk12 s10 x1 x2 x3 h
def F_X7_spread_12 : Nat → St → Int32 → Int32 → Int32 → Option (St)
  | 0 => fun _ _ _ _ => none
  | n + 1 => F_X7_spread_12_b (F_X7_spread_12 n)
theorem T_X7_spread_12 {z1 : St} (C : Cx p rm_X7_spread s m args c D A cX7_spread 5 RX7 rm_X7_spread N) (hE : En p l e rm_X7_spread s m args below meth c Q D A cX7_spread .return_ (wC N z1) [])  : ∀ (n : Nat) (s0 : St) (x1 : Int32) (x2 : Int32) (x3 : Int32), F_X7_spread_12 n s0 x1 x2 x3 = some z1 → Aw p l e rm_X7_spread s m args below meth c Q D A 5 (wC N s0) 12 [(0, .ref (N.1 10)), (1, .int x1), (2, .int x2), (3, .int x3)] [] := by
  intro n
  induction n with
  | zero => intro s0 x1 x2 x3 h; cases h
  | succ n ih => intro s0 x1 x2 x3 h; exact T_X7_spread_12_b C hE ih s0 x1 x2 x3 h
def F_X7_spread_0 (s0 : St) (x1 : Int32) (x2 : Int32) : Option (St) :=
  oC (f_J7_fill_53178 s0 35 (1000 : Int32)) fun w3 =>
  oL w3 fun s2 =>
  oL (0 : Int32) fun y4 =>
  F_X7_spread_12 100000 s2 x1 x2 y4
set_option maxHeartbeats 4000000 in
set_option maxRecDepth 100000 in
theorem T_X7_spread_0 {z1 : St} (C : Cx p rm_X7_spread s m args c D A cX7_spread 5 RX7 rm_X7_spread N) (hE : En p l e rm_X7_spread s m args below meth c Q D A cX7_spread .return_ (wC N z1) [])  (s0 : St) (x1 : Int32) (x2 : Int32) (h : F_X7_spread_0 s0 x1 x2 = some z1) : Aw p l e rm_X7_spread s m args below meth c Q D A 5 (wC N s0) 0 [(0, .ref (N.1 10)), (1, .int x1), (2, .int x2)] [] := by
  unfold F_X7_spread_0 at h
  refine aw_aload_n C 0 dX7_spread_0 rfl ?_
  refine cg_ru_since C lw_7_5 dX7_spread_1 ?_
  refine aw_sipush (v := 1000) C dX7_spread_4 (by decide) ?_
  obtain ⟨s2, cw3, h⟩ := oC_e h
  have h := oL_e (x := s2) rfl h
  refine aw_callSv (n := 2) (As := [.ref (N.2.1 35), .int (1000 : Int32)]) (rest := []) C (c_J7_fill_53178 l D N s0 s2 35 (1000 : Int32) cw3) lw_44_13 lw_4_5 lw_4_6 lw_4_7 rfl rfl (by decide +kernel) ⟨Nat.le_of_ble_eq_true rfl, Nat.le_of_ble_eq_true rfl⟩ rfl rfl (Nat.le_of_ble_eq_true rfl) dX7_spread_7 ?_
  refine aw_iconst (v := 0) C dX7_spread_10 (by decide) ?_
  refine aw_topi (fun y4 ey4 => ?_)
  have h := oL_e ey4 h
  refine aw_istore_n (lv' := [(0, .ref (N.1 10)), (1, .int x1), (2, .int x2), (3, .int y4)]) C [1, 2, 3, 0] dX7_spread_11 rfl (by decide) rfl ?_
  refine aw_sub (lv' := [(0, .ref (N.1 10)), (1, .int x1), (2, .int x2), (3, .int y4)]) [0, 1, 2, 3] rfl ?_
  exact T_X7_spread_12 C hE 100000 s2 x1 x2 y4 h
def f_X7_spread (s0 : St) (x1 : Int32) (x2 : Int32) : Option (St) := F_X7_spread_0 s0 x1 x2
theorem c_X7_spread (l : Launch) (D : va_G) (N : Nm) (s0 z1 : St) (x1 : Int32) (x2 : Int32) (h : f_X7_spread s0 x1 x2 = some z1) : Metv l yX7_spread (tsU yX7_spread cX7_spread 5 none) rm_X7_spread D N [.ref (N.1 10), .int x1, .int x2] (wC N s0) (wC N z1) :=
  met_v (cc := cX7_spread) (nL := 5) (own := RX7) (by decide) rfl (Nat.le_of_ble_eq_true rfl) (fun p e s m args below meth c Q A C hE => aw_sub [0, 1, 2] rfl (T_X7_spread_0 C hE s0 x1 x2 h))
/-! AwardLine$Rumour.explain(I)I -/
def rm_X7_explain : Room := { frames := 4, cells := 0, slots := 0, locals := 93 }
def F_X7_explain_132 (s0 : St) (t0 : Int32) : Option (Int32 × St) :=
  some (t0, s0)
set_option maxHeartbeats 4000000 in
set_option maxRecDepth 100000 in
theorem T_X7_explain_132 {r : Int32} {z1 : St} (C : Cx p rm_X7_explain s m args c D A cX7_explain 6 RX7 rm_X7_explain N) (hE : En p l e rm_X7_explain s m args below meth c Q D A cX7_explain .ireturn (wC N z1) [.int r])  (s0 : St) (t0 : Int32) (h : F_X7_explain_132 s0 t0 = some (r, z1)) : Aw p l e rm_X7_explain s m args below meth c Q D A 6 (wC N s0) 132 [] [.int t0] := by
  unfold F_X7_explain_132 at h
  cases h
  exact aw_ret hE dX7_explain_132
def F_X7_explain_104 (k34 : St → Int32 → Int32 → Int32 → Int32 → Option (Int32 × St)) (s0 : St) (x2 : Int32) (x3 : Int32) (x4 : Int32) (x5 : Int32) : Option (Int32 × St) :=
  oL (x5 + (1 : Int32)) fun y1 =>
  k34 s0 x2 x3 x4 y1
set_option maxHeartbeats 4000000 in
set_option maxRecDepth 100000 in
theorem T_X7_explain_104 {r : Int32} {z1 : St} {k34 : St → Int32 → Int32 → Int32 → Int32 → Option (Int32 × St)} (C : Cx p rm_X7_explain s m args c D A cX7_explain 6 RX7 rm_X7_explain N) (hE : En p l e rm_X7_explain s m args below meth c Q D A cX7_explain .ireturn (wC N z1) [.int r]) (hk34 : ∀ (s0 : St) (x2 : Int32) (x3 : Int32) (x4 : Int32) (x5 : Int32), k34 s0 x2 x3 x4 x5 = some (r, z1) → Aw p l e rm_X7_explain s m args below meth c Q D A 6 (wC N s0) 34 [(0, .ref (N.1 10)), (2, .int x2), (3, .int x3), (4, .int x4), (5, .int x5)] []) (s0 : St) (x2 : Int32) (x3 : Int32) (x4 : Int32) (x5 : Int32) (h : F_X7_explain_104 k34 s0 x2 x3 x4 x5 = some (r, z1)) : Aw p l e rm_X7_explain s m args below meth c Q D A 6 (wC N s0) 104 [(0, .ref (N.1 10)), (2, .int x2), (3, .int x3), (4, .int x4), (5, .int x5)] [] := by
  unfold F_X7_explain_104 at h
  obtain ⟨y1, ey1⟩ : ∃ q : Int32, q = x5 + (1 : Int32) := ⟨_, rfl⟩
  have h := oL_e ey1 h
  refine aw_iinc (v := y1) (k := 4) (lv' := [(0, .ref (N.1 10)), (2, .int x2), (3, .int x3), (4, .int x4), (5, .int y1)]) C [1, 2, 3, 4, 0] dX7_explain_104 rfl (by rw [ey1]; rfl) (by decide) rfl ?_
  refine aw_goto (tgt := 34) C dX7_explain_107 (by decide) ?_
  refine aw_sub (lv' := [(0, .ref (N.1 10)), (2, .int x2), (3, .int x3), (4, .int x4), (5, .int y1)]) [0, 1, 2, 3, 4] rfl ?_
  exact hk34 s0 x2 x3 x4 y1 h
def F_X7_explain_34_b (k34 : St → Int32 → Int32 → Int32 → Int32 → Option (Int32 × St)) (s0 : St) (x2 : Int32) (x3 : Int32) (x4 : Int32) (x5 : Int32) : Option (Int32 × St) :=
  if (s0.1 29) ≤ x5 then (
    oC (f_X7_spread s0 x2 (-1 : Int32)) fun w3 =>
    oL w3 fun s2 =>
    oA x3 8 <|
    if x4 < (s2.2.1 35 (Int32.toNatClampNeg x3)) then (
      F_X7_explain_132 s2 (0 : Int32))
    else (
      F_X7_explain_132 s2 (1 : Int32)))
  else (
    oC (f_X5_isKnown s0 x5 (0 : Int32)) fun w7 =>
    oL w7.1 fun v5 => oL w7.2 fun s6 =>
    if v5 = 0 then (
      F_X7_explain_104 k34 s6 x2 x3 x4 x5)
    else (
      oA x5 80 <|
      if (s6.2.1 12 (Int32.toNatClampNeg x5)) = x2 then (
        oA x5 80 <|
        if (s6.2.1 13 (Int32.toNatClampNeg x5)) = x3 then (
          oA x5 80 <|
          if x4 < (s6.2.1 14 (Int32.toNatClampNeg x5)) then (
            F_X7_explain_104 k34 s6 x2 x3 x4 x5)
          else (
            some ((2 : Int32), s6)))
        else (
          F_X7_explain_104 k34 s6 x2 x3 x4 x5))
      else (
        F_X7_explain_104 k34 s6 x2 x3 x4 x5)))
set_option maxHeartbeats 4000000 in
set_option maxRecDepth 100000 in
theorem T_X7_explain_34_b {r : Int32} {z1 : St} {k34 : St → Int32 → Int32 → Int32 → Int32 → Option (Int32 × St)} (C : Cx p rm_X7_explain s m args c D A cX7_explain 6 RX7 rm_X7_explain N) (hE : En p l e rm_X7_explain s m args below meth c Q D A cX7_explain .ireturn (wC N z1) [.int r]) (hk34 : ∀ (s0 : St) (x2 : Int32) (x3 : Int32) (x4 : Int32) (x5 : Int32), k34 s0 x2 x3 x4 x5 = some (r, z1) → Aw p l e rm_X7_explain s m args below meth c Q D A 6 (wC N s0) 34 [(0, .ref (N.1 10)), (2, .int x2), (3, .int x3), (4, .int x4), (5, .int x5)] []) (s0 : St) (x2 : Int32) (x3 : Int32) (x4 : Int32) (x5 : Int32) (h : F_X7_explain_34_b k34 s0 x2 x3 x4 x5 = some (r, z1)) : Aw p l e rm_X7_explain s m args below meth c Q D A 6 (wC N s0) 34 [(0, .ref (N.1 10)), (2, .int x2), (3, .int x3), (4, .int x4), (5, .int x5)] [] := by
  unfold F_X7_explain_34_b at h
  refine aw_iload C 4 dX7_explain_34 rfl ?_
  refine aw_aload_n C 0 dX7_explain_36 rfl ?_
  refine cg_ru_notes C lw_7_7 dX7_explain_37 ?_
  refine cg_nt_held C lw_44_9 dX7_explain_40 ?_
  refine aw_icmp_ge (tgt := 110) C dX7_explain_43 (by decide) (fun q => ?_) (fun q => ?_)
  · have h := bq_t q h
    refine aw_aload_n C 0 dX7_explain_110 rfl ?_
    refine aw_iload_n C 1 dX7_explain_111 rfl ?_
    refine aw_iconst (v := -1) C dX7_explain_112 (by decide) ?_
    obtain ⟨s2, cw3, h⟩ := oC_e h
    have h := oL_e (x := s2) rfl h
    refine aw_callVv (n := 2) (As := [.int x2, .int (-1 : Int32)]) (rest := []) (q0 := 10) C (c_X7_spread l D N s0 s2 x2 (-1 : Int32) cw3) lw_46_0 lw_44_6 lw_44_7 lw_3_1 lw_44_8 rfl rfl (by decide +kernel) ⟨Nat.le_of_ble_eq_true rfl, Nat.le_of_ble_eq_true rfl⟩ rfl rfl rfl rfl rfl (Nat.le_of_ble_eq_true rfl) dX7_explain_113 ?_
    refine aw_aload_n C 0 dX7_explain_116 rfl ?_
    refine cg_ru_since C lw_7_5 dX7_explain_117 ?_
    refine aw_iload_n C 2 dX7_explain_120 rfl ?_
    obtain ⟨q4, h⟩ := oA_e h
    refine ca_iald (k := 35) C (by decide) rfl q4 dX7_explain_121 ?_
    refine aw_iload C 3 dX7_explain_122 rfl ?_
    refine aw_icmp_gt (tgt := 131) C dX7_explain_124 (by decide) (fun q => ?_) (fun q => ?_)
    · have h := bq_t q h
      refine aw_iconst (v := 0) C dX7_explain_131 (by decide) ?_
      refine aw_sub (lv' := []) [] rfl ?_
      exact T_X7_explain_132 C hE s2 (0 : Int32) h
    · have h := bq_f q h
      refine aw_iconst (v := 1) C dX7_explain_127 (by decide) ?_
      refine aw_goto (tgt := 132) C dX7_explain_128 (by decide) ?_
      refine aw_sub (lv' := []) [] rfl ?_
      exact T_X7_explain_132 C hE s2 (1 : Int32) h
  · have h := bq_f q h
    refine aw_aload_n C 0 dX7_explain_46 rfl ?_
    refine cg_ru_notes C lw_7_7 dX7_explain_47 ?_
    refine aw_iload C 4 dX7_explain_50 rfl ?_
    refine aw_iconst (v := 0) C dX7_explain_52 (by decide) ?_
    obtain ⟨⟨v5, s6⟩, cw7, h⟩ := oC_e h
    have h := oL_e (x := s6) rfl (oL_e (x := v5) rfl h)
    refine aw_callVi (n := 2) (As := [.int x5, .int (0 : Int32)]) (rest := []) (q0 := 5) C (c_X5_isKnown l D N s0 s6 x5 (0 : Int32) v5 cw7) lw_44_14 lw_28_1 lw_28_2 lw_1_18 lw_28_3 rfl rfl (by decide +kernel) ⟨Nat.le_of_ble_eq_true rfl, Nat.le_of_ble_eq_true rfl⟩ rfl rfl rfl rfl rfl (Nat.le_of_ble_eq_true rfl) dX7_explain_53 ?_
    refine aw_if_eq (tgt := 104) C dX7_explain_56 (by decide) (fun q => ?_) (fun q => ?_)
    · have h := bq_t q h
      refine aw_sub (lv' := [(0, .ref (N.1 10)), (2, .int x2), (3, .int x3), (4, .int x4), (5, .int x5)]) [0, 1, 2, 3, 4] rfl ?_
      exact T_X7_explain_104 C hE hk34 s6 x2 x3 x4 x5 h
    · have h := bq_f q h
      refine aw_aload_n C 0 dX7_explain_59 rfl ?_
      refine cg_ru_notes C lw_7_7 dX7_explain_60 ?_
      refine cg_nt_subject C lw_44_10 dX7_explain_63 ?_
      refine aw_iload C 4 dX7_explain_66 rfl ?_
      obtain ⟨q8, h⟩ := oA_e h
      refine ca_iald (k := 12) C (by decide) rfl q8 dX7_explain_68 ?_
      refine aw_iload_n C 1 dX7_explain_69 rfl ?_
      refine aw_icmp_ne (tgt := 104) C dX7_explain_70 (by decide) (fun q => ?_) (fun q => ?_)
      · have h := bq_f q h
        refine aw_sub (lv' := [(0, .ref (N.1 10)), (2, .int x2), (3, .int x3), (4, .int x4), (5, .int x5)]) [0, 1, 2, 3, 4] rfl ?_
        exact T_X7_explain_104 C hE hk34 s6 x2 x3 x4 x5 h
      · have h := bq_t q h
        refine aw_aload_n C 0 dX7_explain_73 rfl ?_
        refine cg_ru_notes C lw_7_7 dX7_explain_74 ?_
        refine cg_nt_object C lw_44_11 dX7_explain_77 ?_
        refine aw_iload C 4 dX7_explain_80 rfl ?_
        obtain ⟨q9, h⟩ := oA_e h
        refine ca_iald (k := 13) C (by decide) rfl q9 dX7_explain_82 ?_
        refine aw_iload_n C 2 dX7_explain_83 rfl ?_
        refine aw_icmp_ne (tgt := 104) C dX7_explain_84 (by decide) (fun q => ?_) (fun q => ?_)
        · have h := bq_f q h
          refine aw_sub (lv' := [(0, .ref (N.1 10)), (2, .int x2), (3, .int x3), (4, .int x4), (5, .int x5)]) [0, 1, 2, 3, 4] rfl ?_
          exact T_X7_explain_104 C hE hk34 s6 x2 x3 x4 x5 h
        · have h := bq_t q h
          refine aw_aload_n C 0 dX7_explain_87 rfl ?_
          refine cg_ru_notes C lw_7_7 dX7_explain_88 ?_
          refine cg_nt_third C lw_44_12 dX7_explain_91 ?_
          refine aw_iload C 4 dX7_explain_94 rfl ?_
          obtain ⟨q10, h⟩ := oA_e h
          refine ca_iald (k := 14) C (by decide) rfl q10 dX7_explain_96 ?_
          refine aw_iload C 3 dX7_explain_97 rfl ?_
          refine aw_icmp_gt (tgt := 104) C dX7_explain_99 (by decide) (fun q => ?_) (fun q => ?_)
          · have h := bq_t q h
            refine aw_sub (lv' := [(0, .ref (N.1 10)), (2, .int x2), (3, .int x3), (4, .int x4), (5, .int x5)]) [0, 1, 2, 3, 4] rfl ?_
            exact T_X7_explain_104 C hE hk34 s6 x2 x3 x4 x5 h
          · have h := bq_f q h
            refine aw_iconst (v := 2) C dX7_explain_102 (by decide) ?_
            cases h
            exact aw_ret hE dX7_explain_103
def F_X7_explain_34 : Nat → St → Int32 → Int32 → Int32 → Int32 → Option (Int32 × St)
  | 0 => fun _ _ _ _ _ => none
  | n + 1 => F_X7_explain_34_b (F_X7_explain_34 n)
theorem T_X7_explain_34 {r : Int32} {z1 : St} (C : Cx p rm_X7_explain s m args c D A cX7_explain 6 RX7 rm_X7_explain N) (hE : En p l e rm_X7_explain s m args below meth c Q D A cX7_explain .ireturn (wC N z1) [.int r])  : ∀ (n : Nat) (s0 : St) (x2 : Int32) (x3 : Int32) (x4 : Int32) (x5 : Int32), F_X7_explain_34 n s0 x2 x3 x4 x5 = some (r, z1) → Aw p l e rm_X7_explain s m args below meth c Q D A 6 (wC N s0) 34 [(0, .ref (N.1 10)), (2, .int x2), (3, .int x3), (4, .int x4), (5, .int x5)] [] := by
  intro n
  induction n with
  | zero => intro s0 x2 x3 x4 x5 h; cases h
  | succ n ih => intro s0 x2 x3 x4 x5 h; exact T_X7_explain_34_b C hE ih s0 x2 x3 x4 x5 h
def F_X7_explain_0 (s0 : St) (x1 : Int32) : Option (Int32 × St) :=
  oA x1 80 <|
  oL (s0.2.1 12 (Int32.toNatClampNeg x1)) fun y2 =>
  oA x1 80 <|
  oL (s0.2.1 13 (Int32.toNatClampNeg x1)) fun y4 =>
  oA x1 80 <|
  oL (s0.2.1 14 (Int32.toNatClampNeg x1)) fun y6 =>
  oL (0 : Int32) fun y7 =>
  F_X7_explain_34 100000 s0 y2 y4 y6 y7
set_option maxHeartbeats 4000000 in
set_option maxRecDepth 100000 in
theorem T_X7_explain_0 {r : Int32} {z1 : St} (C : Cx p rm_X7_explain s m args c D A cX7_explain 6 RX7 rm_X7_explain N) (hE : En p l e rm_X7_explain s m args below meth c Q D A cX7_explain .ireturn (wC N z1) [.int r])  (s0 : St) (x1 : Int32) (h : F_X7_explain_0 s0 x1 = some (r, z1)) : Aw p l e rm_X7_explain s m args below meth c Q D A 6 (wC N s0) 0 [(0, .ref (N.1 10)), (1, .int x1)] [] := by
  unfold F_X7_explain_0 at h
  refine aw_aload_n C 0 dX7_explain_0 rfl ?_
  refine cg_ru_notes C lw_7_7 dX7_explain_1 ?_
  refine cg_nt_subject C lw_44_10 dX7_explain_4 ?_
  refine aw_iload_n C 1 dX7_explain_7 rfl ?_
  obtain ⟨q1, h⟩ := oA_e h
  refine ca_iald (k := 12) C (by decide) rfl q1 dX7_explain_8 ?_
  refine aw_topi (fun y2 ey2 => ?_)
  have h := oL_e ey2 h
  refine aw_istore_n (lv' := [(0, .ref (N.1 10)), (1, .int x1), (2, .int y2)]) C [1, 2, 0] dX7_explain_9 rfl (by decide) rfl ?_
  refine aw_aload_n C 0 dX7_explain_10 rfl ?_
  refine cg_ru_notes C lw_7_7 dX7_explain_11 ?_
  refine cg_nt_object C lw_44_11 dX7_explain_14 ?_
  refine aw_iload_n C 1 dX7_explain_17 rfl ?_
  obtain ⟨q3, h⟩ := oA_e h
  refine ca_iald (k := 13) C (by decide) rfl q3 dX7_explain_18 ?_
  refine aw_topi (fun y4 ey4 => ?_)
  have h := oL_e ey4 h
  refine aw_istore_n (lv' := [(0, .ref (N.1 10)), (1, .int x1), (2, .int y2), (3, .int y4)]) C [1, 2, 3, 0] dX7_explain_19 rfl (by decide) rfl ?_
  refine aw_aload_n C 0 dX7_explain_20 rfl ?_
  refine cg_ru_notes C lw_7_7 dX7_explain_21 ?_
  refine cg_nt_third C lw_44_12 dX7_explain_24 ?_
  refine aw_iload_n C 1 dX7_explain_27 rfl ?_
  obtain ⟨q5, h⟩ := oA_e h
  refine ca_iald (k := 14) C (by decide) rfl q5 dX7_explain_28 ?_
  refine aw_topi (fun y6 ey6 => ?_)
  have h := oL_e ey6 h
  refine aw_istore (lv' := [(0, .ref (N.1 10)), (1, .int x1), (2, .int y2), (3, .int y4), (4, .int y6)]) C [1, 2, 3, 4, 0] dX7_explain_29 (by decide) rfl ?_
  refine aw_iconst (v := 0) C dX7_explain_31 (by decide) ?_
  refine aw_topi (fun y7 ey7 => ?_)
  have h := oL_e ey7 h
  refine aw_istore (lv' := [(0, .ref (N.1 10)), (1, .int x1), (2, .int y2), (3, .int y4), (4, .int y6), (5, .int y7)]) C [1, 2, 3, 4, 5, 0] dX7_explain_32 (by decide) rfl ?_
  refine aw_sub (lv' := [(0, .ref (N.1 10)), (2, .int y2), (3, .int y4), (4, .int y6), (5, .int y7)]) [0, 2, 3, 4, 5] rfl ?_
  exact T_X7_explain_34 C hE 100000 s0 y2 y4 y6 y7 h
def f_X7_explain (s0 : St) (x1 : Int32) : Option (Int32 × St) := F_X7_explain_0 s0 x1
theorem c_X7_explain (l : Launch) (D : va_G) (N : Nm) (s0 z1 : St) (x1 : Int32) (r : Int32) (h : f_X7_explain s0 x1 = some (r, z1)) : Meti l yX7_explain (tsU yX7_explain cX7_explain 6 (some .int)) rm_X7_explain D N [.ref (N.1 10), .int x1] (wC N s0) r (wC N z1) :=
  met_i (cc := cX7_explain) (nL := 6) (own := RX7) (by decide) rfl (Nat.le_of_ble_eq_true rfl) (fun p e s m args below meth c Q A C hE => aw_sub [0, 1] rfl (T_X7_explain_0 C hE s0 x1 h))
/-! AwardLine$Rumour.hasAct(I)Z -/
def rm_X7_hasAct : Room := { frames := 1, cells := 0, slots := 0, locals := 22 }
def F_X7_hasAct_40 (k2 : St → Int32 → Int32 → Option (Int32 × St)) (s0 : St) (x1 : Int32) (x2 : Int32) : Option (Int32 × St) :=
  oL (x2 + (1 : Int32)) fun y1 =>
  k2 s0 x1 y1
set_option maxHeartbeats 4000000 in
set_option maxRecDepth 100000 in
theorem T_X7_hasAct_40 {r : Int32} {z1 : St} {k2 : St → Int32 → Int32 → Option (Int32 × St)} (C : Cx p rm_X7_hasAct s m args c D A cX7_hasAct 3 RX7 rm_X7_hasAct N) (hE : En p l e rm_X7_hasAct s m args below meth c Q D A cX7_hasAct .ireturn (wC N z1) [.int r]) (hk2 : ∀ (s0 : St) (x1 : Int32) (x2 : Int32), k2 s0 x1 x2 = some (r, z1) → Aw p l e rm_X7_hasAct s m args below meth c Q D A 3 (wC N s0) 2 [(0, .ref (N.1 10)), (1, .int x1), (2, .int x2)] []) (s0 : St) (x1 : Int32) (x2 : Int32) (h : F_X7_hasAct_40 k2 s0 x1 x2 = some (r, z1)) : Aw p l e rm_X7_hasAct s m args below meth c Q D A 3 (wC N s0) 40 [(0, .ref (N.1 10)), (1, .int x1), (2, .int x2)] [] := by
  unfold F_X7_hasAct_40 at h
  obtain ⟨y1, ey1⟩ : ∃ q : Int32, q = x2 + (1 : Int32) := ⟨_, rfl⟩
  have h := oL_e ey1 h
  refine aw_iinc (v := y1) (k := 2) (lv' := [(0, .ref (N.1 10)), (1, .int x1), (2, .int y1)]) C [1, 2, 0] dX7_hasAct_40 rfl (by rw [ey1]; rfl) (by decide) rfl ?_
  refine aw_goto (tgt := 2) C dX7_hasAct_43 (by decide) ?_
  refine aw_sub (lv' := [(0, .ref (N.1 10)), (1, .int x1), (2, .int y1)]) [0, 1, 2] rfl ?_
  exact hk2 s0 x1 y1 h
def F_X7_hasAct_2_b (k2 : St → Int32 → Int32 → Option (Int32 × St)) (s0 : St) (x1 : Int32) (x2 : Int32) : Option (Int32 × St) :=
  if (s0.1 29) ≤ x2 then (
    some ((0 : Int32), s0))
  else (
    oC (f_X5_isKnown s0 x2 (2 : Int32)) fun w3 =>
    oL w3.1 fun v1 => oL w3.2 fun s2 =>
    if v1 = 0 then (
      F_X7_hasAct_40 k2 s2 x1 x2)
    else (
      oA x2 80 <|
      if (s2.2.1 12 (Int32.toNatClampNeg x2)) = x1 then (
        some ((1 : Int32), s2))
      else (
        F_X7_hasAct_40 k2 s2 x1 x2)))
set_option maxHeartbeats 4000000 in
set_option maxRecDepth 100000 in
theorem T_X7_hasAct_2_b {r : Int32} {z1 : St} {k2 : St → Int32 → Int32 → Option (Int32 × St)} (C : Cx p rm_X7_hasAct s m args c D A cX7_hasAct 3 RX7 rm_X7_hasAct N) (hE : En p l e rm_X7_hasAct s m args below meth c Q D A cX7_hasAct .ireturn (wC N z1) [.int r]) (hk2 : ∀ (s0 : St) (x1 : Int32) (x2 : Int32), k2 s0 x1 x2 = some (r, z1) → Aw p l e rm_X7_hasAct s m args below meth c Q D A 3 (wC N s0) 2 [(0, .ref (N.1 10)), (1, .int x1), (2, .int x2)] []) (s0 : St) (x1 : Int32) (x2 : Int32) (h : F_X7_hasAct_2_b k2 s0 x1 x2 = some (r, z1)) : Aw p l e rm_X7_hasAct s m args below meth c Q D A 3 (wC N s0) 2 [(0, .ref (N.1 10)), (1, .int x1), (2, .int x2)] [] := by
  unfold F_X7_hasAct_2_b at h
  refine aw_iload_n C 2 dX7_hasAct_2 rfl ?_
  refine aw_aload_n C 0 dX7_hasAct_3 rfl ?_
  refine cg_ru_notes C lw_7_7 dX7_hasAct_4 ?_
  refine cg_nt_held C lw_44_9 dX7_hasAct_7 ?_
  refine aw_icmp_ge (tgt := 46) C dX7_hasAct_10 (by decide) (fun q => ?_) (fun q => ?_)
  · have h := bq_t q h
    refine aw_iconst (v := 0) C dX7_hasAct_46 (by decide) ?_
    cases h
    exact aw_ret hE dX7_hasAct_47
  · have h := bq_f q h
    refine aw_aload_n C 0 dX7_hasAct_13 rfl ?_
    refine cg_ru_notes C lw_7_7 dX7_hasAct_14 ?_
    refine aw_iload_n C 2 dX7_hasAct_17 rfl ?_
    refine aw_iconst (v := 2) C dX7_hasAct_18 (by decide) ?_
    obtain ⟨⟨v1, s2⟩, cw3, h⟩ := oC_e h
    have h := oL_e (x := s2) rfl (oL_e (x := v1) rfl h)
    refine aw_callVi (n := 2) (As := [.int x2, .int (2 : Int32)]) (rest := []) (q0 := 5) C (c_X5_isKnown l D N s0 s2 x2 (2 : Int32) v1 cw3) lw_44_14 lw_28_1 lw_28_2 lw_1_18 lw_28_3 rfl rfl (by decide +kernel) ⟨Nat.le_of_ble_eq_true rfl, Nat.le_of_ble_eq_true rfl⟩ rfl rfl rfl rfl rfl (Nat.le_of_ble_eq_true rfl) dX7_hasAct_19 ?_
    refine aw_if_eq (tgt := 40) C dX7_hasAct_22 (by decide) (fun q => ?_) (fun q => ?_)
    · have h := bq_t q h
      refine aw_sub (lv' := [(0, .ref (N.1 10)), (1, .int x1), (2, .int x2)]) [0, 1, 2] rfl ?_
      exact T_X7_hasAct_40 C hE hk2 s2 x1 x2 h
    · have h := bq_f q h
      refine aw_aload_n C 0 dX7_hasAct_25 rfl ?_
      refine cg_ru_notes C lw_7_7 dX7_hasAct_26 ?_
      refine cg_nt_subject C lw_44_10 dX7_hasAct_29 ?_
      refine aw_iload_n C 2 dX7_hasAct_32 rfl ?_
      obtain ⟨q4, h⟩ := oA_e h
      refine ca_iald (k := 12) C (by decide) rfl q4 dX7_hasAct_33 ?_
      refine aw_iload_n C 1 dX7_hasAct_34 rfl ?_
      refine aw_icmp_ne (tgt := 40) C dX7_hasAct_35 (by decide) (fun q => ?_) (fun q => ?_)
      · have h := bq_f q h
        refine aw_sub (lv' := [(0, .ref (N.1 10)), (1, .int x1), (2, .int x2)]) [0, 1, 2] rfl ?_
        exact T_X7_hasAct_40 C hE hk2 s2 x1 x2 h
      · have h := bq_t q h
        refine aw_iconst (v := 1) C dX7_hasAct_38 (by decide) ?_
        cases h
        exact aw_ret hE dX7_hasAct_39
def F_X7_hasAct_2 : Nat → St → Int32 → Int32 → Option (Int32 × St)
  | 0 => fun _ _ _ => none
  | n + 1 => F_X7_hasAct_2_b (F_X7_hasAct_2 n)
theorem T_X7_hasAct_2 {r : Int32} {z1 : St} (C : Cx p rm_X7_hasAct s m args c D A cX7_hasAct 3 RX7 rm_X7_hasAct N) (hE : En p l e rm_X7_hasAct s m args below meth c Q D A cX7_hasAct .ireturn (wC N z1) [.int r])  : ∀ (n : Nat) (s0 : St) (x1 : Int32) (x2 : Int32), F_X7_hasAct_2 n s0 x1 x2 = some (r, z1) → Aw p l e rm_X7_hasAct s m args below meth c Q D A 3 (wC N s0) 2 [(0, .ref (N.1 10)), (1, .int x1), (2, .int x2)] [] := by
  intro n
  induction n with
  | zero => intro s0 x1 x2 h; cases h
  | succ n ih => intro s0 x1 x2 h; exact T_X7_hasAct_2_b C hE ih s0 x1 x2 h
def F_X7_hasAct_0 (s0 : St) (x1 : Int32) : Option (Int32 × St) :=
  oL (0 : Int32) fun y1 =>
  F_X7_hasAct_2 100000 s0 x1 y1
set_option maxHeartbeats 4000000 in
set_option maxRecDepth 100000 in
theorem T_X7_hasAct_0 {r : Int32} {z1 : St} (C : Cx p rm_X7_hasAct s m args c D A cX7_hasAct 3 RX7 rm_X7_hasAct N) (hE : En p l e rm_X7_hasAct s m args below meth c Q D A cX7_hasAct .ireturn (wC N z1) [.int r])  (s0 : St) (x1 : Int32) (h : F_X7_hasAct_0 s0 x1 = some (r, z1)) : Aw p l e rm_X7_hasAct s m args below meth c Q D A 3 (wC N s0) 0 [(0, .ref (N.1 10)), (1, .int x1)] [] := by
  unfold F_X7_hasAct_0 at h
  refine aw_iconst (v := 0) C dX7_hasAct_0 (by decide) ?_
  refine aw_topi (fun y1 ey1 => ?_)
  have h := oL_e ey1 h
  refine aw_istore_n (lv' := [(0, .ref (N.1 10)), (1, .int x1), (2, .int y1)]) C [1, 2, 0] dX7_hasAct_1 rfl (by decide) rfl ?_
  refine aw_sub (lv' := [(0, .ref (N.1 10)), (1, .int x1), (2, .int y1)]) [0, 1, 2] rfl ?_
  exact T_X7_hasAct_2 C hE 100000 s0 x1 y1 h
def f_X7_hasAct (s0 : St) (x1 : Int32) : Option (Int32 × St) := oC (F_X7_hasAct_0 s0 x1) fun w => oZ w.1 (some w)
theorem c_X7_hasAct (l : Launch) (D : va_G) (N : Nm) (s0 z1 : St) (x1 : Int32) (r : Int32) (h : f_X7_hasAct s0 x1 = some (r, z1)) : Meti l yX7_hasAct (tsU yX7_hasAct cX7_hasAct 3 (some .boolean)) rm_X7_hasAct D N [.ref (N.1 10), .int x1] (wC N s0) r (wC N z1) := by
  obtain ⟨w, h1, h2⟩ := oC_e h
  obtain ⟨hz, h2⟩ := oZ_e h2
  cases h2
  exact met_z (cc := cX7_hasAct) (nL := 3) (own := RX7) (by decide) rfl (Nat.le_of_ble_eq_true rfl) (zN hz) (fun p e s m args below meth c Q A C hE => aw_sub [0, 1] rfl (T_X7_hasAct_0 C hE s0 x1 h1))
/-! AwardLine$Rumour.losesAct(I)Z -/
def rm_X7_losesAct : Room := { frames := 1, cells := 0, slots := 0, locals := 22 }
def F_X7_losesAct_83 (k2 : St → Int32 → Int32 → Option (Int32 × St)) (s0 : St) (x1 : Int32) (x2 : Int32) : Option (Int32 × St) :=
  oL (x2 + (1 : Int32)) fun y1 =>
  k2 s0 x1 y1
set_option maxHeartbeats 4000000 in
set_option maxRecDepth 100000 in
theorem T_X7_losesAct_83 {r : Int32} {z1 : St} {k2 : St → Int32 → Int32 → Option (Int32 × St)} (C : Cx p rm_X7_losesAct s m args c D A cX7_losesAct 5 RX7 rm_X7_losesAct N) (hE : En p l e rm_X7_losesAct s m args below meth c Q D A cX7_losesAct .ireturn (wC N z1) [.int r]) (hk2 : ∀ (s0 : St) (x1 : Int32) (x2 : Int32), k2 s0 x1 x2 = some (r, z1) → Aw p l e rm_X7_losesAct s m args below meth c Q D A 5 (wC N s0) 2 [(0, .ref (N.1 10)), (1, .int x1), (2, .int x2)] []) (s0 : St) (x1 : Int32) (x2 : Int32) (h : F_X7_losesAct_83 k2 s0 x1 x2 = some (r, z1)) : Aw p l e rm_X7_losesAct s m args below meth c Q D A 5 (wC N s0) 83 [(0, .ref (N.1 10)), (1, .int x1), (2, .int x2)] [] := by
  unfold F_X7_losesAct_83 at h
  obtain ⟨y1, ey1⟩ : ∃ q : Int32, q = x2 + (1 : Int32) := ⟨_, rfl⟩
  have h := oL_e ey1 h
  refine aw_iinc (v := y1) (k := 2) (lv' := [(0, .ref (N.1 10)), (1, .int x1), (2, .int y1)]) C [1, 2, 0] dX7_losesAct_83 rfl (by rw [ey1]; rfl) (by decide) rfl ?_
  refine aw_goto (tgt := 2) C dX7_losesAct_86 (by decide) ?_
  refine aw_sub (lv' := [(0, .ref (N.1 10)), (1, .int x1), (2, .int y1)]) [0, 1, 2] rfl ?_
  exact hk2 s0 x1 y1 h
def F_X7_losesAct_2_b (k2 : St → Int32 → Int32 → Option (Int32 × St)) (s0 : St) (x1 : Int32) (x2 : Int32) : Option (Int32 × St) :=
  if (s0.1 29) ≤ x2 then (
    some ((0 : Int32), s0))
  else (
    oC (f_X5_isKnown s0 x2 (2 : Int32)) fun w3 =>
    oL w3.1 fun v1 => oL w3.2 fun s2 =>
    if v1 = 0 then (
      F_X7_losesAct_83 k2 s2 x1 x2)
    else (
      oA x2 80 <|
      if (s2.2.1 12 (Int32.toNatClampNeg x2)) = x1 then (
        oA x2 80 <|
        oL (s2.2.1 13 (Int32.toNatClampNeg x2)) fun y6 =>
        oA x2 80 <|
        oL (s2.2.1 14 (Int32.toNatClampNeg x2)) fun y8 =>
        oA y6 8 <|
        if y8 < (s2.2.1 36 (Int32.toNatClampNeg y6)) then (
          F_X7_losesAct_83 k2 s2 x1 x2)
        else (
          oA y6 8 <|
          if (s2.2.1 35 (Int32.toNatClampNeg y6)) ≤ y8 then (
            F_X7_losesAct_83 k2 s2 x1 x2)
          else (
            some ((1 : Int32), s2))))
      else (
        F_X7_losesAct_83 k2 s2 x1 x2)))
set_option maxHeartbeats 4000000 in
set_option maxRecDepth 100000 in
theorem T_X7_losesAct_2_b {r : Int32} {z1 : St} {k2 : St → Int32 → Int32 → Option (Int32 × St)} (C : Cx p rm_X7_losesAct s m args c D A cX7_losesAct 5 RX7 rm_X7_losesAct N) (hE : En p l e rm_X7_losesAct s m args below meth c Q D A cX7_losesAct .ireturn (wC N z1) [.int r]) (hk2 : ∀ (s0 : St) (x1 : Int32) (x2 : Int32), k2 s0 x1 x2 = some (r, z1) → Aw p l e rm_X7_losesAct s m args below meth c Q D A 5 (wC N s0) 2 [(0, .ref (N.1 10)), (1, .int x1), (2, .int x2)] []) (s0 : St) (x1 : Int32) (x2 : Int32) (h : F_X7_losesAct_2_b k2 s0 x1 x2 = some (r, z1)) : Aw p l e rm_X7_losesAct s m args below meth c Q D A 5 (wC N s0) 2 [(0, .ref (N.1 10)), (1, .int x1), (2, .int x2)] [] := by
  unfold F_X7_losesAct_2_b at h
  refine aw_iload_n C 2 dX7_losesAct_2 rfl ?_
  refine aw_aload_n C 0 dX7_losesAct_3 rfl ?_
  refine cg_ru_notes C lw_7_7 dX7_losesAct_4 ?_
  refine cg_nt_held C lw_44_9 dX7_losesAct_7 ?_
  refine aw_icmp_ge (tgt := 89) C dX7_losesAct_10 (by decide) (fun q => ?_) (fun q => ?_)
  · have h := bq_t q h
    refine aw_iconst (v := 0) C dX7_losesAct_89 (by decide) ?_
    cases h
    exact aw_ret hE dX7_losesAct_90
  · have h := bq_f q h
    refine aw_aload_n C 0 dX7_losesAct_13 rfl ?_
    refine cg_ru_notes C lw_7_7 dX7_losesAct_14 ?_
    refine aw_iload_n C 2 dX7_losesAct_17 rfl ?_
    refine aw_iconst (v := 2) C dX7_losesAct_18 (by decide) ?_
    obtain ⟨⟨v1, s2⟩, cw3, h⟩ := oC_e h
    have h := oL_e (x := s2) rfl (oL_e (x := v1) rfl h)
    refine aw_callVi (n := 2) (As := [.int x2, .int (2 : Int32)]) (rest := []) (q0 := 5) C (c_X5_isKnown l D N s0 s2 x2 (2 : Int32) v1 cw3) lw_44_14 lw_28_1 lw_28_2 lw_1_18 lw_28_3 rfl rfl (by decide +kernel) ⟨Nat.le_of_ble_eq_true rfl, Nat.le_of_ble_eq_true rfl⟩ rfl rfl rfl rfl rfl (Nat.le_of_ble_eq_true rfl) dX7_losesAct_19 ?_
    refine aw_if_eq (tgt := 83) C dX7_losesAct_22 (by decide) (fun q => ?_) (fun q => ?_)
    · have h := bq_t q h
      refine aw_sub (lv' := [(0, .ref (N.1 10)), (1, .int x1), (2, .int x2)]) [0, 1, 2] rfl ?_
      exact T_X7_losesAct_83 C hE hk2 s2 x1 x2 h
    · have h := bq_f q h
      refine aw_aload_n C 0 dX7_losesAct_25 rfl ?_
      refine cg_ru_notes C lw_7_7 dX7_losesAct_26 ?_
      refine cg_nt_subject C lw_44_10 dX7_losesAct_29 ?_
      refine aw_iload_n C 2 dX7_losesAct_32 rfl ?_
      obtain ⟨q4, h⟩ := oA_e h
      refine ca_iald (k := 12) C (by decide) rfl q4 dX7_losesAct_33 ?_
      refine aw_iload_n C 1 dX7_losesAct_34 rfl ?_
      refine aw_icmp_ne (tgt := 83) C dX7_losesAct_35 (by decide) (fun q => ?_) (fun q => ?_)
      · have h := bq_f q h
        refine aw_sub (lv' := [(0, .ref (N.1 10)), (1, .int x1), (2, .int x2)]) [0, 1, 2] rfl ?_
        exact T_X7_losesAct_83 C hE hk2 s2 x1 x2 h
      · have h := bq_t q h
        refine aw_aload_n C 0 dX7_losesAct_38 rfl ?_
        refine cg_ru_notes C lw_7_7 dX7_losesAct_39 ?_
        refine cg_nt_object C lw_44_11 dX7_losesAct_42 ?_
        refine aw_iload_n C 2 dX7_losesAct_45 rfl ?_
        obtain ⟨q5, h⟩ := oA_e h
        refine ca_iald (k := 13) C (by decide) rfl q5 dX7_losesAct_46 ?_
        refine aw_topi (fun y6 ey6 => ?_)
        have h := oL_e ey6 h
        refine aw_istore_n (lv' := [(0, .ref (N.1 10)), (1, .int x1), (2, .int x2), (3, .int y6)]) C [1, 2, 3, 0] dX7_losesAct_47 rfl (by decide) rfl ?_
        refine aw_aload_n C 0 dX7_losesAct_48 rfl ?_
        refine cg_ru_notes C lw_7_7 dX7_losesAct_49 ?_
        refine cg_nt_third C lw_44_12 dX7_losesAct_52 ?_
        refine aw_iload_n C 2 dX7_losesAct_55 rfl ?_
        obtain ⟨q7, h⟩ := oA_e h
        refine ca_iald (k := 14) C (by decide) rfl q7 dX7_losesAct_56 ?_
        refine aw_topi (fun y8 ey8 => ?_)
        have h := oL_e ey8 h
        refine aw_istore (lv' := [(0, .ref (N.1 10)), (1, .int x1), (2, .int x2), (3, .int y6), (4, .int y8)]) C [1, 2, 3, 4, 0] dX7_losesAct_57 (by decide) rfl ?_
        refine aw_aload_n C 0 dX7_losesAct_59 rfl ?_
        refine cg_ru_sinceOfAll C lw_7_6 dX7_losesAct_60 ?_
        refine aw_iload_n C 3 dX7_losesAct_63 rfl ?_
        obtain ⟨q9, h⟩ := oA_e h
        refine ca_iald (k := 36) C (by decide) rfl q9 dX7_losesAct_64 ?_
        refine aw_iload C 4 dX7_losesAct_65 rfl ?_
        refine aw_icmp_gt (tgt := 83) C dX7_losesAct_67 (by decide) (fun q => ?_) (fun q => ?_)
        · have h := bq_t q h
          refine aw_sub (lv' := [(0, .ref (N.1 10)), (1, .int x1), (2, .int x2)]) [0, 1, 2] rfl ?_
          exact T_X7_losesAct_83 C hE hk2 s2 x1 x2 h
        · have h := bq_f q h
          refine aw_aload_n C 0 dX7_losesAct_70 rfl ?_
          refine cg_ru_since C lw_7_5 dX7_losesAct_71 ?_
          refine aw_iload_n C 3 dX7_losesAct_74 rfl ?_
          obtain ⟨q10, h⟩ := oA_e h
          refine ca_iald (k := 35) C (by decide) rfl q10 dX7_losesAct_75 ?_
          refine aw_iload C 4 dX7_losesAct_76 rfl ?_
          refine aw_icmp_le (tgt := 83) C dX7_losesAct_78 (by decide) (fun q => ?_) (fun q => ?_)
          · have h := bq_t q h
            refine aw_sub (lv' := [(0, .ref (N.1 10)), (1, .int x1), (2, .int x2)]) [0, 1, 2] rfl ?_
            exact T_X7_losesAct_83 C hE hk2 s2 x1 x2 h
          · have h := bq_f q h
            refine aw_iconst (v := 1) C dX7_losesAct_81 (by decide) ?_
            cases h
            exact aw_ret hE dX7_losesAct_82
def F_X7_losesAct_2 : Nat → St → Int32 → Int32 → Option (Int32 × St)
  | 0 => fun _ _ _ => none
  | n + 1 => F_X7_losesAct_2_b (F_X7_losesAct_2 n)
theorem T_X7_losesAct_2 {r : Int32} {z1 : St} (C : Cx p rm_X7_losesAct s m args c D A cX7_losesAct 5 RX7 rm_X7_losesAct N) (hE : En p l e rm_X7_losesAct s m args below meth c Q D A cX7_losesAct .ireturn (wC N z1) [.int r])  : ∀ (n : Nat) (s0 : St) (x1 : Int32) (x2 : Int32), F_X7_losesAct_2 n s0 x1 x2 = some (r, z1) → Aw p l e rm_X7_losesAct s m args below meth c Q D A 5 (wC N s0) 2 [(0, .ref (N.1 10)), (1, .int x1), (2, .int x2)] [] := by
  intro n
  induction n with
  | zero => intro s0 x1 x2 h; cases h
  | succ n ih => intro s0 x1 x2 h; exact T_X7_losesAct_2_b C hE ih s0 x1 x2 h
def F_X7_losesAct_0 (s0 : St) (x1 : Int32) : Option (Int32 × St) :=
  oL (0 : Int32) fun y1 =>
  F_X7_losesAct_2 100000 s0 x1 y1
set_option maxHeartbeats 4000000 in
set_option maxRecDepth 100000 in
theorem T_X7_losesAct_0 {r : Int32} {z1 : St} (C : Cx p rm_X7_losesAct s m args c D A cX7_losesAct 5 RX7 rm_X7_losesAct N) (hE : En p l e rm_X7_losesAct s m args below meth c Q D A cX7_losesAct .ireturn (wC N z1) [.int r])  (s0 : St) (x1 : Int32) (h : F_X7_losesAct_0 s0 x1 = some (r, z1)) : Aw p l e rm_X7_losesAct s m args below meth c Q D A 5 (wC N s0) 0 [(0, .ref (N.1 10)), (1, .int x1)] [] := by
  unfold F_X7_losesAct_0 at h
  refine aw_iconst (v := 0) C dX7_losesAct_0 (by decide) ?_
  refine aw_topi (fun y1 ey1 => ?_)
  have h := oL_e ey1 h
  refine aw_istore_n (lv' := [(0, .ref (N.1 10)), (1, .int x1), (2, .int y1)]) C [1, 2, 0] dX7_losesAct_1 rfl (by decide) rfl ?_
  refine aw_sub (lv' := [(0, .ref (N.1 10)), (1, .int x1), (2, .int y1)]) [0, 1, 2] rfl ?_
  exact T_X7_losesAct_2 C hE 100000 s0 x1 y1 h
def f_X7_losesAct (s0 : St) (x1 : Int32) : Option (Int32 × St) := oC (F_X7_losesAct_0 s0 x1) fun w => oZ w.1 (some w)
theorem c_X7_losesAct (l : Launch) (D : va_G) (N : Nm) (s0 z1 : St) (x1 : Int32) (r : Int32) (h : f_X7_losesAct s0 x1 = some (r, z1)) : Meti l yX7_losesAct (tsU yX7_losesAct cX7_losesAct 5 (some .boolean)) rm_X7_losesAct D N [.ref (N.1 10), .int x1] (wC N s0) r (wC N z1) := by
  obtain ⟨w, h1, h2⟩ := oC_e h
  obtain ⟨hz, h2⟩ := oZ_e h2
  cases h2
  exact met_z (cc := cX7_losesAct) (nL := 5) (own := RX7) (by decide) rfl (Nat.le_of_ble_eq_true rfl) (zN hz) (fun p e s m args below meth c Q A C hE => aw_sub [0, 1] rfl (T_X7_losesAct_0 C hE s0 x1 h1))
/-! AwardLine$Rumour.carriersOf(I)I -/
def rm_X7_carriersOf : Room := { frames := 4, cells := 0, slots := 0, locals := 93 }
def F_X7_carriersOf_67 (k25 : St → Int32 → Int32 → Int32 → Option (Int32 × St)) (s0 : St) (x1 : Int32) (x2 : Int32) (x3 : Int32) : Option (Int32 × St) :=
  oL (x3 + (1 : Int32)) fun y1 =>
  k25 s0 x1 x2 y1
set_option maxHeartbeats 4000000 in
set_option maxRecDepth 100000 in
theorem T_X7_carriersOf_67 {r : Int32} {z1 : St} {k25 : St → Int32 → Int32 → Int32 → Option (Int32 × St)} (C : Cx p rm_X7_carriersOf s m args c D A cX7_carriersOf 4 RX7 rm_X7_carriersOf N) (hE : En p l e rm_X7_carriersOf s m args below meth c Q D A cX7_carriersOf .ireturn (wC N z1) [.int r]) (hk25 : ∀ (s0 : St) (x1 : Int32) (x2 : Int32) (x3 : Int32), k25 s0 x1 x2 x3 = some (r, z1) → Aw p l e rm_X7_carriersOf s m args below meth c Q D A 4 (wC N s0) 25 [(0, .ref (N.1 10)), (1, .int x1), (2, .int x2), (3, .int x3)] []) (s0 : St) (x1 : Int32) (x2 : Int32) (x3 : Int32) (h : F_X7_carriersOf_67 k25 s0 x1 x2 x3 = some (r, z1)) : Aw p l e rm_X7_carriersOf s m args below meth c Q D A 4 (wC N s0) 67 [(0, .ref (N.1 10)), (1, .int x1), (2, .int x2), (3, .int x3)] [] := by
  unfold F_X7_carriersOf_67 at h
  obtain ⟨y1, ey1⟩ : ∃ q : Int32, q = x3 + (1 : Int32) := ⟨_, rfl⟩
  have h := oL_e ey1 h
  refine aw_iinc (v := y1) (k := 3) (lv' := [(0, .ref (N.1 10)), (1, .int x1), (2, .int x2), (3, .int y1)]) C [1, 2, 3, 0] dX7_carriersOf_67 rfl (by rw [ey1]; rfl) (by decide) rfl ?_
  refine aw_goto (tgt := 25) C dX7_carriersOf_70 (by decide) ?_
  refine aw_sub (lv' := [(0, .ref (N.1 10)), (1, .int x1), (2, .int x2), (3, .int y1)]) [0, 1, 2, 3] rfl ?_
  exact hk25 s0 x1 x2 y1 h
def F_X7_carriersOf_65 (k25 : St → Int32 → Int32 → Int32 → Option (Int32 × St)) (s0 : St) (x1 : Int32) (x3 : Int32) (t0 : Int32) (t1 : Int32) : Option (Int32 × St) :=
  oL (t1 ||| t0) fun y1 =>
  F_X7_carriersOf_67 k25 s0 x1 y1 x3
set_option maxHeartbeats 4000000 in
set_option maxRecDepth 100000 in
theorem T_X7_carriersOf_65 {r : Int32} {z1 : St} {k25 : St → Int32 → Int32 → Int32 → Option (Int32 × St)} (C : Cx p rm_X7_carriersOf s m args c D A cX7_carriersOf 4 RX7 rm_X7_carriersOf N) (hE : En p l e rm_X7_carriersOf s m args below meth c Q D A cX7_carriersOf .ireturn (wC N z1) [.int r]) (hk25 : ∀ (s0 : St) (x1 : Int32) (x2 : Int32) (x3 : Int32), k25 s0 x1 x2 x3 = some (r, z1) → Aw p l e rm_X7_carriersOf s m args below meth c Q D A 4 (wC N s0) 25 [(0, .ref (N.1 10)), (1, .int x1), (2, .int x2), (3, .int x3)] []) (s0 : St) (x1 : Int32) (x3 : Int32) (t0 : Int32) (t1 : Int32) (h : F_X7_carriersOf_65 k25 s0 x1 x3 t0 t1 = some (r, z1)) : Aw p l e rm_X7_carriersOf s m args below meth c Q D A 4 (wC N s0) 65 [(0, .ref (N.1 10)), (1, .int x1), (3, .int x3)] [.int t0, .int t1] := by
  unfold F_X7_carriersOf_65 at h
  refine aw_ior C dX7_carriersOf_65 ?_
  refine aw_topi (fun y1 ey1 => ?_)
  have h := oL_e ey1 h
  refine aw_istore_n (lv' := [(0, .ref (N.1 10)), (1, .int x1), (2, .int y1), (3, .int x3)]) C [1, 2, 0, 3] dX7_carriersOf_66 rfl (by decide) rfl ?_
  refine aw_sub (lv' := [(0, .ref (N.1 10)), (1, .int x1), (2, .int y1), (3, .int x3)]) [0, 1, 2, 3] rfl ?_
  exact T_X7_carriersOf_67 C hE hk25 s0 x1 y1 x3 h
def F_X7_carriersOf_25_b (k25 : St → Int32 → Int32 → Int32 → Option (Int32 × St)) (s0 : St) (x1 : Int32) (x2 : Int32) (x3 : Int32) : Option (Int32 × St) :=
  if (8 : Int32) ≤ x3 then (
    some (x2, s0))
  else (
    oA x3 8 <|
    if (s0.2.1 36 (Int32.toNatClampNeg x3)) = (1000 : Int32) then (
      F_X7_carriersOf_67 k25 s0 x1 x2 x3)
    else (
      oC (f_X7_spread s0 x1 x3) fun w4 =>
      oL w4 fun s3 =>
      oC (f_X7_losesAct s3 x1) fun w7 =>
      oL w7.1 fun v5 => oL w7.2 fun s6 =>
      if v5 = 0 then (
        F_X7_carriersOf_65 k25 s6 x1 x3 (0 : Int32) x2)
      else (
        F_X7_carriersOf_65 k25 s6 x1 x3 ((1 : Int32) <<< (x3 &&& 31)) x2)))
set_option maxHeartbeats 4000000 in
set_option maxRecDepth 100000 in
theorem T_X7_carriersOf_25_b {r : Int32} {z1 : St} {k25 : St → Int32 → Int32 → Int32 → Option (Int32 × St)} (C : Cx p rm_X7_carriersOf s m args c D A cX7_carriersOf 4 RX7 rm_X7_carriersOf N) (hE : En p l e rm_X7_carriersOf s m args below meth c Q D A cX7_carriersOf .ireturn (wC N z1) [.int r]) (hk25 : ∀ (s0 : St) (x1 : Int32) (x2 : Int32) (x3 : Int32), k25 s0 x1 x2 x3 = some (r, z1) → Aw p l e rm_X7_carriersOf s m args below meth c Q D A 4 (wC N s0) 25 [(0, .ref (N.1 10)), (1, .int x1), (2, .int x2), (3, .int x3)] []) (s0 : St) (x1 : Int32) (x2 : Int32) (x3 : Int32) (h : F_X7_carriersOf_25_b k25 s0 x1 x2 x3 = some (r, z1)) : Aw p l e rm_X7_carriersOf s m args below meth c Q D A 4 (wC N s0) 25 [(0, .ref (N.1 10)), (1, .int x1), (2, .int x2), (3, .int x3)] [] := by
  unfold F_X7_carriersOf_25_b at h
  refine aw_iload_n C 3 dX7_carriersOf_25 rfl ?_
  refine aw_bipush (v := 8) C dX7_carriersOf_26 (by decide) ?_
  refine aw_icmp_ge (tgt := 73) C dX7_carriersOf_28 (by decide) (fun q => ?_) (fun q => ?_)
  · have h := bq_t q h
    refine aw_iload_n C 2 dX7_carriersOf_73 rfl ?_
    cases h
    exact aw_ret hE dX7_carriersOf_74
  · have h := bq_f q h
    refine aw_aload_n C 0 dX7_carriersOf_31 rfl ?_
    refine cg_ru_sinceOfAll C lw_7_6 dX7_carriersOf_32 ?_
    refine aw_iload_n C 3 dX7_carriersOf_35 rfl ?_
    obtain ⟨q1, h⟩ := oA_e h
    refine ca_iald (k := 36) C (by decide) rfl q1 dX7_carriersOf_36 ?_
    refine aw_sipush (v := 1000) C dX7_carriersOf_37 (by decide) ?_
    refine aw_icmp_eq (tgt := 67) C dX7_carriersOf_40 (by decide) (fun q => ?_) (fun q => ?_)
    · have h := bq_t q h
      refine aw_sub (lv' := [(0, .ref (N.1 10)), (1, .int x1), (2, .int x2), (3, .int x3)]) [0, 1, 2, 3] rfl ?_
      exact T_X7_carriersOf_67 C hE hk25 s0 x1 x2 x3 h
    · have h := bq_f q h
      refine aw_aload_n C 0 dX7_carriersOf_43 rfl ?_
      refine aw_iload_n C 1 dX7_carriersOf_44 rfl ?_
      refine aw_iload_n C 3 dX7_carriersOf_45 rfl ?_
      obtain ⟨s3, cw4, h⟩ := oC_e h
      have h := oL_e (x := s3) rfl h
      refine aw_callVv (n := 2) (As := [.int x1, .int x3]) (rest := []) (q0 := 10) C (c_X7_spread l D N s0 s3 x1 x3 cw4) lw_46_0 lw_44_6 lw_44_7 lw_3_1 lw_44_8 rfl rfl (by decide +kernel) ⟨Nat.le_of_ble_eq_true rfl, Nat.le_of_ble_eq_true rfl⟩ rfl rfl rfl rfl rfl (Nat.le_of_ble_eq_true rfl) dX7_carriersOf_46 ?_
      refine aw_iload_n C 2 dX7_carriersOf_49 rfl ?_
      refine aw_aload_n C 0 dX7_carriersOf_50 rfl ?_
      refine aw_iload_n C 1 dX7_carriersOf_51 rfl ?_
      obtain ⟨⟨v5, s6⟩, cw7, h⟩ := oC_e h
      have h := oL_e (x := s6) rfl (oL_e (x := v5) rfl h)
      refine aw_callVi (n := 1) (As := [.int x1]) (rest := [.int x2]) (q0 := 10) C (c_X7_losesAct l D N s3 s6 x1 v5 cw7) lw_47_5 lw_47_6 lw_47_7 lw_3_1 lw_47_8 rfl rfl (by decide +kernel) ⟨Nat.le_of_ble_eq_true rfl, Nat.le_of_ble_eq_true rfl⟩ rfl rfl rfl rfl rfl (Nat.le_of_ble_eq_true rfl) dX7_carriersOf_52 ?_
      refine aw_if_eq (tgt := 64) C dX7_carriersOf_55 (by decide) (fun q => ?_) (fun q => ?_)
      · have h := bq_t q h
        refine aw_iconst (v := 0) C dX7_carriersOf_64 (by decide) ?_
        refine aw_sub (lv' := [(0, .ref (N.1 10)), (1, .int x1), (3, .int x3)]) [0, 1, 3] rfl ?_
        exact T_X7_carriersOf_65 C hE hk25 s6 x1 x3 (0 : Int32) x2 h
      · have h := bq_f q h
        refine aw_iconst (v := 1) C dX7_carriersOf_58 (by decide) ?_
        refine aw_iload_n C 3 dX7_carriersOf_59 rfl ?_
        refine aw_ishl C dX7_carriersOf_60 ?_
        refine aw_goto (tgt := 65) C dX7_carriersOf_61 (by decide) ?_
        refine aw_sub (lv' := [(0, .ref (N.1 10)), (1, .int x1), (3, .int x3)]) [0, 1, 3] rfl ?_
        exact T_X7_carriersOf_65 C hE hk25 s6 x1 x3 ((1 : Int32) <<< (x3 &&& 31)) x2 h
def F_X7_carriersOf_25 : Nat → St → Int32 → Int32 → Int32 → Option (Int32 × St)
  | 0 => fun _ _ _ _ => none
  | n + 1 => F_X7_carriersOf_25_b (F_X7_carriersOf_25 n)
theorem T_X7_carriersOf_25 {r : Int32} {z1 : St} (C : Cx p rm_X7_carriersOf s m args c D A cX7_carriersOf 4 RX7 rm_X7_carriersOf N) (hE : En p l e rm_X7_carriersOf s m args below meth c Q D A cX7_carriersOf .ireturn (wC N z1) [.int r])  : ∀ (n : Nat) (s0 : St) (x1 : Int32) (x2 : Int32) (x3 : Int32), F_X7_carriersOf_25 n s0 x1 x2 x3 = some (r, z1) → Aw p l e rm_X7_carriersOf s m args below meth c Q D A 4 (wC N s0) 25 [(0, .ref (N.1 10)), (1, .int x1), (2, .int x2), (3, .int x3)] [] := by
  intro n
  induction n with
  | zero => intro s0 x1 x2 x3 h; cases h
  | succ n ih => intro s0 x1 x2 x3 h; exact T_X7_carriersOf_25_b C hE ih s0 x1 x2 x3 h
def F_X7_carriersOf_0 (s0 : St) (x1 : Int32) : Option (Int32 × St) :=
  oC (f_X7_spread s0 x1 (-1 : Int32)) fun w3 =>
  oL w3 fun s2 =>
  oL (sA s2 36 (va_cpy (s2.2.1 35) (s2.2.1 36) (Int32.toNatClampNeg (0 : Int32)) (Int32.toNatClampNeg (0 : Int32)) (Int32.toNatClampNeg (8 : Int32)))) fun s4 =>
  oL (0 : Int32) fun y5 =>
  oL (0 : Int32) fun y6 =>
  F_X7_carriersOf_25 100000 s4 x1 y5 y6
set_option maxHeartbeats 4000000 in
set_option maxRecDepth 100000 in
theorem T_X7_carriersOf_0 {r : Int32} {z1 : St} (C : Cx p rm_X7_carriersOf s m args c D A cX7_carriersOf 4 RX7 rm_X7_carriersOf N) (hE : En p l e rm_X7_carriersOf s m args below meth c Q D A cX7_carriersOf .ireturn (wC N z1) [.int r])  (s0 : St) (x1 : Int32) (h : F_X7_carriersOf_0 s0 x1 = some (r, z1)) : Aw p l e rm_X7_carriersOf s m args below meth c Q D A 4 (wC N s0) 0 [(0, .ref (N.1 10)), (1, .int x1)] [] := by
  unfold F_X7_carriersOf_0 at h
  refine aw_aload_n C 0 dX7_carriersOf_0 rfl ?_
  refine aw_iload_n C 1 dX7_carriersOf_1 rfl ?_
  refine aw_iconst (v := -1) C dX7_carriersOf_2 (by decide) ?_
  obtain ⟨s2, cw3, h⟩ := oC_e h
  have h := oL_e (x := s2) rfl h
  refine aw_callVv (n := 2) (As := [.int x1, .int (-1 : Int32)]) (rest := []) (q0 := 10) C (c_X7_spread l D N s0 s2 x1 (-1 : Int32) cw3) lw_46_0 lw_44_6 lw_44_7 lw_3_1 lw_44_8 rfl rfl (by decide +kernel) ⟨Nat.le_of_ble_eq_true rfl, Nat.le_of_ble_eq_true rfl⟩ rfl rfl rfl rfl rfl (Nat.le_of_ble_eq_true rfl) dX7_carriersOf_3 ?_
  refine aw_aload_n C 0 dX7_carriersOf_6 rfl ?_
  refine cg_ru_since C lw_7_5 dX7_carriersOf_7 ?_
  refine aw_iconst (v := 0) C dX7_carriersOf_10 (by decide) ?_
  refine aw_aload_n C 0 dX7_carriersOf_11 rfl ?_
  refine cg_ru_sinceOfAll C lw_7_6 dX7_carriersOf_12 ?_
  refine aw_iconst (v := 0) C dX7_carriersOf_15 (by decide) ?_
  refine aw_bipush (v := 8) C dX7_carriersOf_16 (by decide) ?_
  refine ca_copy (k0 := 35) (k1 := 36) C (by decide +kernel) (by decide +kernel) (by decide +kernel) (by decide +kernel) (by decide) rfl (by decide) rfl (by decide) (by decide) (by decide) (by decide) (by decide) (Nat.le_of_ble_eq_true rfl) (by decide) dX7_carriersOf_18 ?_
  refine ca_name (fun s4 es4 => ?_)
  have h := oL_e es4 h
  refine aw_iconst (v := 0) C dX7_carriersOf_21 (by decide) ?_
  refine aw_topi (fun y5 ey5 => ?_)
  have h := oL_e ey5 h
  refine aw_istore_n (lv' := [(0, .ref (N.1 10)), (1, .int x1), (2, .int y5)]) C [1, 2, 0] dX7_carriersOf_22 rfl (by decide) rfl ?_
  refine aw_iconst (v := 0) C dX7_carriersOf_23 (by decide) ?_
  refine aw_topi (fun y6 ey6 => ?_)
  have h := oL_e ey6 h
  refine aw_istore_n (lv' := [(0, .ref (N.1 10)), (1, .int x1), (2, .int y5), (3, .int y6)]) C [1, 2, 3, 0] dX7_carriersOf_24 rfl (by decide) rfl ?_
  refine aw_sub (lv' := [(0, .ref (N.1 10)), (1, .int x1), (2, .int y5), (3, .int y6)]) [0, 1, 2, 3] rfl ?_
  exact T_X7_carriersOf_25 C hE 100000 s4 x1 y5 y6 h
def f_X7_carriersOf (s0 : St) (x1 : Int32) : Option (Int32 × St) := F_X7_carriersOf_0 s0 x1
theorem c_X7_carriersOf (l : Launch) (D : va_G) (N : Nm) (s0 z1 : St) (x1 : Int32) (r : Int32) (h : f_X7_carriersOf s0 x1 = some (r, z1)) : Meti l yX7_carriersOf (tsU yX7_carriersOf cX7_carriersOf 4 (some .int)) rm_X7_carriersOf D N [.ref (N.1 10), .int x1] (wC N s0) r (wC N z1) :=
  met_i (cc := cX7_carriersOf) (nL := 4) (own := RX7) (by decide) rfl (Nat.le_of_ble_eq_true rfl) (fun p e s m args below meth c Q A C hE => aw_sub [0, 1] rfl (T_X7_carriersOf_0 C hE s0 x1 h))
/-! AwardLine$Rumour.carriers()I -/
def rm_X7_carriers : Room := { frames := 5, cells := 0, slots := 0, locals := 116 }
def F_X7_carriers_26 (k4 : St → Int32 → Int32 → Option (Int32 × St)) (s0 : St) (x1 : Int32) (x2 : Int32) : Option (Int32 × St) :=
  oL (x2 + (1 : Int32)) fun y1 =>
  k4 s0 x1 y1
set_option maxHeartbeats 4000000 in
set_option maxRecDepth 100000 in
theorem T_X7_carriers_26 {r : Int32} {z1 : St} {k4 : St → Int32 → Int32 → Option (Int32 × St)} (C : Cx p rm_X7_carriers s m args c D A cX7_carriers 3 RX7 rm_X7_carriers N) (hE : En p l e rm_X7_carriers s m args below meth c Q D A cX7_carriers .ireturn (wC N z1) [.int r]) (hk4 : ∀ (s0 : St) (x1 : Int32) (x2 : Int32), k4 s0 x1 x2 = some (r, z1) → Aw p l e rm_X7_carriers s m args below meth c Q D A 3 (wC N s0) 4 [(0, .ref (N.1 10)), (1, .int x1), (2, .int x2)] []) (s0 : St) (x1 : Int32) (x2 : Int32) (h : F_X7_carriers_26 k4 s0 x1 x2 = some (r, z1)) : Aw p l e rm_X7_carriers s m args below meth c Q D A 3 (wC N s0) 26 [(0, .ref (N.1 10)), (1, .int x1), (2, .int x2)] [] := by
  unfold F_X7_carriers_26 at h
  obtain ⟨y1, ey1⟩ : ∃ q : Int32, q = x2 + (1 : Int32) := ⟨_, rfl⟩
  have h := oL_e ey1 h
  refine aw_iinc (v := y1) (k := 2) (lv' := [(0, .ref (N.1 10)), (1, .int x1), (2, .int y1)]) C [1, 2, 0] dX7_carriers_26 rfl (by rw [ey1]; rfl) (by decide) rfl ?_
  refine aw_goto (tgt := 4) C dX7_carriers_29 (by decide) ?_
  refine aw_sub (lv' := [(0, .ref (N.1 10)), (1, .int x1), (2, .int y1)]) [0, 1, 2] rfl ?_
  exact hk4 s0 x1 y1 h
def F_X7_carriers_4_b (k4 : St → Int32 → Int32 → Option (Int32 × St)) (s0 : St) (x1 : Int32) (x2 : Int32) : Option (Int32 × St) :=
  if (12 : Int32) ≤ x2 then (
    some (x1, s0))
  else (
    oC (f_X7_hasAct s0 x2) fun w3 =>
    oL w3.1 fun v1 => oL w3.2 fun s2 =>
    if v1 = 0 then (
      F_X7_carriers_26 k4 s2 x1 x2)
    else (
      oC (f_X7_carriersOf s2 x2) fun w6 =>
      oL w6.1 fun v4 => oL w6.2 fun s5 =>
      oL (x1 ||| v4) fun y7 =>
      F_X7_carriers_26 k4 s5 y7 x2))
set_option maxHeartbeats 4000000 in
set_option maxRecDepth 100000 in
theorem T_X7_carriers_4_b {r : Int32} {z1 : St} {k4 : St → Int32 → Int32 → Option (Int32 × St)} (C : Cx p rm_X7_carriers s m args c D A cX7_carriers 3 RX7 rm_X7_carriers N) (hE : En p l e rm_X7_carriers s m args below meth c Q D A cX7_carriers .ireturn (wC N z1) [.int r]) (hk4 : ∀ (s0 : St) (x1 : Int32) (x2 : Int32), k4 s0 x1 x2 = some (r, z1) → Aw p l e rm_X7_carriers s m args below meth c Q D A 3 (wC N s0) 4 [(0, .ref (N.1 10)), (1, .int x1), (2, .int x2)] []) (s0 : St) (x1 : Int32) (x2 : Int32) (h : F_X7_carriers_4_b k4 s0 x1 x2 = some (r, z1)) : Aw p l e rm_X7_carriers s m args below meth c Q D A 3 (wC N s0) 4 [(0, .ref (N.1 10)), (1, .int x1), (2, .int x2)] [] := by
  unfold F_X7_carriers_4_b at h
  refine aw_iload_n C 2 dX7_carriers_4 rfl ?_
  refine aw_bipush (v := 12) C dX7_carriers_5 (by decide) ?_
  refine aw_icmp_ge (tgt := 32) C dX7_carriers_7 (by decide) (fun q => ?_) (fun q => ?_)
  · have h := bq_t q h
    refine aw_iload_n C 1 dX7_carriers_32 rfl ?_
    cases h
    exact aw_ret hE dX7_carriers_33
  · have h := bq_f q h
    refine aw_aload_n C 0 dX7_carriers_10 rfl ?_
    refine aw_iload_n C 2 dX7_carriers_11 rfl ?_
    obtain ⟨⟨v1, s2⟩, cw3, h⟩ := oC_e h
    have h := oL_e (x := s2) rfl (oL_e (x := v1) rfl h)
    refine aw_callVi (n := 1) (As := [.int x2]) (rest := []) (q0 := 10) C (c_X7_hasAct l D N s0 s2 x2 v1 cw3) lw_46_17 lw_46_18 lw_46_19 lw_3_1 lw_46_20 rfl rfl (by decide +kernel) ⟨Nat.le_of_ble_eq_true rfl, Nat.le_of_ble_eq_true rfl⟩ rfl rfl rfl rfl rfl (Nat.le_of_ble_eq_true rfl) dX7_carriers_12 ?_
    refine aw_if_eq (tgt := 26) C dX7_carriers_15 (by decide) (fun q => ?_) (fun q => ?_)
    · have h := bq_t q h
      refine aw_sub (lv' := [(0, .ref (N.1 10)), (1, .int x1), (2, .int x2)]) [0, 1, 2] rfl ?_
      exact T_X7_carriers_26 C hE hk4 s2 x1 x2 h
    · have h := bq_f q h
      refine aw_iload_n C 1 dX7_carriers_18 rfl ?_
      refine aw_aload_n C 0 dX7_carriers_19 rfl ?_
      refine aw_iload_n C 2 dX7_carriers_20 rfl ?_
      obtain ⟨⟨v4, s5⟩, cw6, h⟩ := oC_e h
      have h := oL_e (x := s5) rfl (oL_e (x := v4) rfl h)
      refine aw_callVi (n := 1) (As := [.int x2]) (rest := [.int x1]) (q0 := 10) C (c_X7_carriersOf l D N s2 s5 x2 v4 cw6) lw_46_21 lw_46_22 lw_46_23 lw_3_1 lw_47_0 rfl rfl (by decide +kernel) ⟨Nat.le_of_ble_eq_true rfl, Nat.le_of_ble_eq_true rfl⟩ rfl rfl rfl rfl rfl (Nat.le_of_ble_eq_true rfl) dX7_carriers_21 ?_
      refine aw_ior C dX7_carriers_24 ?_
      refine aw_topi (fun y7 ey7 => ?_)
      have h := oL_e ey7 h
      refine aw_istore_n (lv' := [(0, .ref (N.1 10)), (1, .int y7), (2, .int x2)]) C [1, 0, 2] dX7_carriers_25 rfl (by decide) rfl ?_
      refine aw_sub (lv' := [(0, .ref (N.1 10)), (1, .int y7), (2, .int x2)]) [0, 1, 2] rfl ?_
      exact T_X7_carriers_26 C hE hk4 s5 y7 x2 h
def F_X7_carriers_4 : Nat → St → Int32 → Int32 → Option (Int32 × St)
  | 0 => fun _ _ _ => none
  | n + 1 => F_X7_carriers_4_b (F_X7_carriers_4 n)
theorem T_X7_carriers_4 {r : Int32} {z1 : St} (C : Cx p rm_X7_carriers s m args c D A cX7_carriers 3 RX7 rm_X7_carriers N) (hE : En p l e rm_X7_carriers s m args below meth c Q D A cX7_carriers .ireturn (wC N z1) [.int r])  : ∀ (n : Nat) (s0 : St) (x1 : Int32) (x2 : Int32), F_X7_carriers_4 n s0 x1 x2 = some (r, z1) → Aw p l e rm_X7_carriers s m args below meth c Q D A 3 (wC N s0) 4 [(0, .ref (N.1 10)), (1, .int x1), (2, .int x2)] [] := by
  intro n
  induction n with
  | zero => intro s0 x1 x2 h; cases h
  | succ n ih => intro s0 x1 x2 h; exact T_X7_carriers_4_b C hE ih s0 x1 x2 h
def F_X7_carriers_0 (s0 : St) : Option (Int32 × St) :=
  oL (0 : Int32) fun y1 =>
  oL (0 : Int32) fun y2 =>
  F_X7_carriers_4 100000 s0 y1 y2
set_option maxHeartbeats 4000000 in
set_option maxRecDepth 100000 in
theorem T_X7_carriers_0 {r : Int32} {z1 : St} (C : Cx p rm_X7_carriers s m args c D A cX7_carriers 3 RX7 rm_X7_carriers N) (hE : En p l e rm_X7_carriers s m args below meth c Q D A cX7_carriers .ireturn (wC N z1) [.int r])  (s0 : St) (h : F_X7_carriers_0 s0 = some (r, z1)) : Aw p l e rm_X7_carriers s m args below meth c Q D A 3 (wC N s0) 0 [(0, .ref (N.1 10))] [] := by
  unfold F_X7_carriers_0 at h
  refine aw_iconst (v := 0) C dX7_carriers_0 (by decide) ?_
  refine aw_topi (fun y1 ey1 => ?_)
  have h := oL_e ey1 h
  refine aw_istore_n (lv' := [(0, .ref (N.1 10)), (1, .int y1)]) C [1, 0] dX7_carriers_1 rfl (by decide) rfl ?_
  refine aw_iconst (v := 0) C dX7_carriers_2 (by decide) ?_
  refine aw_topi (fun y2 ey2 => ?_)
  have h := oL_e ey2 h
  refine aw_istore_n (lv' := [(0, .ref (N.1 10)), (1, .int y1), (2, .int y2)]) C [1, 2, 0] dX7_carriers_3 rfl (by decide) rfl ?_
  refine aw_sub (lv' := [(0, .ref (N.1 10)), (1, .int y1), (2, .int y2)]) [0, 1, 2] rfl ?_
  exact T_X7_carriers_4 C hE 100000 s0 y1 y2 h
def f_X7_carriers (s0 : St) : Option (Int32 × St) := F_X7_carriers_0 s0
theorem c_X7_carriers (l : Launch) (D : va_G) (N : Nm) (s0 z1 : St) (r : Int32) (h : f_X7_carriers s0 = some (r, z1)) : Meti l yX7_carriers (tsU yX7_carriers cX7_carriers 3 (some .int)) rm_X7_carriers D N [.ref (N.1 10)] (wC N s0) r (wC N z1) :=
  met_i (cc := cX7_carriers) (nL := 3) (own := RX7) (by decide) rfl (Nat.le_of_ble_eq_true rfl) (fun p e s m args below meth c Q A C hE => aw_sub [0] rfl (T_X7_carriers_0 C hE s0 h))
end WK
