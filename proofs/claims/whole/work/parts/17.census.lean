section WK
variable {p : Program} {l : Launch} {e : Env} {s : State} {m : MethodId} {args : Array Value} {below : List Frame} {meth : Method} {c : Code} {Q : State → Prop} {D : va_G} {A : Nat → Prop} {N : Nm}
/-! AwardLine$Census.narrow(IIII)V -/
def rm_X0_narrow : Room := { frames := 1, cells := 0, slots := 0, locals := 21 }
def F_X0_narrow_0 (s0 : St) (x1 : Int32) (x2 : Int32) (x3 : Int32) (x4 : Int32) : Option (St) :=
  oD (100 : Int32) <|
  oL ((x3 * ((100 : Int32) - x4)) / (100 : Int32)) fun y2 =>
  oC (f_X11_shareUp s0 x3 ((100 : Int32) + x4)) fun w5 =>
  oL w5.1 fun v3 => oL w5.2 fun s4 =>
  oA x1 2 <|
  oA x1 2 <|
  oX (20 + Int32.toNatClampNeg x1) x2 <|
  oX (20 + Int32.toNatClampNeg x1) x2 <|
  oL (sA s4 (20 + Int32.toNatClampNeg x1) (upd (s4.2.1 (20 + Int32.toNatClampNeg x1)) (Int32.toNatClampNeg x2) (jmax (s4.2.1 (20 + Int32.toNatClampNeg x1) (Int32.toNatClampNeg x2)) y2))) fun s12 =>
  oA x1 2 <|
  oA x1 2 <|
  oX (23 + Int32.toNatClampNeg x1) x2 <|
  oX (23 + Int32.toNatClampNeg x1) x2 <|
  oL (sA s12 (23 + Int32.toNatClampNeg x1) (upd (s12.2.1 (23 + Int32.toNatClampNeg x1)) (Int32.toNatClampNeg x2) (jmin (s12.2.1 (23 + Int32.toNatClampNeg x1) (Int32.toNatClampNeg x2)) v3))) fun s19 =>
  some s19
set_option maxHeartbeats 4000000 in
set_option maxRecDepth 100000 in
theorem T_X0_narrow_0 {z1 : St} (C : Cx p rm_X0_narrow s m args c D A cX0_narrow 7 RX0 rm_X0_narrow N) (hE : En p l e rm_X0_narrow s m args below meth c Q D A cX0_narrow .return_ (wC N z1) [])  (s0 : St) (x1 : Int32) (x2 : Int32) (x3 : Int32) (x4 : Int32) (h : F_X0_narrow_0 s0 x1 x2 x3 x4 = some z1) : Aw p l e rm_X0_narrow s m args below meth c Q D A 7 (wC N s0) 0 [(0, .ref (N.1 6)), (1, .int x1), (2, .int x2), (3, .int x3), (4, .int x4)] [] := by
  unfold F_X0_narrow_0 at h
  refine aw_iload_n C 3 dX0_narrow_0 rfl ?_
  refine aw_bipush (v := 100) C dX0_narrow_1 (by decide) ?_
  refine aw_iload C 4 dX0_narrow_3 rfl ?_
  refine aw_isub C dX0_narrow_5 ?_
  refine aw_imul C dX0_narrow_6 ?_
  refine aw_bipush (v := 100) C dX0_narrow_7 (by decide) ?_
  obtain ⟨q1, h⟩ := oD_e h
  refine aw_idiv C dX0_narrow_9 q1 ?_
  refine aw_topi (fun y2 ey2 => ?_)
  have h := oL_e ey2 h
  refine aw_istore (lv' := [(0, .ref (N.1 6)), (1, .int x1), (2, .int x2), (3, .int x3), (4, .int x4), (5, .int y2)]) C [1, 2, 3, 4, 5, 0] dX0_narrow_10 (by decide) rfl ?_
  refine aw_iload_n C 3 dX0_narrow_12 rfl ?_
  refine aw_bipush (v := 100) C dX0_narrow_13 (by decide) ?_
  refine aw_iload C 4 dX0_narrow_15 rfl ?_
  refine aw_iadd C dX0_narrow_17 ?_
  obtain ⟨⟨v3, s4⟩, cw5, h⟩ := oC_e h
  have h := oL_e (x := s4) rfl (oL_e (x := v3) rfl h)
  refine aw_callSNi (n := 2) (host := "AwardLine") (As := [.int x3, .int ((100 : Int32) + x4)]) (rest := []) C (c_X11_shareUp l D N s0 s4 x3 ((100 : Int32) + x4) v3 cw5) (by decide +kernel) lw_28_16 lw_1_2 lw_28_17 rfl rfl (by decide +kernel) ⟨Nat.le_of_ble_eq_true rfl, Nat.le_of_ble_eq_true rfl⟩ rfl rfl (Nat.le_of_ble_eq_true rfl) dX0_narrow_18 ?_
  refine aw_istore (lv' := [(0, .ref (N.1 6)), (1, .int x1), (2, .int x2), (3, .int x3), (4, .int x4), (5, .int y2), (6, .int v3)]) C [1, 2, 3, 4, 5, 6, 0] dX0_narrow_21 (by decide) rfl ?_
  refine aw_aload_n C 0 dX0_narrow_23 rfl ?_
  refine cg_ce_least C lw_5_1 dX0_narrow_24 ?_
  refine aw_iload_n C 1 dX0_narrow_27 rfl ?_
  obtain ⟨q6, h⟩ := oA_e h
  refine ca_rald (k := 19) C (by decide) rfl q6 dX0_narrow_28 ?_
  refine aw_iload_n C 2 dX0_narrow_29 rfl ?_
  refine aw_aload_n C 0 dX0_narrow_30 rfl ?_
  refine cg_ce_least C lw_5_1 dX0_narrow_31 ?_
  refine aw_iload_n C 1 dX0_narrow_34 rfl ?_
  obtain ⟨q8, h⟩ := oA_e h
  refine ca_rald (k := 19) C (by decide) rfl q8 dX0_narrow_35 ?_
  refine aw_iload_n C 2 dX0_narrow_36 rfl ?_
  obtain ⟨q10a, q10b, q10, h⟩ := oX_e h
  refine ca_iald (k := (20 + Int32.toNatClampNeg x1)) C q10a q10b q10 dX0_narrow_37 ?_
  refine aw_iload C 5 dX0_narrow_38 rfl ?_
  refine aw_mmax C lw_28_12 lw_28_13 (by decide +kernel) lw_28_14 (Nat.le_of_ble_eq_true rfl) (Nat.le_of_ble_eq_true rfl) dX0_narrow_40 ?_
  obtain ⟨q11a, q11b, q11, h⟩ := oX_e h
  refine ca_iast (k := (20 + Int32.toNatClampNeg x1)) C q11a q11b q11 dX0_narrow_43 ?_
  refine ca_name (fun s12 es12 => ?_)
  have h := oL_e es12 h
  refine aw_aload_n C 0 dX0_narrow_44 rfl ?_
  refine cg_ce_greatest C lw_5_2 dX0_narrow_45 ?_
  refine aw_iload_n C 1 dX0_narrow_48 rfl ?_
  obtain ⟨q13, h⟩ := oA_e h
  refine ca_rald (k := 22) C (by decide) rfl q13 dX0_narrow_49 ?_
  refine aw_iload_n C 2 dX0_narrow_50 rfl ?_
  refine aw_aload_n C 0 dX0_narrow_51 rfl ?_
  refine cg_ce_greatest C lw_5_2 dX0_narrow_52 ?_
  refine aw_iload_n C 1 dX0_narrow_55 rfl ?_
  obtain ⟨q15, h⟩ := oA_e h
  refine ca_rald (k := 22) C (by decide) rfl q15 dX0_narrow_56 ?_
  refine aw_iload_n C 2 dX0_narrow_57 rfl ?_
  obtain ⟨q17a, q17b, q17, h⟩ := oX_e h
  refine ca_iald (k := (23 + Int32.toNatClampNeg x1)) C q17a q17b q17 dX0_narrow_58 ?_
  refine aw_iload C 6 dX0_narrow_59 rfl ?_
  refine aw_mmin C lw_28_15 lw_10_23 (by decide +kernel) lw_11_1 (Nat.le_of_ble_eq_true rfl) (Nat.le_of_ble_eq_true rfl) dX0_narrow_61 ?_
  obtain ⟨q18a, q18b, q18, h⟩ := oX_e h
  refine ca_iast (k := (23 + Int32.toNatClampNeg x1)) C q18a q18b q18 dX0_narrow_64 ?_
  refine ca_name (fun s19 es19 => ?_)
  have h := oL_e es19 h
  cases h
  exact aw_ret hE dX0_narrow_65
def f_X0_narrow (s0 : St) (x1 : Int32) (x2 : Int32) (x3 : Int32) (x4 : Int32) : Option (St) := F_X0_narrow_0 s0 x1 x2 x3 x4
theorem c_X0_narrow (l : Launch) (D : va_G) (N : Nm) (s0 z1 : St) (x1 : Int32) (x2 : Int32) (x3 : Int32) (x4 : Int32) (h : f_X0_narrow s0 x1 x2 x3 x4 = some z1) : Metv l yX0_narrow (tsU yX0_narrow cX0_narrow 7 none) rm_X0_narrow D N [.ref (N.1 6), .int x1, .int x2, .int x3, .int x4] (wC N s0) (wC N z1) :=
  met_v (cc := cX0_narrow) (nL := 7) (own := RX0) (by decide) rfl (Nat.le_of_ble_eq_true rfl) (fun p e s m args below meth c Q A C hE => aw_sub [0, 1, 2, 3, 4] rfl (T_X0_narrow_0 C hE s0 x1 x2 x3 x4 h))
/-! AwardLine$Census.close(II)V -/
def rm_X0_close : Room := { frames := 0, cells := 0, slots := 0, locals := 0 }
def F_X0_close_66 (s0 : St) (t0 : Int32) (t1 : Int32) (t2 : Nat) : Option (St) :=
  oX t2 t1 <|
  oL (sA s0 t2 (upd (s0.2.1 t2) (Int32.toNatClampNeg t1) t0)) fun s2 =>
  some s2
set_option maxHeartbeats 4000000 in
set_option maxRecDepth 100000 in
theorem T_X0_close_66 {z1 : St} (C : Cx p rm_X0_close s m args c D A cX0_close 5 RX0 rm_X0_close N) (hE : En p l e rm_X0_close s m args below meth c Q D A cX0_close .return_ (wC N z1) [])  (s0 : St) (t0 : Int32) (t1 : Int32) (t2 : Nat) (h : F_X0_close_66 s0 t0 t1 t2 = some z1) : Aw p l e rm_X0_close s m args below meth c Q D A 5 (wC N s0) 66 [] [.int t0, .int t1, .ref (N.2.1 t2)] := by
  unfold F_X0_close_66 at h
  obtain ⟨q1a, q1b, q1, h⟩ := oX_e h
  refine ca_iast (k := t2) C q1a q1b q1 dX0_close_66 ?_
  refine ca_name (fun s2 es2 => ?_)
  have h := oL_e es2 h
  cases h
  exact aw_ret hE dX0_close_67
def F_X0_close_24 (s0 : St) (x1 : Int32) (x2 : Int32) : Option (St) :=
  oA x1 2 <|
  oX (20 + Int32.toNatClampNeg x1) x2 <|
  oL (s0.2.1 (20 + Int32.toNatClampNeg x1) (Int32.toNatClampNeg x2)) fun y4 =>
  oA x1 2 <|
  oX (23 + Int32.toNatClampNeg x1) x2 <|
  oL (s0.2.1 (23 + Int32.toNatClampNeg x1) (Int32.toNatClampNeg x2)) fun y8 =>
  oA x1 2 <|
  if y4 ≤ y8 then (
    oD (2 : Int32) <|
    F_X0_close_66 s0 ((y4 + y8) / (2 : Int32)) x2 (26 + Int32.toNatClampNeg x1))
  else (
    F_X0_close_66 s0 (0 : Int32) x2 (26 + Int32.toNatClampNeg x1))
set_option maxHeartbeats 4000000 in
set_option maxRecDepth 100000 in
theorem T_X0_close_24 {z1 : St} (C : Cx p rm_X0_close s m args c D A cX0_close 5 RX0 rm_X0_close N) (hE : En p l e rm_X0_close s m args below meth c Q D A cX0_close .return_ (wC N z1) [])  (s0 : St) (x1 : Int32) (x2 : Int32) (h : F_X0_close_24 s0 x1 x2 = some z1) : Aw p l e rm_X0_close s m args below meth c Q D A 5 (wC N s0) 24 [(0, .ref (N.1 6)), (1, .int x1), (2, .int x2)] [] := by
  unfold F_X0_close_24 at h
  refine aw_aload_n C 0 dX0_close_24 rfl ?_
  refine cg_ce_least C lw_5_1 dX0_close_25 ?_
  refine aw_iload_n C 1 dX0_close_28 rfl ?_
  obtain ⟨q1, h⟩ := oA_e h
  refine ca_rald (k := 19) C (by decide) rfl q1 dX0_close_29 ?_
  refine aw_iload_n C 2 dX0_close_30 rfl ?_
  obtain ⟨q3a, q3b, q3, h⟩ := oX_e h
  refine ca_iald (k := (20 + Int32.toNatClampNeg x1)) C q3a q3b q3 dX0_close_31 ?_
  refine aw_topi (fun y4 ey4 => ?_)
  have h := oL_e ey4 h
  refine aw_istore_n (lv' := [(0, .ref (N.1 6)), (1, .int x1), (2, .int x2), (3, .int y4)]) C [1, 2, 3, 0] dX0_close_32 rfl (by decide) rfl ?_
  refine aw_aload_n C 0 dX0_close_33 rfl ?_
  refine cg_ce_greatest C lw_5_2 dX0_close_34 ?_
  refine aw_iload_n C 1 dX0_close_37 rfl ?_
  obtain ⟨q5, h⟩ := oA_e h
  refine ca_rald (k := 22) C (by decide) rfl q5 dX0_close_38 ?_
  refine aw_iload_n C 2 dX0_close_39 rfl ?_
  obtain ⟨q7a, q7b, q7, h⟩ := oX_e h
  refine ca_iald (k := (23 + Int32.toNatClampNeg x1)) C q7a q7b q7 dX0_close_40 ?_
  refine aw_topi (fun y8 ey8 => ?_)
  have h := oL_e ey8 h
  refine aw_istore (lv' := [(0, .ref (N.1 6)), (1, .int x1), (2, .int x2), (3, .int y4), (4, .int y8)]) C [1, 2, 3, 4, 0] dX0_close_41 (by decide) rfl ?_
  refine aw_aload_n C 0 dX0_close_43 rfl ?_
  refine cg_ce_people C lw_5_3 dX0_close_44 ?_
  refine aw_iload_n C 1 dX0_close_47 rfl ?_
  obtain ⟨q9, h⟩ := oA_e h
  refine ca_rald (k := 25) C (by decide) rfl q9 dX0_close_48 ?_
  refine aw_iload_n C 2 dX0_close_49 rfl ?_
  refine aw_iload_n C 3 dX0_close_50 rfl ?_
  refine aw_iload C 4 dX0_close_51 rfl ?_
  refine aw_icmp_le (tgt := 60) C dX0_close_53 (by decide) (fun q => ?_) (fun q => ?_)
  · have h := bq_t q h
    refine aw_iload_n C 3 dX0_close_60 rfl ?_
    refine aw_iload C 4 dX0_close_61 rfl ?_
    refine aw_iadd C dX0_close_63 ?_
    refine aw_iconst (v := 2) C dX0_close_64 (by decide) ?_
    obtain ⟨q11, h⟩ := oD_e h
    refine aw_idiv C dX0_close_65 q11 ?_
    refine aw_sub (lv' := []) [] rfl ?_
    exact T_X0_close_66 C hE s0 ((y4 + y8) / (2 : Int32)) x2 (26 + Int32.toNatClampNeg x1) h
  · have h := bq_f q h
    refine aw_iconst (v := 0) C dX0_close_56 (by decide) ?_
    refine aw_goto (tgt := 66) C dX0_close_57 (by decide) ?_
    refine aw_sub (lv' := []) [] rfl ?_
    exact T_X0_close_66 C hE s0 (0 : Int32) x2 (26 + Int32.toNatClampNeg x1) h
def F_X0_close_0 (s0 : St) (x1 : Int32) (x2 : Int32) : Option (St) :=
  oA x1 2 <|
  oX (23 + Int32.toNatClampNeg x1) x2 <|
  if (s0.2.1 (23 + Int32.toNatClampNeg x1) (Int32.toNatClampNeg x2)) = (1000000 : Int32) then (
    oA x1 2 <|
    oX (23 + Int32.toNatClampNeg x1) x2 <|
    oL (sA s0 (23 + Int32.toNatClampNeg x1) (upd (s0.2.1 (23 + Int32.toNatClampNeg x1)) (Int32.toNatClampNeg x2) (999 : Int32))) fun s7 =>
    F_X0_close_24 s7 x1 x2)
  else (
    F_X0_close_24 s0 x1 x2)
set_option maxHeartbeats 4000000 in
set_option maxRecDepth 100000 in
theorem T_X0_close_0 {z1 : St} (C : Cx p rm_X0_close s m args c D A cX0_close 5 RX0 rm_X0_close N) (hE : En p l e rm_X0_close s m args below meth c Q D A cX0_close .return_ (wC N z1) [])  (s0 : St) (x1 : Int32) (x2 : Int32) (h : F_X0_close_0 s0 x1 x2 = some z1) : Aw p l e rm_X0_close s m args below meth c Q D A 5 (wC N s0) 0 [(0, .ref (N.1 6)), (1, .int x1), (2, .int x2)] [] := by
  unfold F_X0_close_0 at h
  refine aw_aload_n C 0 dX0_close_0 rfl ?_
  refine cg_ce_greatest C lw_5_2 dX0_close_1 ?_
  refine aw_iload_n C 1 dX0_close_4 rfl ?_
  obtain ⟨q1, h⟩ := oA_e h
  refine ca_rald (k := 22) C (by decide) rfl q1 dX0_close_5 ?_
  refine aw_iload_n C 2 dX0_close_6 rfl ?_
  obtain ⟨q3a, q3b, q3, h⟩ := oX_e h
  refine ca_iald (k := (23 + Int32.toNatClampNeg x1)) C q3a q3b q3 dX0_close_7 ?_
  refine aw_ldc (v := 1000000) C lw_27_13 dX0_close_8 ?_
  refine aw_icmp_ne (tgt := 24) C dX0_close_10 (by decide) (fun q => ?_) (fun q => ?_)
  · have h := bq_f q h
    refine aw_sub (lv' := [(0, .ref (N.1 6)), (1, .int x1), (2, .int x2)]) [0, 1, 2] rfl ?_
    exact T_X0_close_24 C hE s0 x1 x2 h
  · have h := bq_t q h
    refine aw_aload_n C 0 dX0_close_13 rfl ?_
    refine cg_ce_greatest C lw_5_2 dX0_close_14 ?_
    refine aw_iload_n C 1 dX0_close_17 rfl ?_
    obtain ⟨q4, h⟩ := oA_e h
    refine ca_rald (k := 22) C (by decide) rfl q4 dX0_close_18 ?_
    refine aw_iload_n C 2 dX0_close_19 rfl ?_
    refine aw_sipush (v := 999) C dX0_close_20 (by decide) ?_
    obtain ⟨q6a, q6b, q6, h⟩ := oX_e h
    refine ca_iast (k := (23 + Int32.toNatClampNeg x1)) C q6a q6b q6 dX0_close_23 ?_
    refine ca_name (fun s7 es7 => ?_)
    have h := oL_e es7 h
    refine aw_sub (lv' := [(0, .ref (N.1 6)), (1, .int x1), (2, .int x2)]) [0, 1, 2] rfl ?_
    exact T_X0_close_24 C hE s7 x1 x2 h
def f_X0_close (s0 : St) (x1 : Int32) (x2 : Int32) : Option (St) := F_X0_close_0 s0 x1 x2
theorem c_X0_close (l : Launch) (D : va_G) (N : Nm) (s0 z1 : St) (x1 : Int32) (x2 : Int32) (h : f_X0_close s0 x1 x2 = some z1) : Metv l yX0_close (tsU yX0_close cX0_close 5 none) rm_X0_close D N [.ref (N.1 6), .int x1, .int x2] (wC N s0) (wC N z1) :=
  met_v (cc := cX0_close) (nL := 5) (own := RX0) (by decide) rfl (Nat.le_of_ble_eq_true rfl) (fun p e s m args below meth c Q A C hE => aw_sub [0, 1, 2] rfl (T_X0_close_0 C hE s0 x1 x2 h))
/-! AwardLine$Census.take(I)V -/
def rm_X0_take : Room := { frames := 2, cells := 0, slots := 0, locals := 47 }
def F_X0_take_157_b (k157 : St → Int32 → Option (St)) (s0 : St) (x2 : Int32) : Option (St) :=
  if (s0.1 21) ≤ x2 then (
    some s0)
  else (
    oC (f_X0_close s0 (0 : Int32) x2) fun w3 =>
    oL w3 fun s2 =>
    oC (f_X0_close s2 (1 : Int32) x2) fun w6 =>
    oL w6 fun s5 =>
    oL (x2 + (1 : Int32)) fun y7 =>
    k157 s5 y7)
set_option maxHeartbeats 4000000 in
set_option maxRecDepth 100000 in
theorem T_X0_take_157_b {z1 : St} {k157 : St → Int32 → Option (St)} (C : Cx p rm_X0_take s m args c D A cX0_take 4 RX0 rm_X0_take N) (hE : En p l e rm_X0_take s m args below meth c Q D A cX0_take .return_ (wC N z1) []) (hk157 : ∀ (s0 : St) (x2 : Int32), k157 s0 x2 = some z1 → Aw p l e rm_X0_take s m args below meth c Q D A 4 (wC N s0) 157 [(0, .ref (N.1 6)), (2, .int x2)] []) (s0 : St) (x2 : Int32) (h : F_X0_take_157_b k157 s0 x2 = some z1) : Aw p l e rm_X0_take s m args below meth c Q D A 4 (wC N s0) 157 [(0, .ref (N.1 6)), (2, .int x2)] [] := by
  unfold F_X0_take_157_b at h
  refine aw_iload_n C 1 dX0_take_157 rfl ?_
  refine aw_aload_n C 0 dX0_take_158 rfl ?_
  refine cg_ce_land C lw_5_4 dX0_take_159 ?_
  refine cg_ln_size C lw_27_19 dX0_take_162 ?_
  refine aw_icmp_ge (tgt := 186) C dX0_take_165 (by decide) (fun q => ?_) (fun q => ?_)
  · have h := bq_t q h
    cases h
    exact aw_ret hE dX0_take_186
  · have h := bq_f q h
    refine aw_aload_n C 0 dX0_take_168 rfl ?_
    refine aw_iconst (v := 0) C dX0_take_169 (by decide) ?_
    refine aw_iload_n C 1 dX0_take_170 rfl ?_
    obtain ⟨s2, cw3, h⟩ := oC_e h
    have h := oL_e (x := s2) rfl h
    refine aw_callVv (n := 2) (As := [.int (0 : Int32), .int x2]) (rest := []) (q0 := 6) C (c_X0_close l D N s0 s2 (0 : Int32) x2 cw3) lw_28_18 lw_28_19 lw_28_20 lw_1_21 lw_28_21 rfl rfl (by decide +kernel) ⟨Nat.le_of_ble_eq_true rfl, Nat.le_of_ble_eq_true rfl⟩ rfl rfl rfl rfl rfl (Nat.le_of_ble_eq_true rfl) dX0_take_171 ?_
    refine aw_aload_n C 0 dX0_take_174 rfl ?_
    refine aw_iconst (v := 1) C dX0_take_175 (by decide) ?_
    refine aw_iload_n C 1 dX0_take_176 rfl ?_
    obtain ⟨s5, cw6, h⟩ := oC_e h
    have h := oL_e (x := s5) rfl h
    refine aw_callVv (n := 2) (As := [.int (1 : Int32), .int x2]) (rest := []) (q0 := 6) C (c_X0_close l D N s2 s5 (1 : Int32) x2 cw6) lw_28_18 lw_28_19 lw_28_20 lw_1_21 lw_28_21 rfl rfl (by decide +kernel) ⟨Nat.le_of_ble_eq_true rfl, Nat.le_of_ble_eq_true rfl⟩ rfl rfl rfl rfl rfl (Nat.le_of_ble_eq_true rfl) dX0_take_177 ?_
    obtain ⟨y7, ey7⟩ : ∃ q : Int32, q = x2 + (1 : Int32) := ⟨_, rfl⟩
    have h := oL_e ey7 h
    refine aw_iinc (v := y7) (k := 1) (lv' := [(0, .ref (N.1 6)), (2, .int y7)]) C [1, 0] dX0_take_180 rfl (by rw [ey7]; rfl) (by decide) rfl ?_
    refine aw_goto (tgt := 157) C dX0_take_183 (by decide) ?_
    refine aw_sub (lv' := [(0, .ref (N.1 6)), (2, .int y7)]) [0, 1] rfl ?_
    exact hk157 s5 y7 h
def F_X0_take_157 : Nat → St → Int32 → Option (St)
  | 0 => fun _ _ => none
  | n + 1 => F_X0_take_157_b (F_X0_take_157 n)
theorem T_X0_take_157 {z1 : St} (C : Cx p rm_X0_take s m args c D A cX0_take 4 RX0 rm_X0_take N) (hE : En p l e rm_X0_take s m args below meth c Q D A cX0_take .return_ (wC N z1) [])  : ∀ (n : Nat) (s0 : St) (x2 : Int32), F_X0_take_157 n s0 x2 = some z1 → Aw p l e rm_X0_take s m args below meth c Q D A 4 (wC N s0) 157 [(0, .ref (N.1 6)), (2, .int x2)] [] := by
  intro n
  induction n with
  | zero => intro s0 x2 h; cases h
  | succ n ih => intro s0 x2 h; exact T_X0_take_157_b C hE ih s0 x2 h
def F_X0_take_149 (k44 : St → Int32 → Option (St)) (s0 : St) (x2 : Int32) : Option (St) :=
  oL (x2 + (1 : Int32)) fun y1 =>
  k44 s0 y1
set_option maxHeartbeats 4000000 in
set_option maxRecDepth 100000 in
theorem T_X0_take_149 {z1 : St} {k44 : St → Int32 → Option (St)} (C : Cx p rm_X0_take s m args c D A cX0_take 4 RX0 rm_X0_take N) (hE : En p l e rm_X0_take s m args below meth c Q D A cX0_take .return_ (wC N z1) []) (hk44 : ∀ (s0 : St) (x2 : Int32), k44 s0 x2 = some z1 → Aw p l e rm_X0_take s m args below meth c Q D A 4 (wC N s0) 44 [(0, .ref (N.1 6)), (2, .int x2)] []) (s0 : St) (x2 : Int32) (h : F_X0_take_149 k44 s0 x2 = some z1) : Aw p l e rm_X0_take s m args below meth c Q D A 4 (wC N s0) 149 [(0, .ref (N.1 6)), (2, .int x2)] [] := by
  unfold F_X0_take_149 at h
  obtain ⟨y1, ey1⟩ : ∃ q : Int32, q = x2 + (1 : Int32) := ⟨_, rfl⟩
  have h := oL_e ey1 h
  refine aw_iinc (v := y1) (k := 1) (lv' := [(0, .ref (N.1 6)), (2, .int y1)]) C [1, 0] dX0_take_149 rfl (by rw [ey1]; rfl) (by decide) rfl ?_
  refine aw_goto (tgt := 44) C dX0_take_152 (by decide) ?_
  refine aw_sub (lv' := [(0, .ref (N.1 6)), (2, .int y1)]) [0, 1] rfl ?_
  exact hk44 s0 y1 h
def F_X0_take_44_b (k44 : St → Int32 → Option (St)) (s0 : St) (x2 : Int32) : Option (St) :=
  if (s0.1 29) ≤ x2 then (
    oL (0 : Int32) fun y1 =>
    F_X0_take_157 100000 s0 y1)
  else (
    oC (f_X5_isKnown s0 x2 (3 : Int32)) fun w4 =>
    oL w4.1 fun v2 => oL w4.2 fun s3 =>
    if v2 = 0 then (
      F_X0_take_149 k44 s3 x2)
    else (
      oA x2 80 <|
      oC (f_X4_has s3 (s3.2.1 13 (Int32.toNatClampNeg x2))) fun w8 =>
      oL w8.1 fun v6 => oL w8.2 fun s7 =>
      if v6 = 0 then (
        F_X0_take_149 k44 s7 x2)
      else (
        oA x2 80 <|
        oA (s7.2.1 12 (Int32.toNatClampNeg x2)) 4 <|
        oL (s7.2.1 18 (Int32.toNatClampNeg (s7.2.1 12 (Int32.toNatClampNeg x2)))) fun y11 =>
        oA x2 80 <|
        oA x2 80 <|
        oC (f_X0_narrow s7 (0 : Int32) (s7.2.1 13 (Int32.toNatClampNeg x2)) (s7.2.1 14 (Int32.toNatClampNeg x2)) y11) fun w16 =>
        oL w16 fun s15 =>
        oA x2 80 <|
        oA x2 80 <|
        oC (f_X0_narrow s15 (1 : Int32) (s15.2.1 13 (Int32.toNatClampNeg x2)) (s15.2.1 15 (Int32.toNatClampNeg x2)) y11) fun w21 =>
        oL w21 fun s20 =>
        F_X0_take_149 k44 s20 x2)))
set_option maxHeartbeats 4000000 in
set_option maxRecDepth 100000 in
theorem T_X0_take_44_b {z1 : St} {k44 : St → Int32 → Option (St)} (C : Cx p rm_X0_take s m args c D A cX0_take 4 RX0 rm_X0_take N) (hE : En p l e rm_X0_take s m args below meth c Q D A cX0_take .return_ (wC N z1) []) (hk44 : ∀ (s0 : St) (x2 : Int32), k44 s0 x2 = some z1 → Aw p l e rm_X0_take s m args below meth c Q D A 4 (wC N s0) 44 [(0, .ref (N.1 6)), (2, .int x2)] []) (s0 : St) (x2 : Int32) (h : F_X0_take_44_b k44 s0 x2 = some z1) : Aw p l e rm_X0_take s m args below meth c Q D A 4 (wC N s0) 44 [(0, .ref (N.1 6)), (2, .int x2)] [] := by
  unfold F_X0_take_44_b at h
  refine aw_iload_n C 1 dX0_take_44 rfl ?_
  refine aw_aload_n C 0 dX0_take_45 rfl ?_
  refine cg_ce_notes C lw_5_5 dX0_take_46 ?_
  refine cg_nt_held C lw_27_14 dX0_take_49 ?_
  refine aw_icmp_ge (tgt := 155) C dX0_take_52 (by decide) (fun q => ?_) (fun q => ?_)
  · have h := bq_t q h
    refine aw_iconst (v := 0) C dX0_take_155 (by decide) ?_
    refine aw_topi (fun y1 ey1 => ?_)
    have h := oL_e ey1 h
    refine aw_istore_n (lv' := [(0, .ref (N.1 6)), (2, .int y1)]) C [1, 0] dX0_take_156 rfl (by decide) rfl ?_
    refine aw_sub (lv' := [(0, .ref (N.1 6)), (2, .int y1)]) [0, 1] rfl ?_
    exact T_X0_take_157 C hE 100000 s0 y1 h
  · have h := bq_f q h
    refine aw_aload_n C 0 dX0_take_55 rfl ?_
    refine cg_ce_notes C lw_5_5 dX0_take_56 ?_
    refine aw_iload_n C 1 dX0_take_59 rfl ?_
    refine aw_iconst (v := 3) C dX0_take_60 (by decide) ?_
    obtain ⟨⟨v2, s3⟩, cw4, h⟩ := oC_e h
    have h := oL_e (x := s3) rfl (oL_e (x := v2) rfl h)
    refine aw_callVi (n := 2) (As := [.int x2, .int (3 : Int32)]) (rest := []) (q0 := 5) C (c_X5_isKnown l D N s0 s3 x2 (3 : Int32) v2 cw4) lw_28_6 lw_28_1 lw_28_2 lw_1_18 lw_28_3 rfl rfl (by decide +kernel) ⟨Nat.le_of_ble_eq_true rfl, Nat.le_of_ble_eq_true rfl⟩ rfl rfl rfl rfl rfl (Nat.le_of_ble_eq_true rfl) dX0_take_61 ?_
    refine aw_if_eq (tgt := 149) C dX0_take_64 (by decide) (fun q => ?_) (fun q => ?_)
    · have h := bq_t q h
      refine aw_sub (lv' := [(0, .ref (N.1 6)), (2, .int x2)]) [0, 1] rfl ?_
      exact T_X0_take_149 C hE hk44 s3 x2 h
    · have h := bq_f q h
      refine aw_aload_n C 0 dX0_take_67 rfl ?_
      refine cg_ce_land C lw_5_4 dX0_take_68 ?_
      refine aw_aload_n C 0 dX0_take_71 rfl ?_
      refine cg_ce_notes C lw_5_5 dX0_take_72 ?_
      refine cg_nt_object C lw_27_15 dX0_take_75 ?_
      refine aw_iload_n C 1 dX0_take_78 rfl ?_
      obtain ⟨q5, h⟩ := oA_e h
      refine ca_iald (k := 13) C (by decide) rfl q5 dX0_take_79 ?_
      obtain ⟨⟨v6, s7⟩, cw8, h⟩ := oC_e h
      have h := oL_e (x := s7) rfl (oL_e (x := v6) rfl h)
      refine aw_callVi (n := 1) (As := [.int (s3.2.1 13 (Int32.toNatClampNeg x2))]) (rest := []) (q0 := 4) C (c_X4_has l D N s3 s7 (s3.2.1 13 (Int32.toNatClampNeg x2)) v6 cw8) lw_28_7 lw_23_5 lw_23_6 lw_1_15 lw_23_7 rfl rfl (by decide +kernel) ⟨Nat.le_of_ble_eq_true rfl, Nat.le_of_ble_eq_true rfl⟩ rfl rfl rfl rfl rfl (Nat.le_of_ble_eq_true rfl) dX0_take_80 ?_
      refine aw_if_eq (tgt := 149) C dX0_take_83 (by decide) (fun q => ?_) (fun q => ?_)
      · have h := bq_t q h
        refine aw_sub (lv' := [(0, .ref (N.1 6)), (2, .int x2)]) [0, 1] rfl ?_
        exact T_X0_take_149 C hE hk44 s7 x2 h
      · have h := bq_f q h
        refine aw_aload_n C 0 dX0_take_86 rfl ?_
        refine cg_ce_error C lw_4_23 dX0_take_87 ?_
        refine aw_aload_n C 0 dX0_take_90 rfl ?_
        refine cg_ce_notes C lw_5_5 dX0_take_91 ?_
        refine cg_nt_subject C lw_27_16 dX0_take_94 ?_
        refine aw_iload_n C 1 dX0_take_97 rfl ?_
        obtain ⟨q9, h⟩ := oA_e h
        refine ca_iald (k := 12) C (by decide) rfl q9 dX0_take_98 ?_
        obtain ⟨q10, h⟩ := oA_e h
        refine ca_iald (k := 18) C (by decide) rfl q10 dX0_take_99 ?_
        refine aw_topi (fun y11 ey11 => ?_)
        have h := oL_e ey11 h
        refine aw_istore_n (lv' := [(0, .ref (N.1 6)), (2, .int x2), (3, .int y11)]) C [1, 2, 0] dX0_take_100 rfl (by decide) rfl ?_
        refine aw_aload_n C 0 dX0_take_101 rfl ?_
        refine aw_iconst (v := 0) C dX0_take_102 (by decide) ?_
        refine aw_aload_n C 0 dX0_take_103 rfl ?_
        refine cg_ce_notes C lw_5_5 dX0_take_104 ?_
        refine cg_nt_object C lw_27_15 dX0_take_107 ?_
        refine aw_iload_n C 1 dX0_take_110 rfl ?_
        obtain ⟨q12, h⟩ := oA_e h
        refine ca_iald (k := 13) C (by decide) rfl q12 dX0_take_111 ?_
        refine aw_aload_n C 0 dX0_take_112 rfl ?_
        refine cg_ce_notes C lw_5_5 dX0_take_113 ?_
        refine cg_nt_third C lw_27_17 dX0_take_116 ?_
        refine aw_iload_n C 1 dX0_take_119 rfl ?_
        obtain ⟨q13, h⟩ := oA_e h
        refine ca_iald (k := 14) C (by decide) rfl q13 dX0_take_120 ?_
        refine aw_iload_n C 2 dX0_take_121 rfl ?_
        obtain ⟨s15, cw16, h⟩ := oC_e h
        have h := oL_e (x := s15) rfl h
        refine aw_callVv (n := 4) (As := [.int (0 : Int32), .int (s7.2.1 13 (Int32.toNatClampNeg x2)), .int (s7.2.1 14 (Int32.toNatClampNeg x2)), .int y11]) (rest := []) (q0 := 6) C (c_X0_narrow l D N s7 s15 (0 : Int32) (s7.2.1 13 (Int32.toNatClampNeg x2)) (s7.2.1 14 (Int32.toNatClampNeg x2)) y11 cw16) lw_28_8 lw_28_9 lw_28_10 lw_1_21 lw_28_11 rfl rfl (by decide +kernel) ⟨Nat.le_of_ble_eq_true rfl, Nat.le_of_ble_eq_true rfl⟩ rfl rfl rfl rfl rfl (Nat.le_of_ble_eq_true rfl) dX0_take_122 ?_
        refine aw_aload_n C 0 dX0_take_125 rfl ?_
        refine aw_iconst (v := 1) C dX0_take_126 (by decide) ?_
        refine aw_aload_n C 0 dX0_take_127 rfl ?_
        refine cg_ce_notes C lw_5_5 dX0_take_128 ?_
        refine cg_nt_object C lw_27_15 dX0_take_131 ?_
        refine aw_iload_n C 1 dX0_take_134 rfl ?_
        obtain ⟨q17, h⟩ := oA_e h
        refine ca_iald (k := 13) C (by decide) rfl q17 dX0_take_135 ?_
        refine aw_aload_n C 0 dX0_take_136 rfl ?_
        refine cg_ce_notes C lw_5_5 dX0_take_137 ?_
        refine cg_nt_fourth C lw_27_18 dX0_take_140 ?_
        refine aw_iload_n C 1 dX0_take_143 rfl ?_
        obtain ⟨q18, h⟩ := oA_e h
        refine ca_iald (k := 15) C (by decide) rfl q18 dX0_take_144 ?_
        refine aw_iload_n C 2 dX0_take_145 rfl ?_
        obtain ⟨s20, cw21, h⟩ := oC_e h
        have h := oL_e (x := s20) rfl h
        refine aw_callVv (n := 4) (As := [.int (1 : Int32), .int (s15.2.1 13 (Int32.toNatClampNeg x2)), .int (s15.2.1 15 (Int32.toNatClampNeg x2)), .int y11]) (rest := []) (q0 := 6) C (c_X0_narrow l D N s15 s20 (1 : Int32) (s15.2.1 13 (Int32.toNatClampNeg x2)) (s15.2.1 15 (Int32.toNatClampNeg x2)) y11 cw21) lw_28_8 lw_28_9 lw_28_10 lw_1_21 lw_28_11 rfl rfl (by decide +kernel) ⟨Nat.le_of_ble_eq_true rfl, Nat.le_of_ble_eq_true rfl⟩ rfl rfl rfl rfl rfl (Nat.le_of_ble_eq_true rfl) dX0_take_146 ?_
        refine aw_sub (lv' := [(0, .ref (N.1 6)), (2, .int x2)]) [0, 1] rfl ?_
        exact T_X0_take_149 C hE hk44 s20 x2 h
def F_X0_take_44 : Nat → St → Int32 → Option (St)
  | 0 => fun _ _ => none
  | n + 1 => F_X0_take_44_b (F_X0_take_44 n)
theorem T_X0_take_44 {z1 : St} (C : Cx p rm_X0_take s m args c D A cX0_take 4 RX0 rm_X0_take N) (hE : En p l e rm_X0_take s m args below meth c Q D A cX0_take .return_ (wC N z1) [])  : ∀ (n : Nat) (s0 : St) (x2 : Int32), F_X0_take_44 n s0 x2 = some z1 → Aw p l e rm_X0_take s m args below meth c Q D A 4 (wC N s0) 44 [(0, .ref (N.1 6)), (2, .int x2)] [] := by
  intro n
  induction n with
  | zero => intro s0 x2 h; cases h
  | succ n ih => intro s0 x2 h; exact T_X0_take_44_b C hE ih s0 x2 h
def F_X0_take_10_b (k10 : St → Int32 → Option (St)) (s0 : St) (x2 : Int32) : Option (St) :=
  if (2 : Int32) ≤ x2 then (
    oL (0 : Int32) fun y1 =>
    F_X0_take_44 100000 s0 y1)
  else (
    oA x2 2 <|
    oC (f_J7_fill_53178 s0 (20 + Int32.toNatClampNeg x2) (0 : Int32)) fun w6 =>
    oL w6 fun s5 =>
    oA x2 2 <|
    oC (f_J7_fill_53178 s5 (23 + Int32.toNatClampNeg x2) (1000000 : Int32)) fun w11 =>
    oL w11 fun s10 =>
    oL (x2 + (1 : Int32)) fun y12 =>
    k10 s10 y12)
set_option maxHeartbeats 4000000 in
set_option maxRecDepth 100000 in
theorem T_X0_take_10_b {z1 : St} {k10 : St → Int32 → Option (St)} (C : Cx p rm_X0_take s m args c D A cX0_take 4 RX0 rm_X0_take N) (hE : En p l e rm_X0_take s m args below meth c Q D A cX0_take .return_ (wC N z1) []) (hk10 : ∀ (s0 : St) (x2 : Int32), k10 s0 x2 = some z1 → Aw p l e rm_X0_take s m args below meth c Q D A 4 (wC N s0) 10 [(0, .ref (N.1 6)), (2, .int x2)] []) (s0 : St) (x2 : Int32) (h : F_X0_take_10_b k10 s0 x2 = some z1) : Aw p l e rm_X0_take s m args below meth c Q D A 4 (wC N s0) 10 [(0, .ref (N.1 6)), (2, .int x2)] [] := by
  unfold F_X0_take_10_b at h
  refine aw_iload_n C 1 dX0_take_10 rfl ?_
  refine aw_iconst (v := 2) C dX0_take_11 (by decide) ?_
  refine aw_icmp_ge (tgt := 42) C dX0_take_12 (by decide) (fun q => ?_) (fun q => ?_)
  · have h := bq_t q h
    refine aw_iconst (v := 0) C dX0_take_42 (by decide) ?_
    refine aw_topi (fun y1 ey1 => ?_)
    have h := oL_e ey1 h
    refine aw_istore_n (lv' := [(0, .ref (N.1 6)), (2, .int y1)]) C [1, 0] dX0_take_43 rfl (by decide) rfl ?_
    refine aw_sub (lv' := [(0, .ref (N.1 6)), (2, .int y1)]) [0, 1] rfl ?_
    exact T_X0_take_44 C hE 100000 s0 y1 h
  · have h := bq_f q h
    refine aw_aload_n C 0 dX0_take_15 rfl ?_
    refine cg_ce_least C lw_5_1 dX0_take_16 ?_
    refine aw_iload_n C 1 dX0_take_19 rfl ?_
    obtain ⟨q2, h⟩ := oA_e h
    refine ca_rald (k := 19) C (by decide) rfl q2 dX0_take_20 ?_
    refine aw_iconst (v := 0) C dX0_take_21 (by decide) ?_
    obtain ⟨s5, cw6, h⟩ := oC_e h
    have h := oL_e (x := s5) rfl h
    refine aw_callSv (n := 2) (As := [.ref (N.2.1 (20 + Int32.toNatClampNeg x2)), .int (0 : Int32)]) (rest := []) C (c_J7_fill_53178 l D N s0 s5 (20 + Int32.toNatClampNeg x2) (0 : Int32) cw6) lw_28_5 lw_4_5 lw_4_6 lw_4_7 rfl rfl (by decide +kernel) ⟨Nat.le_of_ble_eq_true rfl, Nat.le_of_ble_eq_true rfl⟩ rfl rfl (Nat.le_of_ble_eq_true rfl) dX0_take_22 ?_
    refine aw_aload_n C 0 dX0_take_25 rfl ?_
    refine cg_ce_greatest C lw_5_2 dX0_take_26 ?_
    refine aw_iload_n C 1 dX0_take_29 rfl ?_
    obtain ⟨q7, h⟩ := oA_e h
    refine ca_rald (k := 22) C (by decide) rfl q7 dX0_take_30 ?_
    refine aw_ldc (v := 1000000) C lw_27_13 dX0_take_31 ?_
    obtain ⟨s10, cw11, h⟩ := oC_e h
    have h := oL_e (x := s10) rfl h
    refine aw_callSv (n := 2) (As := [.ref (N.2.1 (23 + Int32.toNatClampNeg x2)), .int (1000000 : Int32)]) (rest := []) C (c_J7_fill_53178 l D N s5 s10 (23 + Int32.toNatClampNeg x2) (1000000 : Int32) cw11) lw_28_5 lw_4_5 lw_4_6 lw_4_7 rfl rfl (by decide +kernel) ⟨Nat.le_of_ble_eq_true rfl, Nat.le_of_ble_eq_true rfl⟩ rfl rfl (Nat.le_of_ble_eq_true rfl) dX0_take_33 ?_
    obtain ⟨y12, ey12⟩ : ∃ q : Int32, q = x2 + (1 : Int32) := ⟨_, rfl⟩
    have h := oL_e ey12 h
    refine aw_iinc (v := y12) (k := 1) (lv' := [(0, .ref (N.1 6)), (2, .int y12)]) C [1, 0] dX0_take_36 rfl (by rw [ey12]; rfl) (by decide) rfl ?_
    refine aw_goto (tgt := 10) C dX0_take_39 (by decide) ?_
    refine aw_sub (lv' := [(0, .ref (N.1 6)), (2, .int y12)]) [0, 1] rfl ?_
    exact hk10 s10 y12 h
def F_X0_take_10 : Nat → St → Int32 → Option (St)
  | 0 => fun _ _ => none
  | n + 1 => F_X0_take_10_b (F_X0_take_10 n)
theorem T_X0_take_10 {z1 : St} (C : Cx p rm_X0_take s m args c D A cX0_take 4 RX0 rm_X0_take N) (hE : En p l e rm_X0_take s m args below meth c Q D A cX0_take .return_ (wC N z1) [])  : ∀ (n : Nat) (s0 : St) (x2 : Int32), F_X0_take_10 n s0 x2 = some z1 → Aw p l e rm_X0_take s m args below meth c Q D A 4 (wC N s0) 10 [(0, .ref (N.1 6)), (2, .int x2)] [] := by
  intro n
  induction n with
  | zero => intro s0 x2 h; cases h
  | succ n ih => intro s0 x2 h; exact T_X0_take_10_b C hE ih s0 x2 h
def F_X0_take_0 (s0 : St) (x1 : Int32) : Option (St) :=
  oC (f_X5_sift s0 x1) fun w3 =>
  oL w3 fun s2 =>
  oL (0 : Int32) fun y4 =>
  F_X0_take_10 100000 s2 y4
set_option maxHeartbeats 4000000 in
set_option maxRecDepth 100000 in
theorem T_X0_take_0 {z1 : St} (C : Cx p rm_X0_take s m args c D A cX0_take 4 RX0 rm_X0_take N) (hE : En p l e rm_X0_take s m args below meth c Q D A cX0_take .return_ (wC N z1) [])  (s0 : St) (x1 : Int32) (h : F_X0_take_0 s0 x1 = some z1) : Aw p l e rm_X0_take s m args below meth c Q D A 4 (wC N s0) 0 [(0, .ref (N.1 6)), (1, .int x1)] [] := by
  unfold F_X0_take_0 at h
  refine aw_aload_n C 0 dX0_take_0 rfl ?_
  refine cg_ce_notes C lw_5_5 dX0_take_1 ?_
  refine aw_iload_n C 1 dX0_take_4 rfl ?_
  obtain ⟨s2, cw3, h⟩ := oC_e h
  have h := oL_e (x := s2) rfl h
  refine aw_callVv (n := 1) (As := [.int x1]) (rest := []) (q0 := 5) C (c_X5_sift l D N s0 s2 x1 cw3) lw_27_20 lw_27_21 lw_27_22 lw_1_18 lw_27_23 rfl rfl (by decide +kernel) ⟨Nat.le_of_ble_eq_true rfl, Nat.le_of_ble_eq_true rfl⟩ rfl rfl rfl rfl rfl (Nat.le_of_ble_eq_true rfl) dX0_take_5 ?_
  refine aw_iconst (v := 0) C dX0_take_8 (by decide) ?_
  refine aw_topi (fun y4 ey4 => ?_)
  have h := oL_e ey4 h
  refine aw_istore_n (lv' := [(0, .ref (N.1 6)), (1, .int x1), (2, .int y4)]) C [1, 2, 0] dX0_take_9 rfl (by decide) rfl ?_
  refine aw_sub (lv' := [(0, .ref (N.1 6)), (2, .int y4)]) [0, 2] rfl ?_
  exact T_X0_take_10 C hE 100000 s2 y4 h
def f_X0_take (s0 : St) (x1 : Int32) : Option (St) := F_X0_take_0 s0 x1
theorem c_X0_take (l : Launch) (D : va_G) (N : Nm) (s0 z1 : St) (x1 : Int32) (h : f_X0_take s0 x1 = some z1) : Metv l yX0_take (tsU yX0_take cX0_take 4 none) rm_X0_take D N [.ref (N.1 6), .int x1] (wC N s0) (wC N z1) :=
  met_v (cc := cX0_take) (nL := 4) (own := RX0) (by decide) rfl (Nat.le_of_ble_eq_true rfl) (fun p e s m args below meth c Q A C hE => aw_sub [0, 1] rfl (T_X0_take_0 C hE s0 x1 h))
end WK
