section WK
variable {p : Program} {l : Launch} {e : Env} {s : State} {m : MethodId} {args : Array Value} {below : List Frame} {meth : Method} {c : Code} {Q : State → Prop} {D : va_G} {A : Nat → Prop} {N : Nm}
def rm_X10_choose (d : Nat) : Room := { frames := 10 + 4 * d, cells := 0, slots := 0, locals := 400 + 400 * d }
/-! AwardLine$Toll.wrong(I)I -/
def rm_X10_wrong : Room := { frames := 0, cells := 0, slots := 0, locals := 0 }
def F_X10_wrong_4_b (k4 : St → Int32 → Int32 → Int32 → Option (Int32 × St)) (s0 : St) (x1 : Int32) (x2 : Int32) (x3 : Int32) : Option (Int32 × St) :=
  if (s0.1 21) ≤ x3 then (
    some (x2, s0))
  else (
    oA ((x1 >>> (x3 &&& 31)) &&& (1 : Int32)) 2 <|
    oX (26 + Int32.toNatClampNeg ((x1 >>> (x3 &&& 31)) &&& (1 : Int32))) x3 <|
    oL (x2 + (s0.2.1 (26 + Int32.toNatClampNeg ((x1 >>> (x3 &&& 31)) &&& (1 : Int32))) (Int32.toNatClampNeg x3))) fun y4 =>
    oL (x3 + (1 : Int32)) fun y5 =>
    k4 s0 x1 y4 y5)
set_option maxHeartbeats 4000000 in
set_option maxRecDepth 100000 in
theorem T_X10_wrong_4_b {r : Int32} {z1 : St} {k4 : St → Int32 → Int32 → Int32 → Option (Int32 × St)} (C : Cx p rm_X10_wrong s m args c D A cX10_wrong 4 RX10 rm_X10_wrong N) (hE : En p l e rm_X10_wrong s m args below meth c Q D A cX10_wrong .ireturn (wC N z1) [.int r]) (hk4 : ∀ (s0 : St) (x1 : Int32) (x2 : Int32) (x3 : Int32), k4 s0 x1 x2 x3 = some (r, z1) → Aw p l e rm_X10_wrong s m args below meth c Q D A 4 (wC N s0) 4 [(0, .ref (N.1 9)), (1, .int x1), (2, .int x2), (3, .int x3)] []) (s0 : St) (x1 : Int32) (x2 : Int32) (x3 : Int32) (h : F_X10_wrong_4_b k4 s0 x1 x2 x3 = some (r, z1)) : Aw p l e rm_X10_wrong s m args below meth c Q D A 4 (wC N s0) 4 [(0, .ref (N.1 9)), (1, .int x1), (2, .int x2), (3, .int x3)] [] := by
  unfold F_X10_wrong_4_b at h
  refine aw_iload_n C 3 dX10_wrong_4 rfl ?_
  refine aw_aload_n C 0 dX10_wrong_5 rfl ?_
  refine cg_to_land C lw_6_23 dX10_wrong_6 ?_
  refine cg_ln_size C lw_37_21 dX10_wrong_9 ?_
  refine aw_icmp_ge (tgt := 39) C dX10_wrong_12 (by decide) (fun q => ?_) (fun q => ?_)
  · have h := bq_t q h
    refine aw_iload_n C 2 dX10_wrong_39 rfl ?_
    cases h
    exact aw_ret hE dX10_wrong_40
  · have h := bq_f q h
    refine aw_iload_n C 2 dX10_wrong_15 rfl ?_
    refine aw_aload_n C 0 dX10_wrong_16 rfl ?_
    refine cg_to_census C lw_7_0 dX10_wrong_17 ?_
    refine cg_ce_people C lw_37_22 dX10_wrong_20 ?_
    refine aw_iload_n C 1 dX10_wrong_23 rfl ?_
    refine aw_iload_n C 3 dX10_wrong_24 rfl ?_
    refine aw_ishr C dX10_wrong_25 ?_
    refine aw_iconst (v := 1) C dX10_wrong_26 (by decide) ?_
    refine aw_iand C dX10_wrong_27 ?_
    obtain ⟨q1, h⟩ := oA_e h
    refine ca_rald (k := 25) C (by decide) rfl q1 dX10_wrong_28 ?_
    refine aw_iload_n C 3 dX10_wrong_29 rfl ?_
    obtain ⟨q3a, q3b, q3, h⟩ := oX_e h
    refine ca_iald (k := (26 + Int32.toNatClampNeg ((x1 >>> (x3 &&& 31)) &&& (1 : Int32)))) C q3a q3b q3 dX10_wrong_30 ?_
    refine aw_iadd C dX10_wrong_31 ?_
    refine aw_topi (fun y4 ey4 => ?_)
    have h := oL_e ey4 h
    refine aw_istore_n (lv' := [(0, .ref (N.1 9)), (1, .int x1), (2, .int y4), (3, .int x3)]) C [1, 2, 0, 3] dX10_wrong_32 rfl (by decide) rfl ?_
    obtain ⟨y5, ey5⟩ : ∃ q : Int32, q = x3 + (1 : Int32) := ⟨_, rfl⟩
    have h := oL_e ey5 h
    refine aw_iinc (v := y5) (k := 3) (lv' := [(0, .ref (N.1 9)), (1, .int x1), (2, .int y4), (3, .int y5)]) C [1, 2, 3, 0] dX10_wrong_33 rfl (by rw [ey5]; rfl) (by decide) rfl ?_
    refine aw_goto (tgt := 4) C dX10_wrong_36 (by decide) ?_
    refine aw_sub (lv' := [(0, .ref (N.1 9)), (1, .int x1), (2, .int y4), (3, .int y5)]) [0, 1, 2, 3] rfl ?_
    exact hk4 s0 x1 y4 y5 h
def F_X10_wrong_4 : Nat → St → Int32 → Int32 → Int32 → Option (Int32 × St)
  | 0 => fun _ _ _ _ => none
  | n + 1 => F_X10_wrong_4_b (F_X10_wrong_4 n)
theorem T_X10_wrong_4 {r : Int32} {z1 : St} (C : Cx p rm_X10_wrong s m args c D A cX10_wrong 4 RX10 rm_X10_wrong N) (hE : En p l e rm_X10_wrong s m args below meth c Q D A cX10_wrong .ireturn (wC N z1) [.int r])  : ∀ (n : Nat) (s0 : St) (x1 : Int32) (x2 : Int32) (x3 : Int32), F_X10_wrong_4 n s0 x1 x2 x3 = some (r, z1) → Aw p l e rm_X10_wrong s m args below meth c Q D A 4 (wC N s0) 4 [(0, .ref (N.1 9)), (1, .int x1), (2, .int x2), (3, .int x3)] [] := by
  intro n
  induction n with
  | zero => intro s0 x1 x2 x3 h; cases h
  | succ n ih => intro s0 x1 x2 x3 h; exact T_X10_wrong_4_b C hE ih s0 x1 x2 x3 h
def F_X10_wrong_0 (s0 : St) (x1 : Int32) : Option (Int32 × St) :=
  oL (0 : Int32) fun y1 =>
  oL (0 : Int32) fun y2 =>
  F_X10_wrong_4 100000 s0 x1 y1 y2
set_option maxHeartbeats 4000000 in
set_option maxRecDepth 100000 in
theorem T_X10_wrong_0 {r : Int32} {z1 : St} (C : Cx p rm_X10_wrong s m args c D A cX10_wrong 4 RX10 rm_X10_wrong N) (hE : En p l e rm_X10_wrong s m args below meth c Q D A cX10_wrong .ireturn (wC N z1) [.int r])  (s0 : St) (x1 : Int32) (h : F_X10_wrong_0 s0 x1 = some (r, z1)) : Aw p l e rm_X10_wrong s m args below meth c Q D A 4 (wC N s0) 0 [(0, .ref (N.1 9)), (1, .int x1)] [] := by
  unfold F_X10_wrong_0 at h
  refine aw_iconst (v := 0) C dX10_wrong_0 (by decide) ?_
  refine aw_topi (fun y1 ey1 => ?_)
  have h := oL_e ey1 h
  refine aw_istore_n (lv' := [(0, .ref (N.1 9)), (1, .int x1), (2, .int y1)]) C [1, 2, 0] dX10_wrong_1 rfl (by decide) rfl ?_
  refine aw_iconst (v := 0) C dX10_wrong_2 (by decide) ?_
  refine aw_topi (fun y2 ey2 => ?_)
  have h := oL_e ey2 h
  refine aw_istore_n (lv' := [(0, .ref (N.1 9)), (1, .int x1), (2, .int y1), (3, .int y2)]) C [1, 2, 3, 0] dX10_wrong_3 rfl (by decide) rfl ?_
  refine aw_sub (lv' := [(0, .ref (N.1 9)), (1, .int x1), (2, .int y1), (3, .int y2)]) [0, 1, 2, 3] rfl ?_
  exact T_X10_wrong_4 C hE 100000 s0 x1 y1 y2 h
def f_X10_wrong (s0 : St) (x1 : Int32) : Option (Int32 × St) := F_X10_wrong_0 s0 x1
theorem c_X10_wrong (l : Launch) (D : va_G) (N : Nm) (s0 z1 : St) (x1 : Int32) (r : Int32) (h : f_X10_wrong s0 x1 = some (r, z1)) : Meti l yX10_wrong (tsU yX10_wrong cX10_wrong 4 (some .int)) rm_X10_wrong D N [.ref (N.1 9), .int x1] (wC N s0) r (wC N z1) :=
  met_i (cc := cX10_wrong) (nL := 4) (own := RX10) (by decide) rfl (Nat.le_of_ble_eq_true rfl) (fun p e s m args below meth c Q A C hE => aw_sub [0, 1] rfl (T_X10_wrong_0 C hE s0 x1 h))
/-! AwardLine$Toll.heed(LAwardLine$Terms;)V -/
def rm_X10_heed : Room := { frames := 0, cells := 0, slots := 0, locals := 0 }
def F_X10_heed_0 (s0 : St) : Option (St) :=
  oA (0 : Int32) 3 <|
  oL (sI s0 34 (s0.2.1 1 (Int32.toNatClampNeg (0 : Int32)))) fun s2 =>
  oA (1 : Int32) 3 <|
  oL (sI s2 35 (s2.2.1 1 (Int32.toNatClampNeg (1 : Int32)))) fun s4 =>
  oA (2 : Int32) 3 <|
  oL (sI s4 36 (s4.2.1 1 (Int32.toNatClampNeg (2 : Int32)))) fun s6 =>
  some s6
set_option maxHeartbeats 4000000 in
set_option maxRecDepth 100000 in
theorem T_X10_heed_0 {z1 : St} (C : Cx p rm_X10_heed s m args c D A cX10_heed 2 RX10 rm_X10_heed N) (hE : En p l e rm_X10_heed s m args below meth c Q D A cX10_heed .return_ (wC N z1) [])  (s0 : St) (h : F_X10_heed_0 s0 = some z1) : Aw p l e rm_X10_heed s m args below meth c Q D A 2 (wC N s0) 0 [(0, .ref (N.1 9)), (1, .ref (N.1 2))] [] := by
  unfold F_X10_heed_0 at h
  refine aw_aload_n C 0 dX10_heed_0 rfl ?_
  refine aw_aload_n C 1 dX10_heed_1 rfl ?_
  refine cg_tc_weight C lw_39_18 dX10_heed_2 ?_
  refine aw_iconst (v := 0) C dX10_heed_5 (by decide) ?_
  obtain ⟨q1, h⟩ := oA_e h
  refine ca_iald (k := 1) C (by decide) rfl q1 dX10_heed_6 ?_
  refine cp_to_ofShrine C lw_39_11 dX10_heed_7 ?_
  refine ca_name (fun s2 es2 => ?_)
  have h := oL_e es2 h
  refine aw_aload_n C 0 dX10_heed_10 rfl ?_
  refine aw_aload_n C 1 dX10_heed_11 rfl ?_
  refine cg_tc_weight C lw_39_18 dX10_heed_12 ?_
  refine aw_iconst (v := 1) C dX10_heed_15 (by decide) ?_
  obtain ⟨q3, h⟩ := oA_e h
  refine ca_iald (k := 1) C (by decide) rfl q3 dX10_heed_16 ?_
  refine cp_to_ofRail C lw_39_12 dX10_heed_17 ?_
  refine ca_name (fun s4 es4 => ?_)
  have h := oL_e es4 h
  refine aw_aload_n C 0 dX10_heed_20 rfl ?_
  refine aw_aload_n C 1 dX10_heed_21 rfl ?_
  refine cg_tc_weight C lw_39_18 dX10_heed_22 ?_
  refine aw_iconst (v := 2) C dX10_heed_25 (by decide) ?_
  obtain ⟨q5, h⟩ := oA_e h
  refine ca_iald (k := 1) C (by decide) rfl q5 dX10_heed_26 ?_
  refine cp_to_ofWater C lw_39_13 dX10_heed_27 ?_
  refine ca_name (fun s6 es6 => ?_)
  have h := oL_e es6 h
  cases h
  exact aw_ret hE dX10_heed_30
def f_X10_heed (s0 : St) : Option (St) := F_X10_heed_0 s0
theorem c_X10_heed (l : Launch) (D : va_G) (N : Nm) (s0 z1 : St) (h : f_X10_heed s0 = some z1) : Metv l yX10_heed (tsU yX10_heed cX10_heed 2 none) rm_X10_heed D N [.ref (N.1 9), .ref (N.1 2)] (wC N s0) (wC N z1) :=
  met_v (cc := cX10_heed) (nL := 2) (own := RX10) (by decide) rfl (Nat.le_of_ble_eq_true rfl) (fun p e s m args below meth c Q A C hE => aw_sub [0, 1] rfl (T_X10_heed_0 C hE s0 h))
/-! AwardLine$Toll.harm(ILAwardLine$Terms;)I -/
def rm_X10_harm : Room := { frames := 3, cells := 0, slots := 0, locals := 69 }
def F_X10_harm_0 (s0 : St) (x1 : Int32) : Option (Int32 × St) :=
  oC (f_X10_heed s0) fun w3 =>
  oL w3 fun s2 =>
  oC (f_X10_wrong s2 x1) fun w6 =>
  oL w6.1 fun v4 => oL w6.2 fun s5 =>
  oC (f_X4_desecrated s5 x1) fun w9 =>
  oL w9.1 fun v7 => oL w9.2 fun s8 =>
  oC (f_X4_severed s8 x1) fun w12 =>
  oL w12.1 fun v10 => oL w12.2 fun s11 =>
  oC (f_X4_cut s11 x1) fun w15 =>
  oL w15.1 fun v13 => oL w15.2 fun s14 =>
  some (((v4 + ((s5.1 34) * v7)) + ((s8.1 35) * v10)) + ((s11.1 36) * v13), s14)
set_option maxHeartbeats 4000000 in
set_option maxRecDepth 100000 in
theorem T_X10_harm_0 {r : Int32} {z1 : St} (C : Cx p rm_X10_harm s m args c D A cX10_harm 3 RX10 rm_X10_harm N) (hE : En p l e rm_X10_harm s m args below meth c Q D A cX10_harm .ireturn (wC N z1) [.int r])  (s0 : St) (x1 : Int32) (h : F_X10_harm_0 s0 x1 = some (r, z1)) : Aw p l e rm_X10_harm s m args below meth c Q D A 3 (wC N s0) 0 [(0, .ref (N.1 9)), (1, .int x1), (2, .ref (N.1 2))] [] := by
  unfold F_X10_harm_0 at h
  refine aw_aload_n C 0 dX10_harm_0 rfl ?_
  refine aw_aload_n C 2 dX10_harm_1 rfl ?_
  obtain ⟨s2, cw3, h⟩ := oC_e h
  have h := oL_e (x := s2) rfl h
  refine aw_callVv (n := 1) (As := [.ref (N.1 2)]) (rest := []) (q0 := 9) C (c_X10_heed l D N s0 s2 cw3) lw_39_14 lw_39_15 lw_39_16 lw_2_21 lw_39_17 rfl rfl (by decide +kernel) ⟨Nat.le_of_ble_eq_true rfl, Nat.le_of_ble_eq_true rfl⟩ rfl rfl rfl rfl rfl (Nat.le_of_ble_eq_true rfl) dX10_harm_2 ?_
  refine aw_aload_n C 0 dX10_harm_5 rfl ?_
  refine aw_iload_n C 1 dX10_harm_6 rfl ?_
  obtain ⟨⟨v4, s5⟩, cw6, h⟩ := oC_e h
  have h := oL_e (x := s5) rfl (oL_e (x := v4) rfl h)
  refine aw_callVi (n := 1) (As := [.int x1]) (rest := []) (q0 := 9) C (c_X10_wrong l D N s2 s5 x1 v4 cw6) lw_39_19 lw_37_18 lw_37_19 lw_2_21 lw_37_20 rfl rfl (by decide +kernel) ⟨Nat.le_of_ble_eq_true rfl, Nat.le_of_ble_eq_true rfl⟩ rfl rfl rfl rfl rfl (Nat.le_of_ble_eq_true rfl) dX10_harm_7 ?_
  refine aw_aload_n C 0 dX10_harm_10 rfl ?_
  refine cg_to_ofShrine C lw_39_11 dX10_harm_11 ?_
  refine aw_aload_n C 0 dX10_harm_14 rfl ?_
  refine cg_to_land C lw_6_23 dX10_harm_15 ?_
  refine aw_iload_n C 1 dX10_harm_18 rfl ?_
  obtain ⟨⟨v7, s8⟩, cw9, h⟩ := oC_e h
  have h := oL_e (x := s8) rfl (oL_e (x := v7) rfl h)
  refine aw_callVi (n := 1) (As := [.int x1]) (rest := [.int (s5.1 34), .int v4]) (q0 := 4) C (c_X4_desecrated l D N s5 s8 x1 v7 cw9) lw_39_20 lw_39_4 lw_39_5 lw_1_15 lw_39_6 rfl rfl (by decide +kernel) ⟨Nat.le_of_ble_eq_true rfl, Nat.le_of_ble_eq_true rfl⟩ rfl rfl rfl rfl rfl (Nat.le_of_ble_eq_true rfl) dX10_harm_19 ?_
  refine aw_imul C dX10_harm_22 ?_
  refine aw_iadd C dX10_harm_23 ?_
  refine aw_aload_n C 0 dX10_harm_24 rfl ?_
  refine cg_to_ofRail C lw_39_12 dX10_harm_25 ?_
  refine aw_aload_n C 0 dX10_harm_28 rfl ?_
  refine cg_to_land C lw_6_23 dX10_harm_29 ?_
  refine aw_iload_n C 1 dX10_harm_32 rfl ?_
  obtain ⟨⟨v10, s11⟩, cw12, h⟩ := oC_e h
  have h := oL_e (x := s11) rfl (oL_e (x := v10) rfl h)
  refine aw_callVi (n := 1) (As := [.int x1]) (rest := [.int (s8.1 35), .int (v4 + ((s5.1 34) * v7))]) (q0 := 4) C (c_X4_severed l D N s8 s11 x1 v10 cw12) lw_39_21 lw_38_20 lw_38_21 lw_1_15 lw_38_22 rfl rfl (by decide +kernel) ⟨Nat.le_of_ble_eq_true rfl, Nat.le_of_ble_eq_true rfl⟩ rfl rfl rfl rfl rfl (Nat.le_of_ble_eq_true rfl) dX10_harm_33 ?_
  refine aw_imul C dX10_harm_36 ?_
  refine aw_iadd C dX10_harm_37 ?_
  refine aw_aload_n C 0 dX10_harm_38 rfl ?_
  refine cg_to_ofWater C lw_39_13 dX10_harm_39 ?_
  refine aw_aload_n C 0 dX10_harm_42 rfl ?_
  refine cg_to_land C lw_6_23 dX10_harm_43 ?_
  refine aw_iload_n C 1 dX10_harm_46 rfl ?_
  obtain ⟨⟨v13, s14⟩, cw15, h⟩ := oC_e h
  have h := oL_e (x := s14) rfl (oL_e (x := v13) rfl h)
  refine aw_callVi (n := 1) (As := [.int x1]) (rest := [.int (s11.1 36), .int ((v4 + ((s5.1 34) * v7)) + ((s8.1 35) * v10))]) (q0 := 4) C (c_X4_cut l D N s11 s14 x1 v13 cw15) lw_39_22 lw_38_12 lw_38_13 lw_1_15 lw_38_14 rfl rfl (by decide +kernel) ⟨Nat.le_of_ble_eq_true rfl, Nat.le_of_ble_eq_true rfl⟩ rfl rfl rfl rfl rfl (Nat.le_of_ble_eq_true rfl) dX10_harm_47 ?_
  refine aw_imul C dX10_harm_50 ?_
  refine aw_iadd C dX10_harm_51 ?_
  cases h
  exact aw_ret hE dX10_harm_52
def f_X10_harm (s0 : St) (x1 : Int32) : Option (Int32 × St) := F_X10_harm_0 s0 x1
theorem c_X10_harm (l : Launch) (D : va_G) (N : Nm) (s0 z1 : St) (x1 : Int32) (r : Int32) (h : f_X10_harm s0 x1 = some (r, z1)) : Meti l yX10_harm (tsU yX10_harm cX10_harm 3 (some .int)) rm_X10_harm D N [.ref (N.1 9), .int x1, .ref (N.1 2)] (wC N s0) r (wC N z1) :=
  met_i (cc := cX10_harm) (nL := 3) (own := RX10) (by decide) rfl (Nat.le_of_ble_eq_true rfl) (fun p e s m args below meth c Q A C hE => aw_sub [0, 1, 2] rfl (T_X10_harm_0 C hE s0 x1 h))
/-! AwardLine$Toll.ownCost(II)I -/
def rm_X10_ownCost : Room := { frames := 0, cells := 0, slots := 0, locals := 0 }
def F_X10_ownCost_0 (s0 : St) (x1 : Int32) (x2 : Int32) : Option (Int32 × St) :=
  oA x2 2 <|
  oL (((s0.2.1 8 (Int32.toNatClampNeg x2)) >>> (x1 &&& 31)) &&& (1 : Int32)) fun y2 =>
  oA x2 2 <|
  oX (26 + Int32.toNatClampNeg x2) x1 <|
  some ((s0.2.1 (26 + Int32.toNatClampNeg x2) (Int32.toNatClampNeg x1)) + ((s0.1 34) * y2), s0)
set_option maxHeartbeats 4000000 in
set_option maxRecDepth 100000 in
theorem T_X10_ownCost_0 {r : Int32} {z1 : St} (C : Cx p rm_X10_ownCost s m args c D A cX10_ownCost 4 RX10 rm_X10_ownCost N) (hE : En p l e rm_X10_ownCost s m args below meth c Q D A cX10_ownCost .ireturn (wC N z1) [.int r])  (s0 : St) (x1 : Int32) (x2 : Int32) (h : F_X10_ownCost_0 s0 x1 x2 = some (r, z1)) : Aw p l e rm_X10_ownCost s m args below meth c Q D A 4 (wC N s0) 0 [(0, .ref (N.1 9)), (1, .int x1), (2, .int x2)] [] := by
  unfold F_X10_ownCost_0 at h
  refine aw_aload_n C 0 dX10_ownCost_0 rfl ?_
  refine cg_to_land C lw_6_23 dX10_ownCost_1 ?_
  refine cg_ln_shrines C lw_42_9 dX10_ownCost_4 ?_
  refine aw_iload_n C 2 dX10_ownCost_7 rfl ?_
  obtain ⟨q1, h⟩ := oA_e h
  refine ca_iald (k := 8) C (by decide) rfl q1 dX10_ownCost_8 ?_
  refine aw_iload_n C 1 dX10_ownCost_9 rfl ?_
  refine aw_ishr C dX10_ownCost_10 ?_
  refine aw_iconst (v := 1) C dX10_ownCost_11 (by decide) ?_
  refine aw_iand C dX10_ownCost_12 ?_
  refine aw_topi (fun y2 ey2 => ?_)
  have h := oL_e ey2 h
  refine aw_istore_n (lv' := [(0, .ref (N.1 9)), (1, .int x1), (2, .int x2), (3, .int y2)]) C [1, 2, 3, 0] dX10_ownCost_13 rfl (by decide) rfl ?_
  refine aw_aload_n C 0 dX10_ownCost_14 rfl ?_
  refine cg_to_census C lw_7_0 dX10_ownCost_15 ?_
  refine cg_ce_people C lw_37_22 dX10_ownCost_18 ?_
  refine aw_iload_n C 2 dX10_ownCost_21 rfl ?_
  obtain ⟨q3, h⟩ := oA_e h
  refine ca_rald (k := 25) C (by decide) rfl q3 dX10_ownCost_22 ?_
  refine aw_iload_n C 1 dX10_ownCost_23 rfl ?_
  obtain ⟨q5a, q5b, q5, h⟩ := oX_e h
  refine ca_iald (k := (26 + Int32.toNatClampNeg x2)) C q5a q5b q5 dX10_ownCost_24 ?_
  refine aw_aload_n C 0 dX10_ownCost_25 rfl ?_
  refine cg_to_ofShrine C lw_39_11 dX10_ownCost_26 ?_
  refine aw_iload_n C 3 dX10_ownCost_29 rfl ?_
  refine aw_imul C dX10_ownCost_30 ?_
  refine aw_iadd C dX10_ownCost_31 ?_
  cases h
  exact aw_ret hE dX10_ownCost_32
def f_X10_ownCost (s0 : St) (x1 : Int32) (x2 : Int32) : Option (Int32 × St) := F_X10_ownCost_0 s0 x1 x2
theorem c_X10_ownCost (l : Launch) (D : va_G) (N : Nm) (s0 z1 : St) (x1 : Int32) (x2 : Int32) (r : Int32) (h : f_X10_ownCost s0 x1 x2 = some (r, z1)) : Meti l yX10_ownCost (tsU yX10_ownCost cX10_ownCost 4 (some .int)) rm_X10_ownCost D N [.ref (N.1 9), .int x1, .int x2] (wC N s0) r (wC N z1) :=
  met_i (cc := cX10_ownCost) (nL := 4) (own := RX10) (by decide) rfl (Nat.le_of_ble_eq_true rfl) (fun p e s m args below meth c Q A C hE => aw_sub [0, 1, 2] rfl (T_X10_ownCost_0 C hE s0 x1 x2 h))
/-! AwardLine$Toll.choose(III)V -/
def F_X10_choose_182 (me : St → Int32 → Int32 → Int32 → Option (St)) (k29 : St → Int32 → Int32 → Int32 → Int32 → Int32 → Int32 → Option (St)) (s0 : St) (x1 : Int32) (x2 : Int32) (x3 : Int32) (x4 : Int32) (x5 : Int32) (x6 : Int32) : Option (St) :=
  oL (x6 + (1 : Int32)) fun y1 =>
  k29 s0 x1 x2 x3 x4 x5 y1
set_option maxHeartbeats 4000000 in
set_option maxRecDepth 100000 in
theorem T_X10_choose_182 {z1 : St} {d : Nat} {me : St → Int32 → Int32 → Int32 → Option (St)} {k29 : St → Int32 → Int32 → Int32 → Int32 → Int32 → Int32 → Option (St)} (C : Cx p (rm_X10_choose (d + 1)) s m args c D A cX10_choose 11 RX10 (rm_X10_choose (d + 1)) N) (hE : En p l e (rm_X10_choose (d + 1)) s m args below meth c Q D A cX10_choose .return_ (wC N z1) []) (hme : ∀ (s0 q1 : St) (x1 : Int32) (x2 : Int32) (x3 : Int32), me s0 x1 x2 x3 = some q1 → Metv l yX10_choose (tsU yX10_choose cX10_choose 11 none) (rm_X10_choose d) D N [.ref (N.1 9), .int x1, .int x2, .int x3] (wC N s0) (wC N q1)) (hk29 : ∀ (s0 : St) (x1 : Int32) (x2 : Int32) (x3 : Int32) (x4 : Int32) (x5 : Int32) (x6 : Int32), k29 s0 x1 x2 x3 x4 x5 x6 = some z1 → Aw p l e (rm_X10_choose (d + 1)) s m args below meth c Q D A 11 (wC N s0) 29 [(0, .ref (N.1 9)), (1, .int x1), (2, .int x2), (3, .int x3), (4, .int x4), (5, .int x5), (6, .int x6)] []) (s0 : St) (x1 : Int32) (x2 : Int32) (x3 : Int32) (x4 : Int32) (x5 : Int32) (x6 : Int32) (h : F_X10_choose_182 me k29 s0 x1 x2 x3 x4 x5 x6 = some z1) : Aw p l e (rm_X10_choose (d + 1)) s m args below meth c Q D A 11 (wC N s0) 182 [(0, .ref (N.1 9)), (1, .int x1), (2, .int x2), (3, .int x3), (4, .int x4), (5, .int x5), (6, .int x6)] [] := by
  unfold F_X10_choose_182 at h
  obtain ⟨y1, ey1⟩ : ∃ q : Int32, q = x6 + (1 : Int32) := ⟨_, rfl⟩
  have h := oL_e ey1 h
  refine aw_iinc (v := y1) (k := 6) (lv' := [(0, .ref (N.1 9)), (1, .int x1), (2, .int x2), (3, .int x3), (4, .int x4), (5, .int x5), (6, .int y1)]) C [1, 2, 3, 4, 5, 6, 0] dX10_choose_182 rfl (by rw [ey1]; rfl) (by decide) rfl ?_
  refine aw_goto (tgt := 29) C dX10_choose_185 (by decide) ?_
  refine aw_sub (lv' := [(0, .ref (N.1 9)), (1, .int x1), (2, .int x2), (3, .int x3), (4, .int x4), (5, .int x5), (6, .int y1)]) [0, 1, 2, 3, 4, 5, 6] rfl ?_
  exact hk29 s0 x1 x2 x3 x4 x5 y1 h
def F_X10_choose_81 (me : St → Int32 → Int32 → Int32 → Option (St)) (k29 : St → Int32 → Int32 → Int32 → Int32 → Int32 → Int32 → Option (St)) (s0 : St) (x1 : Int32) (x2 : Int32) (x3 : Int32) (x4 : Int32) (x5 : Int32) (x6 : Int32) (x7 : Int32) (x8 : Int32) (t0 : Int32) : Option (St) :=
  oC (f_X10_ownCost s0 x1 x6) fun w3 =>
  oL w3.1 fun v1 => oL w3.2 fun s2 =>
  oC (f_X4_tracks s2 x1 t0) fun w6 =>
  oL w6.1 fun v4 => oL w6.2 fun s5 =>
  oC (f_X4_pipes s5 x4 t0) fun w9 =>
  oL w9.1 fun v7 => oL w9.2 fun s8 =>
  oL (((x3 + v1) + ((s2.1 35) * v4)) + ((s5.1 36) * v7)) fun y10 =>
  oA x1 17 <|
  if (s8.1 33) ≤ y10 + (s8.2.1 31 (Int32.toNatClampNeg x1)) then (
    F_X10_choose_182 me k29 s8 x1 x2 x3 x4 x5 x6)
  else (
    oC (f_X4_parted s8 x7 x5) fun w14 =>
    oL w14.1 fun v12 => oL w14.2 fun s13 =>
    if v12 = 0 then (
      oC (f_X4_parted s13 x8 x5) fun w17 =>
      oL w17.1 fun v15 => oL w17.2 fun s16 =>
      if v15 = 0 then (
        oC (me s16 (x1 - (1 : Int32)) x7 y10) fun w20 =>
        oL w20 fun s19 =>
        F_X10_choose_182 me k29 s19 x1 x2 x3 x4 x5 x6)
      else (
        F_X10_choose_182 me k29 s16 x1 x2 x3 x4 x5 x6))
    else (
      F_X10_choose_182 me k29 s13 x1 x2 x3 x4 x5 x6))
set_option maxHeartbeats 4000000 in
set_option maxRecDepth 100000 in
theorem T_X10_choose_81 {z1 : St} {d : Nat} {me : St → Int32 → Int32 → Int32 → Option (St)} {k29 : St → Int32 → Int32 → Int32 → Int32 → Int32 → Int32 → Option (St)} (C : Cx p (rm_X10_choose (d + 1)) s m args c D A cX10_choose 11 RX10 (rm_X10_choose (d + 1)) N) (hE : En p l e (rm_X10_choose (d + 1)) s m args below meth c Q D A cX10_choose .return_ (wC N z1) []) (hme : ∀ (s0 q1 : St) (x1 : Int32) (x2 : Int32) (x3 : Int32), me s0 x1 x2 x3 = some q1 → Metv l yX10_choose (tsU yX10_choose cX10_choose 11 none) (rm_X10_choose d) D N [.ref (N.1 9), .int x1, .int x2, .int x3] (wC N s0) (wC N q1)) (hk29 : ∀ (s0 : St) (x1 : Int32) (x2 : Int32) (x3 : Int32) (x4 : Int32) (x5 : Int32) (x6 : Int32), k29 s0 x1 x2 x3 x4 x5 x6 = some z1 → Aw p l e (rm_X10_choose (d + 1)) s m args below meth c Q D A 11 (wC N s0) 29 [(0, .ref (N.1 9)), (1, .int x1), (2, .int x2), (3, .int x3), (4, .int x4), (5, .int x5), (6, .int x6)] []) (s0 : St) (x1 : Int32) (x2 : Int32) (x3 : Int32) (x4 : Int32) (x5 : Int32) (x6 : Int32) (x7 : Int32) (x8 : Int32) (t0 : Int32) (h : F_X10_choose_81 me k29 s0 x1 x2 x3 x4 x5 x6 x7 x8 t0 = some z1) : Aw p l e (rm_X10_choose (d + 1)) s m args below meth c Q D A 11 (wC N s0) 81 [(0, .ref (N.1 9)), (1, .int x1), (2, .int x2), (3, .int x3), (4, .int x4), (5, .int x5), (6, .int x6), (7, .int x7), (8, .int x8)] [.int t0] := by
  unfold F_X10_choose_81 at h
  refine aw_istore (lv' := [(0, .ref (N.1 9)), (1, .int x1), (2, .int x2), (3, .int x3), (4, .int x4), (5, .int x5), (6, .int x6), (7, .int x7), (8, .int x8), (9, .int t0)]) C [1, 2, 3, 4, 5, 6, 7, 8, 9, 0] dX10_choose_81 (by decide) rfl ?_
  refine aw_iload_n C 3 dX10_choose_83 rfl ?_
  refine aw_aload_n C 0 dX10_choose_84 rfl ?_
  refine aw_iload_n C 1 dX10_choose_85 rfl ?_
  refine aw_iload C 6 dX10_choose_86 rfl ?_
  obtain ⟨⟨v1, s2⟩, cw3, h⟩ := oC_e h
  have h := oL_e (x := s2) rfl (oL_e (x := v1) rfl h)
  refine aw_callVi (n := 2) (As := [.int x1, .int x6]) (rest := [.int x3]) (q0 := 9) C (c_X10_ownCost l D N s0 s2 x1 x6 v1 cw3) lw_42_5 lw_42_6 lw_42_7 lw_2_21 lw_42_8 rfl rfl (by decide +kernel) ⟨by simp only [rm_X10_choose, rm_X10_ownCost]; omega, by simp only [rm_X10_choose, rm_X10_ownCost]; omega⟩ rfl rfl rfl rfl rfl (Nat.le_of_ble_eq_true rfl) dX10_choose_88 ?_
  refine aw_iadd C dX10_choose_91 ?_
  refine aw_aload_n C 0 dX10_choose_92 rfl ?_
  refine cg_to_ofRail C lw_39_12 dX10_choose_93 ?_
  refine aw_aload_n C 0 dX10_choose_96 rfl ?_
  refine cg_to_land C lw_6_23 dX10_choose_97 ?_
  refine aw_iload_n C 1 dX10_choose_100 rfl ?_
  refine aw_iload C 9 dX10_choose_101 rfl ?_
  obtain ⟨⟨v4, s5⟩, cw6, h⟩ := oC_e h
  have h := oL_e (x := s5) rfl (oL_e (x := v4) rfl h)
  refine aw_callVi (n := 2) (As := [.int x1, .int t0]) (rest := [.int (s2.1 35), .int (x3 + v1)]) (q0 := 4) C (c_X4_tracks l D N s2 s5 x1 t0 v4 cw6) lw_42_15 lw_39_0 lw_39_1 lw_1_15 lw_39_2 rfl rfl (by decide +kernel) ⟨by simp only [rm_X10_choose, rm_X4_tracks]; omega, by simp only [rm_X10_choose, rm_X4_tracks]; omega⟩ rfl rfl rfl rfl rfl (Nat.le_of_ble_eq_true rfl) dX10_choose_103 ?_
  refine aw_imul C dX10_choose_106 ?_
  refine aw_iadd C dX10_choose_107 ?_
  refine aw_aload_n C 0 dX10_choose_108 rfl ?_
  refine cg_to_ofWater C lw_39_13 dX10_choose_109 ?_
  refine aw_aload_n C 0 dX10_choose_112 rfl ?_
  refine cg_to_land C lw_6_23 dX10_choose_113 ?_
  refine aw_iload C 4 dX10_choose_116 rfl ?_
  refine aw_iload C 9 dX10_choose_118 rfl ?_
  obtain ⟨⟨v7, s8⟩, cw9, h⟩ := oC_e h
  have h := oL_e (x := s8) rfl (oL_e (x := v7) rfl h)
  refine aw_callVi (n := 2) (As := [.int x4, .int t0]) (rest := [.int (s5.1 36), .int ((x3 + v1) + ((s2.1 35) * v4))]) (q0 := 4) C (c_X4_pipes l D N s5 s8 x4 t0 v7 cw9) lw_42_16 lw_38_16 lw_38_17 lw_1_15 lw_38_18 rfl rfl (by decide +kernel) ⟨by simp only [rm_X10_choose, rm_X4_pipes]; omega, by simp only [rm_X10_choose, rm_X4_pipes]; omega⟩ rfl rfl rfl rfl rfl (Nat.le_of_ble_eq_true rfl) dX10_choose_120 ?_
  refine aw_imul C dX10_choose_123 ?_
  refine aw_iadd C dX10_choose_124 ?_
  refine aw_topi (fun y10 ey10 => ?_)
  have h := oL_e ey10 h
  refine aw_istore (lv' := [(0, .ref (N.1 9)), (1, .int x1), (2, .int x2), (3, .int x3), (4, .int x4), (5, .int x5), (6, .int x6), (7, .int x7), (8, .int x8), (9, .int t0), (10, .int y10)]) C [1, 2, 3, 4, 5, 6, 7, 8, 9, 10, 0] dX10_choose_125 (by decide) rfl ?_
  refine aw_iload C 10 dX10_choose_127 rfl ?_
  refine aw_aload_n C 0 dX10_choose_129 rfl ?_
  refine cg_to_restCosts C lw_6_19 dX10_choose_130 ?_
  refine aw_iload_n C 1 dX10_choose_133 rfl ?_
  obtain ⟨q11, h⟩ := oA_e h
  refine ca_iald (k := 31) C (by decide) rfl q11 dX10_choose_134 ?_
  refine aw_iadd C dX10_choose_135 ?_
  refine aw_aload_n C 0 dX10_choose_136 rfl ?_
  refine cg_to_bestHarm C lw_42_4 dX10_choose_137 ?_
  refine aw_icmp_ge (tgt := 182) C dX10_choose_140 (by decide) (fun q => ?_) (fun q => ?_)
  · have h := bq_t q h
    refine aw_sub (lv' := [(0, .ref (N.1 9)), (1, .int x1), (2, .int x2), (3, .int x3), (4, .int x4), (5, .int x5), (6, .int x6)]) [0, 1, 2, 3, 4, 5, 6] rfl ?_
    exact T_X10_choose_182 C hE hme hk29 s8 x1 x2 x3 x4 x5 x6 h
  · have h := bq_f q h
    refine aw_aload_n C 0 dX10_choose_143 rfl ?_
    refine cg_to_land C lw_6_23 dX10_choose_144 ?_
    refine aw_iload C 7 dX10_choose_147 rfl ?_
    refine aw_iload C 5 dX10_choose_149 rfl ?_
    obtain ⟨⟨v12, s13⟩, cw14, h⟩ := oC_e h
    have h := oL_e (x := s13) rfl (oL_e (x := v12) rfl h)
    refine aw_callVi (n := 2) (As := [.int x7, .int x5]) (rest := []) (q0 := 4) C (c_X4_parted l D N s8 s13 x7 x5 v12 cw14) lw_42_17 lw_42_18 lw_42_19 lw_1_15 lw_42_20 rfl rfl (by decide +kernel) ⟨by simp only [rm_X10_choose, rm_X4_parted]; omega, by simp only [rm_X10_choose, rm_X4_parted]; omega⟩ rfl rfl rfl rfl rfl (Nat.le_of_ble_eq_true rfl) dX10_choose_151 ?_
    refine aw_if_ne (tgt := 182) C dX10_choose_154 (by decide) (fun q => ?_) (fun q => ?_)
    · have h := bq_f q h
      refine aw_sub (lv' := [(0, .ref (N.1 9)), (1, .int x1), (2, .int x2), (3, .int x3), (4, .int x4), (5, .int x5), (6, .int x6)]) [0, 1, 2, 3, 4, 5, 6] rfl ?_
      exact T_X10_choose_182 C hE hme hk29 s13 x1 x2 x3 x4 x5 x6 h
    · have h := bq_t q h
      refine aw_aload_n C 0 dX10_choose_157 rfl ?_
      refine cg_to_land C lw_6_23 dX10_choose_158 ?_
      refine aw_iload C 8 dX10_choose_161 rfl ?_
      refine aw_iload C 5 dX10_choose_163 rfl ?_
      obtain ⟨⟨v15, s16⟩, cw17, h⟩ := oC_e h
      have h := oL_e (x := s16) rfl (oL_e (x := v15) rfl h)
      refine aw_callVi (n := 2) (As := [.int x8, .int x5]) (rest := []) (q0 := 4) C (c_X4_parted l D N s13 s16 x8 x5 v15 cw17) lw_42_17 lw_42_18 lw_42_19 lw_1_15 lw_42_20 rfl rfl (by decide +kernel) ⟨by simp only [rm_X10_choose, rm_X4_parted]; omega, by simp only [rm_X10_choose, rm_X4_parted]; omega⟩ rfl rfl rfl rfl rfl (Nat.le_of_ble_eq_true rfl) dX10_choose_165 ?_
      refine aw_if_ne (tgt := 182) C dX10_choose_168 (by decide) (fun q => ?_) (fun q => ?_)
      · have h := bq_f q h
        refine aw_sub (lv' := [(0, .ref (N.1 9)), (1, .int x1), (2, .int x2), (3, .int x3), (4, .int x4), (5, .int x5), (6, .int x6)]) [0, 1, 2, 3, 4, 5, 6] rfl ?_
        exact T_X10_choose_182 C hE hme hk29 s16 x1 x2 x3 x4 x5 x6 h
      · have h := bq_t q h
        refine aw_aload_n C 0 dX10_choose_171 rfl ?_
        refine aw_iload_n C 1 dX10_choose_172 rfl ?_
        refine aw_iconst (v := 1) C dX10_choose_173 (by decide) ?_
        refine aw_isub C dX10_choose_174 ?_
        refine aw_iload C 7 dX10_choose_175 rfl ?_
        refine aw_iload C 10 dX10_choose_177 rfl ?_
        obtain ⟨s19, cw20, h⟩ := oC_e h
        have h := oL_e (x := s19) rfl h
        refine aw_callVv (n := 3) (As := [.int (x1 - (1 : Int32)), .int x7, .int y10]) (rest := []) (q0 := 9) C (hme s16 s19 (x1 - (1 : Int32)) x7 y10 cw20) lw_42_10 lw_42_11 lw_42_12 lw_2_21 lw_42_13 rfl rfl (by decide +kernel) ⟨by simp only [rm_X10_choose, rm_X10_choose]; omega, by simp only [rm_X10_choose, rm_X10_choose]; omega⟩ rfl rfl rfl rfl rfl (Nat.le_of_ble_eq_true rfl) dX10_choose_179 ?_
        refine aw_sub (lv' := [(0, .ref (N.1 9)), (1, .int x1), (2, .int x2), (3, .int x3), (4, .int x4), (5, .int x5), (6, .int x6)]) [0, 1, 2, 3, 4, 5, 6] rfl ?_
        exact T_X10_choose_182 C hE hme hk29 s19 x1 x2 x3 x4 x5 x6 h
def F_X10_choose_48 (me : St → Int32 → Int32 → Int32 → Option (St)) (k29 : St → Int32 → Int32 → Int32 → Int32 → Int32 → Int32 → Option (St)) (s0 : St) (x1 : Int32) (x2 : Int32) (x3 : Int32) (x4 : Int32) (x5 : Int32) (x6 : Int32) (t0 : Int32) : Option (St) :=
  oL (((s0.1 22) &&& (x5 ^^^ (-1 : Int32))) &&& (t0 ^^^ (-1 : Int32))) fun y1 =>
  if x6 = 0 then (
    F_X10_choose_81 me k29 s0 x1 x2 x3 x4 x5 x6 t0 y1 t0)
  else (
    F_X10_choose_81 me k29 s0 x1 x2 x3 x4 x5 x6 t0 y1 y1)
set_option maxHeartbeats 4000000 in
set_option maxRecDepth 100000 in
theorem T_X10_choose_48 {z1 : St} {d : Nat} {me : St → Int32 → Int32 → Int32 → Option (St)} {k29 : St → Int32 → Int32 → Int32 → Int32 → Int32 → Int32 → Option (St)} (C : Cx p (rm_X10_choose (d + 1)) s m args c D A cX10_choose 11 RX10 (rm_X10_choose (d + 1)) N) (hE : En p l e (rm_X10_choose (d + 1)) s m args below meth c Q D A cX10_choose .return_ (wC N z1) []) (hme : ∀ (s0 q1 : St) (x1 : Int32) (x2 : Int32) (x3 : Int32), me s0 x1 x2 x3 = some q1 → Metv l yX10_choose (tsU yX10_choose cX10_choose 11 none) (rm_X10_choose d) D N [.ref (N.1 9), .int x1, .int x2, .int x3] (wC N s0) (wC N q1)) (hk29 : ∀ (s0 : St) (x1 : Int32) (x2 : Int32) (x3 : Int32) (x4 : Int32) (x5 : Int32) (x6 : Int32), k29 s0 x1 x2 x3 x4 x5 x6 = some z1 → Aw p l e (rm_X10_choose (d + 1)) s m args below meth c Q D A 11 (wC N s0) 29 [(0, .ref (N.1 9)), (1, .int x1), (2, .int x2), (3, .int x3), (4, .int x4), (5, .int x5), (6, .int x6)] []) (s0 : St) (x1 : Int32) (x2 : Int32) (x3 : Int32) (x4 : Int32) (x5 : Int32) (x6 : Int32) (t0 : Int32) (h : F_X10_choose_48 me k29 s0 x1 x2 x3 x4 x5 x6 t0 = some z1) : Aw p l e (rm_X10_choose (d + 1)) s m args below meth c Q D A 11 (wC N s0) 48 [(0, .ref (N.1 9)), (1, .int x1), (2, .int x2), (3, .int x3), (4, .int x4), (5, .int x5), (6, .int x6)] [.int t0] := by
  unfold F_X10_choose_48 at h
  refine aw_istore (lv' := [(0, .ref (N.1 9)), (1, .int x1), (2, .int x2), (3, .int x3), (4, .int x4), (5, .int x5), (6, .int x6), (7, .int t0)]) C [1, 2, 3, 4, 5, 6, 7, 0] dX10_choose_48 (by decide) rfl ?_
  refine aw_aload_n C 0 dX10_choose_50 rfl ?_
  refine cg_to_land C lw_6_23 dX10_choose_51 ?_
  refine cg_ln_all C lw_42_14 dX10_choose_54 ?_
  refine aw_iload C 5 dX10_choose_57 rfl ?_
  refine aw_iconst (v := -1) C dX10_choose_59 (by decide) ?_
  refine aw_ixor C dX10_choose_60 ?_
  refine aw_iand C dX10_choose_61 ?_
  refine aw_iload C 7 dX10_choose_62 rfl ?_
  refine aw_iconst (v := -1) C dX10_choose_64 (by decide) ?_
  refine aw_ixor C dX10_choose_65 ?_
  refine aw_iand C dX10_choose_66 ?_
  refine aw_topi (fun y1 ey1 => ?_)
  have h := oL_e ey1 h
  refine aw_istore (lv' := [(0, .ref (N.1 9)), (1, .int x1), (2, .int x2), (3, .int x3), (4, .int x4), (5, .int x5), (6, .int x6), (7, .int t0), (8, .int y1)]) C [1, 2, 3, 4, 5, 6, 7, 8, 0] dX10_choose_67 (by decide) rfl ?_
  refine aw_iload C 6 dX10_choose_69 rfl ?_
  refine aw_if_ne (tgt := 79) C dX10_choose_71 (by decide) (fun q => ?_) (fun q => ?_)
  · have h := bq_f q h
    refine aw_iload C 8 dX10_choose_79 rfl ?_
    refine aw_sub (lv' := [(0, .ref (N.1 9)), (1, .int x1), (2, .int x2), (3, .int x3), (4, .int x4), (5, .int x5), (6, .int x6), (7, .int t0), (8, .int y1)]) [0, 1, 2, 3, 4, 5, 6, 7, 8] rfl ?_
    exact T_X10_choose_81 C hE hme hk29 s0 x1 x2 x3 x4 x5 x6 t0 y1 y1 h
  · have h := bq_t q h
    refine aw_iload C 7 dX10_choose_74 rfl ?_
    refine aw_goto (tgt := 81) C dX10_choose_76 (by decide) ?_
    refine aw_sub (lv' := [(0, .ref (N.1 9)), (1, .int x1), (2, .int x2), (3, .int x3), (4, .int x4), (5, .int x5), (6, .int x6), (7, .int t0), (8, .int y1)]) [0, 1, 2, 3, 4, 5, 6, 7, 8] rfl ?_
    exact T_X10_choose_81 C hE hme hk29 s0 x1 x2 x3 x4 x5 x6 t0 y1 t0 h
def F_X10_choose_29_b (me : St → Int32 → Int32 → Int32 → Option (St)) (k29 : St → Int32 → Int32 → Int32 → Int32 → Int32 → Int32 → Option (St)) (s0 : St) (x1 : Int32) (x2 : Int32) (x3 : Int32) (x4 : Int32) (x5 : Int32) (x6 : Int32) : Option (St) :=
  if (2 : Int32) ≤ x6 then (
    some s0)
  else (
    if x6 = 0 then (
      F_X10_choose_48 me k29 s0 x1 x2 x3 x4 x5 x6 x2)
    else (
      F_X10_choose_48 me k29 s0 x1 x2 x3 x4 x5 x6 (x2 ||| x4)))
set_option maxHeartbeats 4000000 in
set_option maxRecDepth 100000 in
theorem T_X10_choose_29_b {z1 : St} {d : Nat} {me : St → Int32 → Int32 → Int32 → Option (St)} {k29 : St → Int32 → Int32 → Int32 → Int32 → Int32 → Int32 → Option (St)} (C : Cx p (rm_X10_choose (d + 1)) s m args c D A cX10_choose 11 RX10 (rm_X10_choose (d + 1)) N) (hE : En p l e (rm_X10_choose (d + 1)) s m args below meth c Q D A cX10_choose .return_ (wC N z1) []) (hme : ∀ (s0 q1 : St) (x1 : Int32) (x2 : Int32) (x3 : Int32), me s0 x1 x2 x3 = some q1 → Metv l yX10_choose (tsU yX10_choose cX10_choose 11 none) (rm_X10_choose d) D N [.ref (N.1 9), .int x1, .int x2, .int x3] (wC N s0) (wC N q1)) (hk29 : ∀ (s0 : St) (x1 : Int32) (x2 : Int32) (x3 : Int32) (x4 : Int32) (x5 : Int32) (x6 : Int32), k29 s0 x1 x2 x3 x4 x5 x6 = some z1 → Aw p l e (rm_X10_choose (d + 1)) s m args below meth c Q D A 11 (wC N s0) 29 [(0, .ref (N.1 9)), (1, .int x1), (2, .int x2), (3, .int x3), (4, .int x4), (5, .int x5), (6, .int x6)] []) (s0 : St) (x1 : Int32) (x2 : Int32) (x3 : Int32) (x4 : Int32) (x5 : Int32) (x6 : Int32) (h : F_X10_choose_29_b me k29 s0 x1 x2 x3 x4 x5 x6 = some z1) : Aw p l e (rm_X10_choose (d + 1)) s m args below meth c Q D A 11 (wC N s0) 29 [(0, .ref (N.1 9)), (1, .int x1), (2, .int x2), (3, .int x3), (4, .int x4), (5, .int x5), (6, .int x6)] [] := by
  unfold F_X10_choose_29_b at h
  refine aw_iload C 6 dX10_choose_29 rfl ?_
  refine aw_iconst (v := 2) C dX10_choose_31 (by decide) ?_
  refine aw_icmp_ge (tgt := 188) C dX10_choose_32 (by decide) (fun q => ?_) (fun q => ?_)
  · have h := bq_t q h
    cases h
    exact aw_ret hE dX10_choose_188
  · have h := bq_f q h
    refine aw_iload C 6 dX10_choose_35 rfl ?_
    refine aw_if_ne (tgt := 44) C dX10_choose_37 (by decide) (fun q => ?_) (fun q => ?_)
    · have h := bq_f q h
      refine aw_iload_n C 2 dX10_choose_44 rfl ?_
      refine aw_iload C 4 dX10_choose_45 rfl ?_
      refine aw_ior C dX10_choose_47 ?_
      refine aw_sub (lv' := [(0, .ref (N.1 9)), (1, .int x1), (2, .int x2), (3, .int x3), (4, .int x4), (5, .int x5), (6, .int x6)]) [0, 1, 2, 3, 4, 5, 6] rfl ?_
      exact T_X10_choose_48 C hE hme hk29 s0 x1 x2 x3 x4 x5 x6 (x2 ||| x4) h
    · have h := bq_t q h
      refine aw_iload_n C 2 dX10_choose_40 rfl ?_
      refine aw_goto (tgt := 48) C dX10_choose_41 (by decide) ?_
      refine aw_sub (lv' := [(0, .ref (N.1 9)), (1, .int x1), (2, .int x2), (3, .int x3), (4, .int x4), (5, .int x5), (6, .int x6)]) [0, 1, 2, 3, 4, 5, 6] rfl ?_
      exact T_X10_choose_48 C hE hme hk29 s0 x1 x2 x3 x4 x5 x6 x2 h
def F_X10_choose_29 (me : St → Int32 → Int32 → Int32 → Option (St)) : Nat → St → Int32 → Int32 → Int32 → Int32 → Int32 → Int32 → Option (St)
  | 0 => fun _ _ _ _ _ _ _ => none
  | n + 1 => F_X10_choose_29_b me (F_X10_choose_29 me n)
theorem T_X10_choose_29 {z1 : St} {d : Nat} {me : St → Int32 → Int32 → Int32 → Option (St)} (C : Cx p (rm_X10_choose (d + 1)) s m args c D A cX10_choose 11 RX10 (rm_X10_choose (d + 1)) N) (hE : En p l e (rm_X10_choose (d + 1)) s m args below meth c Q D A cX10_choose .return_ (wC N z1) []) (hme : ∀ (s0 q1 : St) (x1 : Int32) (x2 : Int32) (x3 : Int32), me s0 x1 x2 x3 = some q1 → Metv l yX10_choose (tsU yX10_choose cX10_choose 11 none) (rm_X10_choose d) D N [.ref (N.1 9), .int x1, .int x2, .int x3] (wC N s0) (wC N q1))  : ∀ (n : Nat) (s0 : St) (x1 : Int32) (x2 : Int32) (x3 : Int32) (x4 : Int32) (x5 : Int32) (x6 : Int32), F_X10_choose_29 me n s0 x1 x2 x3 x4 x5 x6 = some z1 → Aw p l e (rm_X10_choose (d + 1)) s m args below meth c Q D A 11 (wC N s0) 29 [(0, .ref (N.1 9)), (1, .int x1), (2, .int x2), (3, .int x3), (4, .int x4), (5, .int x5), (6, .int x6)] [] := by
  intro n
  induction n with
  | zero => intro s0 x1 x2 x3 x4 x5 x6 h; cases h
  | succ n ih => intro s0 x1 x2 x3 x4 x5 x6 h; exact T_X10_choose_29_b C hE hme ih s0 x1 x2 x3 x4 x5 x6 h
def F_X10_choose_0 (me : St → Int32 → Int32 → Int32 → Option (St)) (s0 : St) (x1 : Int32) (x2 : Int32) (x3 : Int32) : Option (St) :=
  if 0 ≤ x1 then (
    oL ((1 : Int32) <<< (x1 &&& 31)) fun y1 =>
    oL (y1 - (1 : Int32)) fun y2 =>
    oL (0 : Int32) fun y3 =>
    F_X10_choose_29 me 100000 s0 x1 x2 x3 y1 y2 y3)
  else (
    oL (sI s0 32 x2) fun s4 =>
    oL (sI s4 33 x3) fun s5 =>
    some s5)
set_option maxHeartbeats 4000000 in
set_option maxRecDepth 100000 in
theorem T_X10_choose_0 {z1 : St} {d : Nat} {me : St → Int32 → Int32 → Int32 → Option (St)} (C : Cx p (rm_X10_choose (d + 1)) s m args c D A cX10_choose 11 RX10 (rm_X10_choose (d + 1)) N) (hE : En p l e (rm_X10_choose (d + 1)) s m args below meth c Q D A cX10_choose .return_ (wC N z1) []) (hme : ∀ (s0 q1 : St) (x1 : Int32) (x2 : Int32) (x3 : Int32), me s0 x1 x2 x3 = some q1 → Metv l yX10_choose (tsU yX10_choose cX10_choose 11 none) (rm_X10_choose d) D N [.ref (N.1 9), .int x1, .int x2, .int x3] (wC N s0) (wC N q1))  (s0 : St) (x1 : Int32) (x2 : Int32) (x3 : Int32) (h : F_X10_choose_0 me s0 x1 x2 x3 = some z1) : Aw p l e (rm_X10_choose (d + 1)) s m args below meth c Q D A 11 (wC N s0) 0 [(0, .ref (N.1 9)), (1, .int x1), (2, .int x2), (3, .int x3)] [] := by
  unfold F_X10_choose_0 at h
  refine aw_iload_n C 1 dX10_choose_0 rfl ?_
  refine aw_if_ge (tgt := 15) C dX10_choose_1 (by decide) (fun q => ?_) (fun q => ?_)
  · have h := bq_t q h
    refine aw_iconst (v := 1) C dX10_choose_15 (by decide) ?_
    refine aw_iload_n C 1 dX10_choose_16 rfl ?_
    refine aw_ishl C dX10_choose_17 ?_
    refine aw_topi (fun y1 ey1 => ?_)
    have h := oL_e ey1 h
    refine aw_istore (lv' := [(0, .ref (N.1 9)), (1, .int x1), (2, .int x2), (3, .int x3), (4, .int y1)]) C [1, 2, 3, 4, 0] dX10_choose_18 (by decide) rfl ?_
    refine aw_iload C 4 dX10_choose_20 rfl ?_
    refine aw_iconst (v := 1) C dX10_choose_22 (by decide) ?_
    refine aw_isub C dX10_choose_23 ?_
    refine aw_topi (fun y2 ey2 => ?_)
    have h := oL_e ey2 h
    refine aw_istore (lv' := [(0, .ref (N.1 9)), (1, .int x1), (2, .int x2), (3, .int x3), (4, .int y1), (5, .int y2)]) C [1, 2, 3, 4, 5, 0] dX10_choose_24 (by decide) rfl ?_
    refine aw_iconst (v := 0) C dX10_choose_26 (by decide) ?_
    refine aw_topi (fun y3 ey3 => ?_)
    have h := oL_e ey3 h
    refine aw_istore (lv' := [(0, .ref (N.1 9)), (1, .int x1), (2, .int x2), (3, .int x3), (4, .int y1), (5, .int y2), (6, .int y3)]) C [1, 2, 3, 4, 5, 6, 0] dX10_choose_27 (by decide) rfl ?_
    refine aw_sub (lv' := [(0, .ref (N.1 9)), (1, .int x1), (2, .int x2), (3, .int x3), (4, .int y1), (5, .int y2), (6, .int y3)]) [0, 1, 2, 3, 4, 5, 6] rfl ?_
    exact T_X10_choose_29 C hE hme 100000 s0 x1 x2 x3 y1 y2 y3 h
  · have h := bq_f q h
    refine aw_aload_n C 0 dX10_choose_4 rfl ?_
    refine aw_iload_n C 2 dX10_choose_5 rfl ?_
    refine cp_to_bestLine C lw_42_2 dX10_choose_6 ?_
    refine ca_name (fun s4 es4 => ?_)
    have h := oL_e es4 h
    refine aw_aload_n C 0 dX10_choose_9 rfl ?_
    refine aw_iload_n C 3 dX10_choose_10 rfl ?_
    refine cp_to_bestHarm C lw_42_4 dX10_choose_11 ?_
    refine ca_name (fun s5 es5 => ?_)
    have h := oL_e es5 h
    cases h
    exact aw_ret hE dX10_choose_14
def f_X10_choose_o (me : St → Int32 → Int32 → Int32 → Option (St)) (s0 : St) (x1 : Int32) (x2 : Int32) (x3 : Int32) : Option (St) := F_X10_choose_0 me s0 x1 x2 x3
def f_X10_choose : Nat → St → Int32 → Int32 → Int32 → Option (St)
  | 0 => fun _ _ _ _ => none
  | d + 1 => f_X10_choose_o (f_X10_choose d)
theorem c_X10_choose_o {l : Launch} {D : va_G} {N : Nm} {d : Nat} {me : St → Int32 → Int32 → Int32 → Option (St)} (hme : ∀ (s0 q1 : St) (x1 : Int32) (x2 : Int32) (x3 : Int32), me s0 x1 x2 x3 = some q1 → Metv l yX10_choose (tsU yX10_choose cX10_choose 11 none) (rm_X10_choose d) D N [.ref (N.1 9), .int x1, .int x2, .int x3] (wC N s0) (wC N q1)) (s0 z1 : St) (x1 : Int32) (x2 : Int32) (x3 : Int32) (h : f_X10_choose_o me s0 x1 x2 x3 = some z1) : Metv l yX10_choose (tsU yX10_choose cX10_choose 11 none) (rm_X10_choose (d + 1)) D N [.ref (N.1 9), .int x1, .int x2, .int x3] (wC N s0) (wC N z1) :=
  met_v (cc := cX10_choose) (nL := 11) (own := RX10) (by decide) rfl (Nat.le_of_ble_eq_true rfl) (fun p e s m args below meth c Q A C hE => aw_sub [0, 1, 2, 3] rfl (T_X10_choose_0 C hE hme s0 x1 x2 x3 h))
theorem c_X10_choose (d : Nat) (l : Launch) (D : va_G) (N : Nm) : ∀ (s0 z1 : St) (x1 : Int32) (x2 : Int32) (x3 : Int32) (h : f_X10_choose d s0 x1 x2 x3 = some z1), Metv l yX10_choose (tsU yX10_choose cX10_choose 11 none) (rm_X10_choose d) D N [.ref (N.1 9), .int x1, .int x2, .int x3] (wC N s0) (wC N z1) := by
  induction d with
  | zero => intro s0 z1 x1 x2 x3 h; cases h
  | succ d ih => intro s0 z1 x1 x2 x3 h; exact c_X10_choose_o (me := f_X10_choose d) ih s0 z1 x1 x2 x3 h
/-! AwardLine$Toll.search(LAwardLine$Terms;)V -/
def rm_X10_search : Room := { frames := 83, cells := 0, slots := 0, locals := 7630 }
def F_X10_search_67 (s0 : St) : Option (St) :=
  oL (sI s0 32 (0 : Int32)) fun s1 =>
  oL (sI s1 33 (1000000000 : Int32)) fun s2 =>
  oC (f_X10_choose 18 s2 ((s2.1 21) - (1 : Int32)) (0 : Int32) (0 : Int32)) fun w5 =>
  oL w5 fun s4 =>
  some s4
set_option maxHeartbeats 4000000 in
set_option maxRecDepth 100000 in
theorem T_X10_search_67 {z1 : St} (C : Cx p rm_X10_search s m args c D A cX10_search 3 RX10 rm_X10_search N) (hE : En p l e rm_X10_search s m args below meth c Q D A cX10_search .return_ (wC N z1) [])  (s0 : St) (h : F_X10_search_67 s0 = some z1) : Aw p l e rm_X10_search s m args below meth c Q D A 3 (wC N s0) 67 [(0, .ref (N.1 9))] [] := by
  unfold F_X10_search_67 at h
  refine aw_aload_n C 0 dX10_search_67 rfl ?_
  refine aw_iconst (v := 0) C dX10_search_68 (by decide) ?_
  refine cp_to_bestLine C lw_42_2 dX10_search_69 ?_
  refine ca_name (fun s1 es1 => ?_)
  have h := oL_e es1 h
  refine aw_aload_n C 0 dX10_search_72 rfl ?_
  refine aw_ldc (v := 1000000000) C lw_42_3 dX10_search_73 ?_
  refine cp_to_bestHarm C lw_42_4 dX10_search_75 ?_
  refine ca_name (fun s2 es2 => ?_)
  have h := oL_e es2 h
  refine aw_aload_n C 0 dX10_search_78 rfl ?_
  refine aw_aload_n C 0 dX10_search_79 rfl ?_
  refine cg_to_land C lw_6_23 dX10_search_80 ?_
  refine cg_ln_size C lw_37_21 dX10_search_83 ?_
  refine aw_iconst (v := 1) C dX10_search_86 (by decide) ?_
  refine aw_isub C dX10_search_87 ?_
  refine aw_iconst (v := 0) C dX10_search_88 (by decide) ?_
  refine aw_iconst (v := 0) C dX10_search_89 (by decide) ?_
  obtain ⟨s4, cw5, h⟩ := oC_e h
  have h := oL_e (x := s4) rfl h
  refine aw_callVv (n := 3) (As := [.int ((s2.1 21) - (1 : Int32)), .int (0 : Int32), .int (0 : Int32)]) (rest := []) (q0 := 9) C (c_X10_choose 18 l D N s2 s4 ((s2.1 21) - (1 : Int32)) (0 : Int32) (0 : Int32) cw5) lw_42_10 lw_42_11 lw_42_12 lw_2_21 lw_42_13 rfl rfl (by decide +kernel) ⟨Nat.le_of_ble_eq_true rfl, Nat.le_of_ble_eq_true rfl⟩ rfl rfl rfl rfl rfl (Nat.le_of_ble_eq_true rfl) dX10_search_90 ?_
  cases h
  exact aw_ret hE dX10_search_93
def F_X10_search_14_b (k14 : St → Int32 → Option (St)) (s0 : St) (x2 : Int32) : Option (St) :=
  if (s0.1 21) ≤ x2 then (
    F_X10_search_67 s0)
  else (
    if (16 : Int32) ≤ x2 then (
      F_X10_search_67 s0)
    else (
      oA x2 17 <|
      oC (f_X10_ownCost s0 x2 (0 : Int32)) fun w4 =>
      oL w4.1 fun v2 => oL w4.2 fun s3 =>
      oC (f_X10_ownCost s3 x2 (1 : Int32)) fun w7 =>
      oL w7.1 fun v5 => oL w7.2 fun s6 =>
      oA (x2 + (1 : Int32)) 17 <|
      oL (sA s6 31 (upd (s6.2.1 31) (Int32.toNatClampNeg (x2 + (1 : Int32))) ((s0.2.1 31 (Int32.toNatClampNeg x2)) + (jmin v2 v5)))) fun s9 =>
      oL (x2 + (1 : Int32)) fun y10 =>
      k14 s9 y10))
set_option maxHeartbeats 4000000 in
set_option maxRecDepth 100000 in
theorem T_X10_search_14_b {z1 : St} {k14 : St → Int32 → Option (St)} (C : Cx p rm_X10_search s m args c D A cX10_search 3 RX10 rm_X10_search N) (hE : En p l e rm_X10_search s m args below meth c Q D A cX10_search .return_ (wC N z1) []) (hk14 : ∀ (s0 : St) (x2 : Int32), k14 s0 x2 = some z1 → Aw p l e rm_X10_search s m args below meth c Q D A 3 (wC N s0) 14 [(0, .ref (N.1 9)), (2, .int x2)] []) (s0 : St) (x2 : Int32) (h : F_X10_search_14_b k14 s0 x2 = some z1) : Aw p l e rm_X10_search s m args below meth c Q D A 3 (wC N s0) 14 [(0, .ref (N.1 9)), (2, .int x2)] [] := by
  unfold F_X10_search_14_b at h
  refine aw_iload_n C 1 dX10_search_14 rfl ?_
  refine aw_aload_n C 0 dX10_search_15 rfl ?_
  refine cg_to_land C lw_6_23 dX10_search_16 ?_
  refine cg_ln_size C lw_37_21 dX10_search_19 ?_
  refine aw_icmp_ge (tgt := 67) C dX10_search_22 (by decide) (fun q => ?_) (fun q => ?_)
  · have h := bq_t q h
    refine aw_sub (lv' := [(0, .ref (N.1 9))]) [0] rfl ?_
    exact T_X10_search_67 C hE s0 h
  · have h := bq_f q h
    refine aw_iload_n C 1 dX10_search_25 rfl ?_
    refine aw_bipush (v := 16) C dX10_search_26 (by decide) ?_
    refine aw_icmp_ge (tgt := 67) C dX10_search_28 (by decide) (fun q => ?_) (fun q => ?_)
    · have h := bq_t q h
      refine aw_sub (lv' := [(0, .ref (N.1 9))]) [0] rfl ?_
      exact T_X10_search_67 C hE s0 h
    · have h := bq_f q h
      refine aw_aload_n C 0 dX10_search_31 rfl ?_
      refine cg_to_restCosts C lw_6_19 dX10_search_32 ?_
      refine aw_iload_n C 1 dX10_search_35 rfl ?_
      refine aw_iconst (v := 1) C dX10_search_36 (by decide) ?_
      refine aw_iadd C dX10_search_37 ?_
      refine aw_aload_n C 0 dX10_search_38 rfl ?_
      refine cg_to_restCosts C lw_6_19 dX10_search_39 ?_
      refine aw_iload_n C 1 dX10_search_42 rfl ?_
      obtain ⟨q1, h⟩ := oA_e h
      refine ca_iald (k := 31) C (by decide) rfl q1 dX10_search_43 ?_
      refine aw_aload_n C 0 dX10_search_44 rfl ?_
      refine aw_iload_n C 1 dX10_search_45 rfl ?_
      refine aw_iconst (v := 0) C dX10_search_46 (by decide) ?_
      obtain ⟨⟨v2, s3⟩, cw4, h⟩ := oC_e h
      have h := oL_e (x := s3) rfl (oL_e (x := v2) rfl h)
      refine aw_callVi (n := 2) (As := [.int x2, .int (0 : Int32)]) (rest := [.int (s0.2.1 31 (Int32.toNatClampNeg x2)), .int (x2 + (1 : Int32)), .ref (N.2.1 31)]) (q0 := 9) C (c_X10_ownCost l D N s0 s3 x2 (0 : Int32) v2 cw4) lw_42_5 lw_42_6 lw_42_7 lw_2_21 lw_42_8 rfl rfl (by decide +kernel) ⟨Nat.le_of_ble_eq_true rfl, Nat.le_of_ble_eq_true rfl⟩ rfl rfl rfl rfl rfl (Nat.le_of_ble_eq_true rfl) dX10_search_47 ?_
      refine aw_aload_n C 0 dX10_search_50 rfl ?_
      refine aw_iload_n C 1 dX10_search_51 rfl ?_
      refine aw_iconst (v := 1) C dX10_search_52 (by decide) ?_
      obtain ⟨⟨v5, s6⟩, cw7, h⟩ := oC_e h
      have h := oL_e (x := s6) rfl (oL_e (x := v5) rfl h)
      refine aw_callVi (n := 2) (As := [.int x2, .int (1 : Int32)]) (rest := [.int v2, .int (s0.2.1 31 (Int32.toNatClampNeg x2)), .int (x2 + (1 : Int32)), .ref (N.2.1 31)]) (q0 := 9) C (c_X10_ownCost l D N s3 s6 x2 (1 : Int32) v5 cw7) lw_42_5 lw_42_6 lw_42_7 lw_2_21 lw_42_8 rfl rfl (by decide +kernel) ⟨Nat.le_of_ble_eq_true rfl, Nat.le_of_ble_eq_true rfl⟩ rfl rfl rfl rfl rfl (Nat.le_of_ble_eq_true rfl) dX10_search_53 ?_
      refine aw_mmin C lw_42_1 lw_10_23 (by decide +kernel) lw_11_1 (Nat.le_of_ble_eq_true rfl) (Nat.le_of_ble_eq_true rfl) dX10_search_56 ?_
      refine aw_iadd C dX10_search_59 ?_
      obtain ⟨q8, h⟩ := oA_e h
      refine ca_iast (k := 31) C (by decide) rfl q8 dX10_search_60 ?_
      refine ca_name (fun s9 es9 => ?_)
      have h := oL_e es9 h
      obtain ⟨y10, ey10⟩ : ∃ q : Int32, q = x2 + (1 : Int32) := ⟨_, rfl⟩
      have h := oL_e ey10 h
      refine aw_iinc (v := y10) (k := 1) (lv' := [(0, .ref (N.1 9)), (2, .int y10)]) C [1, 0] dX10_search_61 rfl (by rw [ey10]; rfl) (by decide) rfl ?_
      refine aw_goto (tgt := 14) C dX10_search_64 (by decide) ?_
      refine aw_sub (lv' := [(0, .ref (N.1 9)), (2, .int y10)]) [0, 1] rfl ?_
      exact hk14 s9 y10 h
def F_X10_search_14 : Nat → St → Int32 → Option (St)
  | 0 => fun _ _ => none
  | n + 1 => F_X10_search_14_b (F_X10_search_14 n)
theorem T_X10_search_14 {z1 : St} (C : Cx p rm_X10_search s m args c D A cX10_search 3 RX10 rm_X10_search N) (hE : En p l e rm_X10_search s m args below meth c Q D A cX10_search .return_ (wC N z1) [])  : ∀ (n : Nat) (s0 : St) (x2 : Int32), F_X10_search_14 n s0 x2 = some z1 → Aw p l e rm_X10_search s m args below meth c Q D A 3 (wC N s0) 14 [(0, .ref (N.1 9)), (2, .int x2)] [] := by
  intro n
  induction n with
  | zero => intro s0 x2 h; cases h
  | succ n ih => intro s0 x2 h; exact T_X10_search_14_b C hE ih s0 x2 h
def F_X10_search_0 (s0 : St) : Option (St) :=
  oC (f_X10_heed s0) fun w3 =>
  oL w3 fun s2 =>
  oA (0 : Int32) 17 <|
  oL (sA s2 31 (upd (s2.2.1 31) (Int32.toNatClampNeg (0 : Int32)) (0 : Int32))) fun s5 =>
  oL (0 : Int32) fun y6 =>
  F_X10_search_14 100000 s5 y6
set_option maxHeartbeats 4000000 in
set_option maxRecDepth 100000 in
theorem T_X10_search_0 {z1 : St} (C : Cx p rm_X10_search s m args c D A cX10_search 3 RX10 rm_X10_search N) (hE : En p l e rm_X10_search s m args below meth c Q D A cX10_search .return_ (wC N z1) [])  (s0 : St) (h : F_X10_search_0 s0 = some z1) : Aw p l e rm_X10_search s m args below meth c Q D A 3 (wC N s0) 0 [(0, .ref (N.1 9)), (1, .ref (N.1 2))] [] := by
  unfold F_X10_search_0 at h
  refine aw_aload_n C 0 dX10_search_0 rfl ?_
  refine aw_aload_n C 1 dX10_search_1 rfl ?_
  obtain ⟨s2, cw3, h⟩ := oC_e h
  have h := oL_e (x := s2) rfl h
  refine aw_callVv (n := 1) (As := [.ref (N.1 2)]) (rest := []) (q0 := 9) C (c_X10_heed l D N s0 s2 cw3) lw_39_14 lw_39_15 lw_39_16 lw_2_21 lw_39_17 rfl rfl (by decide +kernel) ⟨Nat.le_of_ble_eq_true rfl, Nat.le_of_ble_eq_true rfl⟩ rfl rfl rfl rfl rfl (Nat.le_of_ble_eq_true rfl) dX10_search_2 ?_
  refine aw_aload_n C 0 dX10_search_5 rfl ?_
  refine cg_to_restCosts C lw_6_19 dX10_search_6 ?_
  refine aw_iconst (v := 0) C dX10_search_9 (by decide) ?_
  refine aw_iconst (v := 0) C dX10_search_10 (by decide) ?_
  obtain ⟨q4, h⟩ := oA_e h
  refine ca_iast (k := 31) C (by decide) rfl q4 dX10_search_11 ?_
  refine ca_name (fun s5 es5 => ?_)
  have h := oL_e es5 h
  refine aw_iconst (v := 0) C dX10_search_12 (by decide) ?_
  refine aw_topi (fun y6 ey6 => ?_)
  have h := oL_e ey6 h
  refine aw_istore_n (lv' := [(0, .ref (N.1 9)), (1, .ref (N.1 2)), (2, .int y6)]) C [1, 2, 0] dX10_search_13 rfl (by decide) rfl ?_
  refine aw_sub (lv' := [(0, .ref (N.1 9)), (2, .int y6)]) [0, 2] rfl ?_
  exact T_X10_search_14 C hE 100000 s5 y6 h
def f_X10_search (s0 : St) : Option (St) := F_X10_search_0 s0
theorem c_X10_search (l : Launch) (D : va_G) (N : Nm) (s0 z1 : St) (h : f_X10_search s0 = some z1) : Metv l yX10_search (tsU yX10_search cX10_search 3 none) rm_X10_search D N [.ref (N.1 9), .ref (N.1 2)] (wC N s0) (wC N z1) :=
  met_v (cc := cX10_search) (nL := 3) (own := RX10) (by decide) rfl (Nat.le_of_ble_eq_true rfl) (fun p e s m args below meth c Q A C hE => aw_sub [0, 1] rfl (T_X10_search_0 C hE s0 h))
/-! AwardLine$Toll.gives(IIII)Z -/
def rm_X10_gives : Room := { frames := 0, cells := 0, slots := 0, locals := 0 }
def F_X10_gives_71 (k3 : St → Int32 → Int32 → Int32 → Int32 → Int32 → Option (Int32 × St)) (s0 : St) (x1 : Int32) (x2 : Int32) (x3 : Int32) (x4 : Int32) (x5 : Int32) (t0 : Int32) (t1 : Int32) : Option (Int32 × St) :=
  if t1 = t0 then (
    oL (x5 + (1 : Int32)) fun y1 =>
    k3 s0 x1 x2 x3 x4 y1)
  else (
    some ((0 : Int32), s0))
set_option maxHeartbeats 4000000 in
set_option maxRecDepth 100000 in
theorem T_X10_gives_71 {r : Int32} {z1 : St} {k3 : St → Int32 → Int32 → Int32 → Int32 → Int32 → Option (Int32 × St)} (C : Cx p rm_X10_gives s m args c D A cX10_gives 7 RX10 rm_X10_gives N) (hE : En p l e rm_X10_gives s m args below meth c Q D A cX10_gives .ireturn (wC N z1) [.int r]) (hk3 : ∀ (s0 : St) (x1 : Int32) (x2 : Int32) (x3 : Int32) (x4 : Int32) (x5 : Int32), k3 s0 x1 x2 x3 x4 x5 = some (r, z1) → Aw p l e rm_X10_gives s m args below meth c Q D A 7 (wC N s0) 3 [(0, .ref (N.1 9)), (1, .int x1), (2, .int x2), (3, .int x3), (4, .int x4), (5, .int x5)] []) (s0 : St) (x1 : Int32) (x2 : Int32) (x3 : Int32) (x4 : Int32) (x5 : Int32) (t0 : Int32) (t1 : Int32) (h : F_X10_gives_71 k3 s0 x1 x2 x3 x4 x5 t0 t1 = some (r, z1)) : Aw p l e rm_X10_gives s m args below meth c Q D A 7 (wC N s0) 71 [(0, .ref (N.1 9)), (1, .int x1), (2, .int x2), (3, .int x3), (4, .int x4), (5, .int x5)] [.int t0, .int t1] := by
  unfold F_X10_gives_71 at h
  refine aw_icmp_eq (tgt := 76) C dX10_gives_71 (by decide) (fun q => ?_) (fun q => ?_)
  · have h := bq_t q h
    obtain ⟨y1, ey1⟩ : ∃ q : Int32, q = x5 + (1 : Int32) := ⟨_, rfl⟩
    have h := oL_e ey1 h
    refine aw_iinc (v := y1) (k := 5) (lv' := [(0, .ref (N.1 9)), (1, .int x1), (2, .int x2), (3, .int x3), (4, .int x4), (5, .int y1)]) C [1, 2, 3, 4, 5, 0] dX10_gives_76 rfl (by rw [ey1]; rfl) (by decide) rfl ?_
    refine aw_goto (tgt := 3) C dX10_gives_79 (by decide) ?_
    refine aw_sub (lv' := [(0, .ref (N.1 9)), (1, .int x1), (2, .int x2), (3, .int x3), (4, .int x4), (5, .int y1)]) [0, 1, 2, 3, 4, 5] rfl ?_
    exact hk3 s0 x1 x2 x3 x4 y1 h
  · have h := bq_f q h
    refine aw_iconst (v := 0) C dX10_gives_74 (by decide) ?_
    cases h
    exact aw_ret hE dX10_gives_75
def F_X10_gives_53 (k3 : St → Int32 → Int32 → Int32 → Int32 → Int32 → Option (Int32 × St)) (s0 : St) (x1 : Int32) (x2 : Int32) (x3 : Int32) (x4 : Int32) (x5 : Int32) (t0 : Int32) : Option (Int32 × St) :=
  if (x1 >>> (x5 &&& 31)) &&& (1 : Int32) = 0 then (
    F_X10_gives_71 k3 s0 x1 x2 x3 x4 x5 (0 : Int32) t0)
  else (
    F_X10_gives_71 k3 s0 x1 x2 x3 x4 x5 (1 : Int32) t0)
set_option maxHeartbeats 4000000 in
set_option maxRecDepth 100000 in
theorem T_X10_gives_53 {r : Int32} {z1 : St} {k3 : St → Int32 → Int32 → Int32 → Int32 → Int32 → Option (Int32 × St)} (C : Cx p rm_X10_gives s m args c D A cX10_gives 7 RX10 rm_X10_gives N) (hE : En p l e rm_X10_gives s m args below meth c Q D A cX10_gives .ireturn (wC N z1) [.int r]) (hk3 : ∀ (s0 : St) (x1 : Int32) (x2 : Int32) (x3 : Int32) (x4 : Int32) (x5 : Int32), k3 s0 x1 x2 x3 x4 x5 = some (r, z1) → Aw p l e rm_X10_gives s m args below meth c Q D A 7 (wC N s0) 3 [(0, .ref (N.1 9)), (1, .int x1), (2, .int x2), (3, .int x3), (4, .int x4), (5, .int x5)] []) (s0 : St) (x1 : Int32) (x2 : Int32) (x3 : Int32) (x4 : Int32) (x5 : Int32) (t0 : Int32) (h : F_X10_gives_53 k3 s0 x1 x2 x3 x4 x5 t0 = some (r, z1)) : Aw p l e rm_X10_gives s m args below meth c Q D A 7 (wC N s0) 53 [(0, .ref (N.1 9)), (1, .int x1), (2, .int x2), (3, .int x3), (4, .int x4), (5, .int x5)] [.int t0] := by
  unfold F_X10_gives_53 at h
  refine aw_istore (lv' := [(0, .ref (N.1 9)), (1, .int x1), (2, .int x2), (3, .int x3), (4, .int x4), (5, .int x5), (6, .int t0)]) C [1, 2, 3, 4, 5, 6, 0] dX10_gives_53 (by decide) rfl ?_
  refine aw_iload C 6 dX10_gives_55 rfl ?_
  refine aw_iload_n C 1 dX10_gives_57 rfl ?_
  refine aw_iload C 5 dX10_gives_58 rfl ?_
  refine aw_ishr C dX10_gives_60 ?_
  refine aw_iconst (v := 1) C dX10_gives_61 (by decide) ?_
  refine aw_iand C dX10_gives_62 ?_
  refine aw_if_eq (tgt := 70) C dX10_gives_63 (by decide) (fun q => ?_) (fun q => ?_)
  · have h := bq_t q h
    refine aw_iconst (v := 0) C dX10_gives_70 (by decide) ?_
    refine aw_sub (lv' := [(0, .ref (N.1 9)), (1, .int x1), (2, .int x2), (3, .int x3), (4, .int x4), (5, .int x5)]) [0, 1, 2, 3, 4, 5] rfl ?_
    exact T_X10_gives_71 C hE hk3 s0 x1 x2 x3 x4 x5 (0 : Int32) t0 h
  · have h := bq_f q h
    refine aw_iconst (v := 1) C dX10_gives_66 (by decide) ?_
    refine aw_goto (tgt := 71) C dX10_gives_67 (by decide) ?_
    refine aw_sub (lv' := [(0, .ref (N.1 9)), (1, .int x1), (2, .int x2), (3, .int x3), (4, .int x4), (5, .int x5)]) [0, 1, 2, 3, 4, 5] rfl ?_
    exact T_X10_gives_71 C hE hk3 s0 x1 x2 x3 x4 x5 (1 : Int32) t0 h
def F_X10_gives_3_b (k3 : St → Int32 → Int32 → Int32 → Int32 → Int32 → Option (Int32 × St)) (s0 : St) (x1 : Int32) (x2 : Int32) (x3 : Int32) (x4 : Int32) (x5 : Int32) : Option (Int32 × St) :=
  if (s0.1 21) ≤ x5 then (
    some ((1 : Int32), s0))
  else (
    oA x5 25 <|
    oA x5 25 <|
    oA x5 25 <|
    if ((x2 * (s0.2.1 32 (Int32.toNatClampNeg x5))) + (x3 * (s0.2.1 33 (Int32.toNatClampNeg x5)))) + (x4 * (s0.2.1 34 (Int32.toNatClampNeg x5))) ≤ 0 then (
      F_X10_gives_53 k3 s0 x1 x2 x3 x4 x5 (0 : Int32))
    else (
      F_X10_gives_53 k3 s0 x1 x2 x3 x4 x5 (1 : Int32)))
set_option maxHeartbeats 4000000 in
set_option maxRecDepth 100000 in
theorem T_X10_gives_3_b {r : Int32} {z1 : St} {k3 : St → Int32 → Int32 → Int32 → Int32 → Int32 → Option (Int32 × St)} (C : Cx p rm_X10_gives s m args c D A cX10_gives 7 RX10 rm_X10_gives N) (hE : En p l e rm_X10_gives s m args below meth c Q D A cX10_gives .ireturn (wC N z1) [.int r]) (hk3 : ∀ (s0 : St) (x1 : Int32) (x2 : Int32) (x3 : Int32) (x4 : Int32) (x5 : Int32), k3 s0 x1 x2 x3 x4 x5 = some (r, z1) → Aw p l e rm_X10_gives s m args below meth c Q D A 7 (wC N s0) 3 [(0, .ref (N.1 9)), (1, .int x1), (2, .int x2), (3, .int x3), (4, .int x4), (5, .int x5)] []) (s0 : St) (x1 : Int32) (x2 : Int32) (x3 : Int32) (x4 : Int32) (x5 : Int32) (h : F_X10_gives_3_b k3 s0 x1 x2 x3 x4 x5 = some (r, z1)) : Aw p l e rm_X10_gives s m args below meth c Q D A 7 (wC N s0) 3 [(0, .ref (N.1 9)), (1, .int x1), (2, .int x2), (3, .int x3), (4, .int x4), (5, .int x5)] [] := by
  unfold F_X10_gives_3_b at h
  refine aw_iload C 5 dX10_gives_3 rfl ?_
  refine aw_aload_n C 0 dX10_gives_5 rfl ?_
  refine cg_to_land C lw_6_23 dX10_gives_6 ?_
  refine cg_ln_size C lw_37_21 dX10_gives_9 ?_
  refine aw_icmp_ge (tgt := 82) C dX10_gives_12 (by decide) (fun q => ?_) (fun q => ?_)
  · have h := bq_t q h
    refine aw_iconst (v := 1) C dX10_gives_82 (by decide) ?_
    cases h
    exact aw_ret hE dX10_gives_83
  · have h := bq_f q h
    refine aw_iload_n C 2 dX10_gives_15 rfl ?_
    refine aw_aload_n C 0 dX10_gives_16 rfl ?_
    refine cg_to_surplus C lw_6_20 dX10_gives_17 ?_
    refine aw_iload C 5 dX10_gives_20 rfl ?_
    obtain ⟨q1, h⟩ := oA_e h
    refine ca_iald (k := 32) C (by decide) rfl q1 dX10_gives_22 ?_
    refine aw_imul C dX10_gives_23 ?_
    refine aw_iload_n C 3 dX10_gives_24 rfl ?_
    refine aw_aload_n C 0 dX10_gives_25 rfl ?_
    refine cg_to_faith C lw_6_21 dX10_gives_26 ?_
    refine aw_iload C 5 dX10_gives_29 rfl ?_
    obtain ⟨q2, h⟩ := oA_e h
    refine ca_iald (k := 33) C (by decide) rfl q2 dX10_gives_31 ?_
    refine aw_imul C dX10_gives_32 ?_
    refine aw_iadd C dX10_gives_33 ?_
    refine aw_iload C 4 dX10_gives_34 rfl ?_
    refine aw_aload_n C 0 dX10_gives_36 rfl ?_
    refine cg_to_company C lw_6_22 dX10_gives_37 ?_
    refine aw_iload C 5 dX10_gives_40 rfl ?_
    obtain ⟨q3, h⟩ := oA_e h
    refine ca_iald (k := 34) C (by decide) rfl q3 dX10_gives_42 ?_
    refine aw_imul C dX10_gives_43 ?_
    refine aw_iadd C dX10_gives_44 ?_
    refine aw_if_le (tgt := 52) C dX10_gives_45 (by decide) (fun q => ?_) (fun q => ?_)
    · have h := bq_t q h
      refine aw_iconst (v := 0) C dX10_gives_52 (by decide) ?_
      refine aw_sub (lv' := [(0, .ref (N.1 9)), (1, .int x1), (2, .int x2), (3, .int x3), (4, .int x4), (5, .int x5)]) [0, 1, 2, 3, 4, 5] rfl ?_
      exact T_X10_gives_53 C hE hk3 s0 x1 x2 x3 x4 x5 (0 : Int32) h
    · have h := bq_f q h
      refine aw_iconst (v := 1) C dX10_gives_48 (by decide) ?_
      refine aw_goto (tgt := 53) C dX10_gives_49 (by decide) ?_
      refine aw_sub (lv' := [(0, .ref (N.1 9)), (1, .int x1), (2, .int x2), (3, .int x3), (4, .int x4), (5, .int x5)]) [0, 1, 2, 3, 4, 5] rfl ?_
      exact T_X10_gives_53 C hE hk3 s0 x1 x2 x3 x4 x5 (1 : Int32) h
def F_X10_gives_3 : Nat → St → Int32 → Int32 → Int32 → Int32 → Int32 → Option (Int32 × St)
  | 0 => fun _ _ _ _ _ _ => none
  | n + 1 => F_X10_gives_3_b (F_X10_gives_3 n)
theorem T_X10_gives_3 {r : Int32} {z1 : St} (C : Cx p rm_X10_gives s m args c D A cX10_gives 7 RX10 rm_X10_gives N) (hE : En p l e rm_X10_gives s m args below meth c Q D A cX10_gives .ireturn (wC N z1) [.int r])  : ∀ (n : Nat) (s0 : St) (x1 : Int32) (x2 : Int32) (x3 : Int32) (x4 : Int32) (x5 : Int32), F_X10_gives_3 n s0 x1 x2 x3 x4 x5 = some (r, z1) → Aw p l e rm_X10_gives s m args below meth c Q D A 7 (wC N s0) 3 [(0, .ref (N.1 9)), (1, .int x1), (2, .int x2), (3, .int x3), (4, .int x4), (5, .int x5)] [] := by
  intro n
  induction n with
  | zero => intro s0 x1 x2 x3 x4 x5 h; cases h
  | succ n ih => intro s0 x1 x2 x3 x4 x5 h; exact T_X10_gives_3_b C hE ih s0 x1 x2 x3 x4 x5 h
def F_X10_gives_0 (s0 : St) (x1 : Int32) (x2 : Int32) (x3 : Int32) (x4 : Int32) : Option (Int32 × St) :=
  oL (0 : Int32) fun y1 =>
  F_X10_gives_3 100000 s0 x1 x2 x3 x4 y1
set_option maxHeartbeats 4000000 in
set_option maxRecDepth 100000 in
theorem T_X10_gives_0 {r : Int32} {z1 : St} (C : Cx p rm_X10_gives s m args c D A cX10_gives 7 RX10 rm_X10_gives N) (hE : En p l e rm_X10_gives s m args below meth c Q D A cX10_gives .ireturn (wC N z1) [.int r])  (s0 : St) (x1 : Int32) (x2 : Int32) (x3 : Int32) (x4 : Int32) (h : F_X10_gives_0 s0 x1 x2 x3 x4 = some (r, z1)) : Aw p l e rm_X10_gives s m args below meth c Q D A 7 (wC N s0) 0 [(0, .ref (N.1 9)), (1, .int x1), (2, .int x2), (3, .int x3), (4, .int x4)] [] := by
  unfold F_X10_gives_0 at h
  refine aw_iconst (v := 0) C dX10_gives_0 (by decide) ?_
  refine aw_topi (fun y1 ey1 => ?_)
  have h := oL_e ey1 h
  refine aw_istore (lv' := [(0, .ref (N.1 9)), (1, .int x1), (2, .int x2), (3, .int x3), (4, .int x4), (5, .int y1)]) C [1, 2, 3, 4, 5, 0] dX10_gives_1 (by decide) rfl ?_
  refine aw_sub (lv' := [(0, .ref (N.1 9)), (1, .int x1), (2, .int x2), (3, .int x3), (4, .int x4), (5, .int y1)]) [0, 1, 2, 3, 4, 5] rfl ?_
  exact T_X10_gives_3 C hE 100000 s0 x1 x2 x3 x4 y1 h
def f_X10_gives (s0 : St) (x1 : Int32) (x2 : Int32) (x3 : Int32) (x4 : Int32) : Option (Int32 × St) := oC (F_X10_gives_0 s0 x1 x2 x3 x4) fun w => oZ w.1 (some w)
theorem c_X10_gives (l : Launch) (D : va_G) (N : Nm) (s0 z1 : St) (x1 : Int32) (x2 : Int32) (x3 : Int32) (x4 : Int32) (r : Int32) (h : f_X10_gives s0 x1 x2 x3 x4 = some (r, z1)) : Meti l yX10_gives (tsU yX10_gives cX10_gives 7 (some .boolean)) rm_X10_gives D N [.ref (N.1 9), .int x1, .int x2, .int x3, .int x4] (wC N s0) r (wC N z1) := by
  obtain ⟨w, h1, h2⟩ := oC_e h
  obtain ⟨hz, h2⟩ := oZ_e h2
  cases h2
  exact met_z (cc := cX10_gives) (nL := 7) (own := RX10) (by decide) rfl (Nat.le_of_ble_eq_true rfl) (zN hz) (fun p e s m args below meth c Q A C hE => aw_sub [0, 1, 2, 3, 4] rfl (T_X10_gives_0 C hE s0 x1 x2 x3 x4 h1))
/-! AwardLine$Toll.weigh(I)I -/
def rm_X10_weigh : Room := { frames := 1, cells := 0, slots := 0, locals := 26 }
def F_X10_weigh_141_b (k124 : St → Int32 → Int32 → Option (Int32 × St)) (k132 : St → Int32 → Int32 → Int32 → Option (Int32 × St)) (k141 : St → Int32 → Int32 → Int32 → Int32 → Option (Int32 × St)) (s0 : St) (x1 : Int32) (x2 : Int32) (x3 : Int32) (x4 : Int32) : Option (Int32 × St) :=
  if (9 : Int32) < x4 then (
    oL (x3 + (1 : Int32)) fun y1 =>
    k132 s0 x1 x2 y1)
  else (
    oC (f_X10_gives s0 x1 x2 x3 x4) fun w4 =>
    oL w4.1 fun v2 => oL w4.2 fun s3 =>
    if v2 = 0 then (
      oL (x4 + (1 : Int32)) fun y5 =>
      k141 s3 x1 x2 x3 y5)
    else (
      some ((((100 : Int32) * x2) + ((10 : Int32) * x3)) + x4, s3)))
set_option maxHeartbeats 4000000 in
set_option maxRecDepth 100000 in
theorem T_X10_weigh_141_b {r : Int32} {z1 : St} {k124 : St → Int32 → Int32 → Option (Int32 × St)} {k132 : St → Int32 → Int32 → Int32 → Option (Int32 × St)} {k141 : St → Int32 → Int32 → Int32 → Int32 → Option (Int32 × St)} (C : Cx p rm_X10_weigh s m args c D A cX10_weigh 5 RX10 rm_X10_weigh N) (hE : En p l e rm_X10_weigh s m args below meth c Q D A cX10_weigh .ireturn (wC N z1) [.int r]) (hk124 : ∀ (s0 : St) (x1 : Int32) (x2 : Int32), k124 s0 x1 x2 = some (r, z1) → Aw p l e rm_X10_weigh s m args below meth c Q D A 5 (wC N s0) 124 [(0, .ref (N.1 9)), (1, .int x1), (2, .int x2)] []) (hk132 : ∀ (s0 : St) (x1 : Int32) (x2 : Int32) (x3 : Int32), k132 s0 x1 x2 x3 = some (r, z1) → Aw p l e rm_X10_weigh s m args below meth c Q D A 5 (wC N s0) 132 [(0, .ref (N.1 9)), (1, .int x1), (2, .int x2), (3, .int x3)] []) (hk141 : ∀ (s0 : St) (x1 : Int32) (x2 : Int32) (x3 : Int32) (x4 : Int32), k141 s0 x1 x2 x3 x4 = some (r, z1) → Aw p l e rm_X10_weigh s m args below meth c Q D A 5 (wC N s0) 141 [(0, .ref (N.1 9)), (1, .int x1), (2, .int x2), (3, .int x3), (4, .int x4)] []) (s0 : St) (x1 : Int32) (x2 : Int32) (x3 : Int32) (x4 : Int32) (h : F_X10_weigh_141_b k124 k132 k141 s0 x1 x2 x3 x4 = some (r, z1)) : Aw p l e rm_X10_weigh s m args below meth c Q D A 5 (wC N s0) 141 [(0, .ref (N.1 9)), (1, .int x1), (2, .int x2), (3, .int x3), (4, .int x4)] [] := by
  unfold F_X10_weigh_141_b at h
  refine aw_iload C 4 dX10_weigh_141 rfl ?_
  refine aw_bipush (v := 9) C dX10_weigh_143 (by decide) ?_
  refine aw_icmp_gt (tgt := 179) C dX10_weigh_145 (by decide) (fun q => ?_) (fun q => ?_)
  · have h := bq_t q h
    obtain ⟨y1, ey1⟩ : ∃ q : Int32, q = x3 + (1 : Int32) := ⟨_, rfl⟩
    have h := oL_e ey1 h
    refine aw_iinc (v := y1) (k := 3) (lv' := [(0, .ref (N.1 9)), (1, .int x1), (2, .int x2), (3, .int y1), (4, .int x4)]) C [1, 2, 3, 0, 4] dX10_weigh_179 rfl (by rw [ey1]; rfl) (by decide) rfl ?_
    refine aw_goto (tgt := 132) C dX10_weigh_182 (by decide) ?_
    refine aw_sub (lv' := [(0, .ref (N.1 9)), (1, .int x1), (2, .int x2), (3, .int y1)]) [0, 1, 2, 3] rfl ?_
    exact hk132 s0 x1 x2 y1 h
  · have h := bq_f q h
    refine aw_aload_n C 0 dX10_weigh_148 rfl ?_
    refine aw_iload_n C 1 dX10_weigh_149 rfl ?_
    refine aw_iload_n C 2 dX10_weigh_150 rfl ?_
    refine aw_iload_n C 3 dX10_weigh_151 rfl ?_
    refine aw_iload C 4 dX10_weigh_152 rfl ?_
    obtain ⟨⟨v2, s3⟩, cw4, h⟩ := oC_e h
    have h := oL_e (x := s3) rfl (oL_e (x := v2) rfl h)
    refine aw_callVi (n := 4) (As := [.int x1, .int x2, .int x3, .int x4]) (rest := []) (q0 := 9) C (c_X10_gives l D N s0 s3 x1 x2 x3 x4 v2 cw4) lw_43_11 lw_43_12 lw_43_13 lw_2_21 lw_43_14 rfl rfl (by decide +kernel) ⟨Nat.le_of_ble_eq_true rfl, Nat.le_of_ble_eq_true rfl⟩ rfl rfl rfl rfl rfl (Nat.le_of_ble_eq_true rfl) dX10_weigh_154 ?_
    refine aw_if_eq (tgt := 173) C dX10_weigh_157 (by decide) (fun q => ?_) (fun q => ?_)
    · have h := bq_t q h
      obtain ⟨y5, ey5⟩ : ∃ q : Int32, q = x4 + (1 : Int32) := ⟨_, rfl⟩
      have h := oL_e ey5 h
      refine aw_iinc (v := y5) (k := 4) (lv' := [(0, .ref (N.1 9)), (1, .int x1), (2, .int x2), (3, .int x3), (4, .int y5)]) C [1, 2, 3, 4, 0] dX10_weigh_173 rfl (by rw [ey5]; rfl) (by decide) rfl ?_
      refine aw_goto (tgt := 141) C dX10_weigh_176 (by decide) ?_
      refine aw_sub (lv' := [(0, .ref (N.1 9)), (1, .int x1), (2, .int x2), (3, .int x3), (4, .int y5)]) [0, 1, 2, 3, 4] rfl ?_
      exact hk141 s3 x1 x2 x3 y5 h
    · have h := bq_f q h
      refine aw_bipush (v := 100) C dX10_weigh_160 (by decide) ?_
      refine aw_iload_n C 2 dX10_weigh_162 rfl ?_
      refine aw_imul C dX10_weigh_163 ?_
      refine aw_bipush (v := 10) C dX10_weigh_164 (by decide) ?_
      refine aw_iload_n C 3 dX10_weigh_166 rfl ?_
      refine aw_imul C dX10_weigh_167 ?_
      refine aw_iadd C dX10_weigh_168 ?_
      refine aw_iload C 4 dX10_weigh_169 rfl ?_
      refine aw_iadd C dX10_weigh_171 ?_
      cases h
      exact aw_ret hE dX10_weigh_172
def F_X10_weigh_141 (k124 : St → Int32 → Int32 → Option (Int32 × St)) (k132 : St → Int32 → Int32 → Int32 → Option (Int32 × St)) : Nat → St → Int32 → Int32 → Int32 → Int32 → Option (Int32 × St)
  | 0 => fun _ _ _ _ _ => none
  | n + 1 => F_X10_weigh_141_b k124 k132 (F_X10_weigh_141 k124 k132 n)
theorem T_X10_weigh_141 {r : Int32} {z1 : St} {k124 : St → Int32 → Int32 → Option (Int32 × St)} {k132 : St → Int32 → Int32 → Int32 → Option (Int32 × St)} (C : Cx p rm_X10_weigh s m args c D A cX10_weigh 5 RX10 rm_X10_weigh N) (hE : En p l e rm_X10_weigh s m args below meth c Q D A cX10_weigh .ireturn (wC N z1) [.int r]) (hk124 : ∀ (s0 : St) (x1 : Int32) (x2 : Int32), k124 s0 x1 x2 = some (r, z1) → Aw p l e rm_X10_weigh s m args below meth c Q D A 5 (wC N s0) 124 [(0, .ref (N.1 9)), (1, .int x1), (2, .int x2)] []) (hk132 : ∀ (s0 : St) (x1 : Int32) (x2 : Int32) (x3 : Int32), k132 s0 x1 x2 x3 = some (r, z1) → Aw p l e rm_X10_weigh s m args below meth c Q D A 5 (wC N s0) 132 [(0, .ref (N.1 9)), (1, .int x1), (2, .int x2), (3, .int x3)] []) : ∀ (n : Nat) (s0 : St) (x1 : Int32) (x2 : Int32) (x3 : Int32) (x4 : Int32), F_X10_weigh_141 k124 k132 n s0 x1 x2 x3 x4 = some (r, z1) → Aw p l e rm_X10_weigh s m args below meth c Q D A 5 (wC N s0) 141 [(0, .ref (N.1 9)), (1, .int x1), (2, .int x2), (3, .int x3), (4, .int x4)] [] := by
  intro n
  induction n with
  | zero => intro s0 x1 x2 x3 x4 h; cases h
  | succ n ih => intro s0 x1 x2 x3 x4 h; exact T_X10_weigh_141_b C hE hk124 hk132 ih s0 x1 x2 x3 x4 h
def F_X10_weigh_132_b (k124 : St → Int32 → Int32 → Option (Int32 × St)) (k132 : St → Int32 → Int32 → Int32 → Option (Int32 × St)) (s0 : St) (x1 : Int32) (x2 : Int32) (x3 : Int32) : Option (Int32 × St) :=
  if (9 : Int32) < x3 then (
    oL (x2 + (1 : Int32)) fun y1 =>
    k124 s0 x1 y1)
  else (
    oL (0 : Int32) fun y2 =>
    F_X10_weigh_141 k124 k132 100000 s0 x1 x2 x3 y2)
set_option maxHeartbeats 4000000 in
set_option maxRecDepth 100000 in
theorem T_X10_weigh_132_b {r : Int32} {z1 : St} {k124 : St → Int32 → Int32 → Option (Int32 × St)} {k132 : St → Int32 → Int32 → Int32 → Option (Int32 × St)} (C : Cx p rm_X10_weigh s m args c D A cX10_weigh 5 RX10 rm_X10_weigh N) (hE : En p l e rm_X10_weigh s m args below meth c Q D A cX10_weigh .ireturn (wC N z1) [.int r]) (hk124 : ∀ (s0 : St) (x1 : Int32) (x2 : Int32), k124 s0 x1 x2 = some (r, z1) → Aw p l e rm_X10_weigh s m args below meth c Q D A 5 (wC N s0) 124 [(0, .ref (N.1 9)), (1, .int x1), (2, .int x2)] []) (hk132 : ∀ (s0 : St) (x1 : Int32) (x2 : Int32) (x3 : Int32), k132 s0 x1 x2 x3 = some (r, z1) → Aw p l e rm_X10_weigh s m args below meth c Q D A 5 (wC N s0) 132 [(0, .ref (N.1 9)), (1, .int x1), (2, .int x2), (3, .int x3)] []) (s0 : St) (x1 : Int32) (x2 : Int32) (x3 : Int32) (h : F_X10_weigh_132_b k124 k132 s0 x1 x2 x3 = some (r, z1)) : Aw p l e rm_X10_weigh s m args below meth c Q D A 5 (wC N s0) 132 [(0, .ref (N.1 9)), (1, .int x1), (2, .int x2), (3, .int x3)] [] := by
  unfold F_X10_weigh_132_b at h
  refine aw_iload_n C 3 dX10_weigh_132 rfl ?_
  refine aw_bipush (v := 9) C dX10_weigh_133 (by decide) ?_
  refine aw_icmp_gt (tgt := 185) C dX10_weigh_135 (by decide) (fun q => ?_) (fun q => ?_)
  · have h := bq_t q h
    obtain ⟨y1, ey1⟩ : ∃ q : Int32, q = x2 + (1 : Int32) := ⟨_, rfl⟩
    have h := oL_e ey1 h
    refine aw_iinc (v := y1) (k := 2) (lv' := [(0, .ref (N.1 9)), (1, .int x1), (2, .int y1), (3, .int x3)]) C [1, 2, 0, 3] dX10_weigh_185 rfl (by rw [ey1]; rfl) (by decide) rfl ?_
    refine aw_goto (tgt := 124) C dX10_weigh_188 (by decide) ?_
    refine aw_sub (lv' := [(0, .ref (N.1 9)), (1, .int x1), (2, .int y1)]) [0, 1, 2] rfl ?_
    exact hk124 s0 x1 y1 h
  · have h := bq_f q h
    refine aw_iconst (v := 0) C dX10_weigh_138 (by decide) ?_
    refine aw_topi (fun y2 ey2 => ?_)
    have h := oL_e ey2 h
    refine aw_istore (lv' := [(0, .ref (N.1 9)), (1, .int x1), (2, .int x2), (3, .int x3), (4, .int y2)]) C [1, 2, 3, 4, 0] dX10_weigh_139 (by decide) rfl ?_
    refine aw_sub (lv' := [(0, .ref (N.1 9)), (1, .int x1), (2, .int x2), (3, .int x3), (4, .int y2)]) [0, 1, 2, 3, 4] rfl ?_
    exact T_X10_weigh_141 C hE hk124 hk132 100000 s0 x1 x2 x3 y2 h
def F_X10_weigh_132 (k124 : St → Int32 → Int32 → Option (Int32 × St)) : Nat → St → Int32 → Int32 → Int32 → Option (Int32 × St)
  | 0 => fun _ _ _ _ => none
  | n + 1 => F_X10_weigh_132_b k124 (F_X10_weigh_132 k124 n)
theorem T_X10_weigh_132 {r : Int32} {z1 : St} {k124 : St → Int32 → Int32 → Option (Int32 × St)} (C : Cx p rm_X10_weigh s m args c D A cX10_weigh 5 RX10 rm_X10_weigh N) (hE : En p l e rm_X10_weigh s m args below meth c Q D A cX10_weigh .ireturn (wC N z1) [.int r]) (hk124 : ∀ (s0 : St) (x1 : Int32) (x2 : Int32), k124 s0 x1 x2 = some (r, z1) → Aw p l e rm_X10_weigh s m args below meth c Q D A 5 (wC N s0) 124 [(0, .ref (N.1 9)), (1, .int x1), (2, .int x2)] []) : ∀ (n : Nat) (s0 : St) (x1 : Int32) (x2 : Int32) (x3 : Int32), F_X10_weigh_132 k124 n s0 x1 x2 x3 = some (r, z1) → Aw p l e rm_X10_weigh s m args below meth c Q D A 5 (wC N s0) 132 [(0, .ref (N.1 9)), (1, .int x1), (2, .int x2), (3, .int x3)] [] := by
  intro n
  induction n with
  | zero => intro s0 x1 x2 x3 h; cases h
  | succ n ih => intro s0 x1 x2 x3 h; exact T_X10_weigh_132_b C hE hk124 ih s0 x1 x2 x3 h
def F_X10_weigh_124_b (k124 : St → Int32 → Int32 → Option (Int32 × St)) (s0 : St) (x1 : Int32) (x2 : Int32) : Option (Int32 × St) :=
  if (9 : Int32) < x2 then (
    some ((-1 : Int32), s0))
  else (
    oL (0 : Int32) fun y1 =>
    F_X10_weigh_132 k124 100000 s0 x1 x2 y1)
set_option maxHeartbeats 4000000 in
set_option maxRecDepth 100000 in
theorem T_X10_weigh_124_b {r : Int32} {z1 : St} {k124 : St → Int32 → Int32 → Option (Int32 × St)} (C : Cx p rm_X10_weigh s m args c D A cX10_weigh 5 RX10 rm_X10_weigh N) (hE : En p l e rm_X10_weigh s m args below meth c Q D A cX10_weigh .ireturn (wC N z1) [.int r]) (hk124 : ∀ (s0 : St) (x1 : Int32) (x2 : Int32), k124 s0 x1 x2 = some (r, z1) → Aw p l e rm_X10_weigh s m args below meth c Q D A 5 (wC N s0) 124 [(0, .ref (N.1 9)), (1, .int x1), (2, .int x2)] []) (s0 : St) (x1 : Int32) (x2 : Int32) (h : F_X10_weigh_124_b k124 s0 x1 x2 = some (r, z1)) : Aw p l e rm_X10_weigh s m args below meth c Q D A 5 (wC N s0) 124 [(0, .ref (N.1 9)), (1, .int x1), (2, .int x2)] [] := by
  unfold F_X10_weigh_124_b at h
  refine aw_iload_n C 2 dX10_weigh_124 rfl ?_
  refine aw_bipush (v := 9) C dX10_weigh_125 (by decide) ?_
  refine aw_icmp_gt (tgt := 191) C dX10_weigh_127 (by decide) (fun q => ?_) (fun q => ?_)
  · have h := bq_t q h
    refine aw_iconst (v := -1) C dX10_weigh_191 (by decide) ?_
    cases h
    exact aw_ret hE dX10_weigh_192
  · have h := bq_f q h
    refine aw_iconst (v := 0) C dX10_weigh_130 (by decide) ?_
    refine aw_topi (fun y1 ey1 => ?_)
    have h := oL_e ey1 h
    refine aw_istore_n (lv' := [(0, .ref (N.1 9)), (1, .int x1), (2, .int x2), (3, .int y1)]) C [1, 2, 3, 0] dX10_weigh_131 rfl (by decide) rfl ?_
    refine aw_sub (lv' := [(0, .ref (N.1 9)), (1, .int x1), (2, .int x2), (3, .int y1)]) [0, 1, 2, 3] rfl ?_
    exact T_X10_weigh_132 C hE hk124 100000 s0 x1 x2 y1 h
def F_X10_weigh_124 : Nat → St → Int32 → Int32 → Option (Int32 × St)
  | 0 => fun _ _ _ => none
  | n + 1 => F_X10_weigh_124_b (F_X10_weigh_124 n)
theorem T_X10_weigh_124 {r : Int32} {z1 : St} (C : Cx p rm_X10_weigh s m args c D A cX10_weigh 5 RX10 rm_X10_weigh N) (hE : En p l e rm_X10_weigh s m args below meth c Q D A cX10_weigh .ireturn (wC N z1) [.int r])  : ∀ (n : Nat) (s0 : St) (x1 : Int32) (x2 : Int32), F_X10_weigh_124 n s0 x1 x2 = some (r, z1) → Aw p l e rm_X10_weigh s m args below meth c Q D A 5 (wC N s0) 124 [(0, .ref (N.1 9)), (1, .int x1), (2, .int x2)] [] := by
  intro n
  induction n with
  | zero => intro s0 x1 x2 h; cases h
  | succ n ih => intro s0 x1 x2 h; exact T_X10_weigh_124_b C hE ih s0 x1 x2 h
def F_X10_weigh_2_b (k2 : St → Int32 → Int32 → Option (Int32 × St)) (s0 : St) (x1 : Int32) (x2 : Int32) : Option (Int32 × St) :=
  if (s0.1 21) ≤ x2 then (
    oL (0 : Int32) fun y1 =>
    F_X10_weigh_124 100000 s0 x1 y1)
  else (
    oL ((1 : Int32) <<< (x2 &&& 31)) fun y2 =>
    oC (f_X4_beside s0 y2) fun w5 =>
    oL w5.1 fun v3 => oL w5.2 fun s4 =>
    oA (0 : Int32) 2 <|
    oX (26 + Int32.toNatClampNeg (0 : Int32)) x2 <|
    oA (1 : Int32) 2 <|
    oX (26 + Int32.toNatClampNeg (1 : Int32)) x2 <|
    oA x2 25 <|
    oL (sA s4 32 (upd (s4.2.1 32) (Int32.toNatClampNeg x2) ((s4.2.1 (26 + Int32.toNatClampNeg (0 : Int32)) (Int32.toNatClampNeg x2)) - (s4.2.1 (26 + Int32.toNatClampNeg (1 : Int32)) (Int32.toNatClampNeg x2))))) fun s13 =>
    oA (0 : Int32) 2 <|
    oA (1 : Int32) 2 <|
    oA x2 25 <|
    oL (sA s13 33 (upd (s13.2.1 33) (Int32.toNatClampNeg x2) ((10 : Int32) * ((((s13.2.1 8 (Int32.toNatClampNeg (0 : Int32))) >>> (x2 &&& 31)) &&& (1 : Int32)) - (((s13.2.1 8 (Int32.toNatClampNeg (1 : Int32))) >>> (x2 &&& 31)) &&& (1 : Int32)))))) fun s17 =>
    oC (f_J6_bitCount_0f7a4 s17 (v3 &&& x1)) fun w20 =>
    oL w20.1 fun v18 => oL w20.2 fun s19 =>
    oC (f_J6_bitCount_0f7a4 s19 v3) fun w23 =>
    oL w23.1 fun v21 => oL w23.2 fun s22 =>
    oA x2 25 <|
    oL (sA s22 34 (upd (s22.2.1 34) (Int32.toNatClampNeg x2) ((10 : Int32) * (((2 : Int32) * v18) - v21)))) fun s25 =>
    oL (x2 + (1 : Int32)) fun y26 =>
    k2 s25 x1 y26)
set_option maxHeartbeats 4000000 in
set_option maxRecDepth 100000 in
theorem T_X10_weigh_2_b {r : Int32} {z1 : St} {k2 : St → Int32 → Int32 → Option (Int32 × St)} (C : Cx p rm_X10_weigh s m args c D A cX10_weigh 5 RX10 rm_X10_weigh N) (hE : En p l e rm_X10_weigh s m args below meth c Q D A cX10_weigh .ireturn (wC N z1) [.int r]) (hk2 : ∀ (s0 : St) (x1 : Int32) (x2 : Int32), k2 s0 x1 x2 = some (r, z1) → Aw p l e rm_X10_weigh s m args below meth c Q D A 5 (wC N s0) 2 [(0, .ref (N.1 9)), (1, .int x1), (2, .int x2)] []) (s0 : St) (x1 : Int32) (x2 : Int32) (h : F_X10_weigh_2_b k2 s0 x1 x2 = some (r, z1)) : Aw p l e rm_X10_weigh s m args below meth c Q D A 5 (wC N s0) 2 [(0, .ref (N.1 9)), (1, .int x1), (2, .int x2)] [] := by
  unfold F_X10_weigh_2_b at h
  refine aw_iload_n C 2 dX10_weigh_2 rfl ?_
  refine aw_aload_n C 0 dX10_weigh_3 rfl ?_
  refine cg_to_land C lw_6_23 dX10_weigh_4 ?_
  refine cg_ln_size C lw_37_21 dX10_weigh_7 ?_
  refine aw_icmp_ge (tgt := 122) C dX10_weigh_10 (by decide) (fun q => ?_) (fun q => ?_)
  · have h := bq_t q h
    refine aw_iconst (v := 0) C dX10_weigh_122 (by decide) ?_
    refine aw_topi (fun y1 ey1 => ?_)
    have h := oL_e ey1 h
    refine aw_istore_n (lv' := [(0, .ref (N.1 9)), (1, .int x1), (2, .int y1)]) C [1, 2, 0] dX10_weigh_123 rfl (by decide) rfl ?_
    refine aw_sub (lv' := [(0, .ref (N.1 9)), (1, .int x1), (2, .int y1)]) [0, 1, 2] rfl ?_
    exact T_X10_weigh_124 C hE 100000 s0 x1 y1 h
  · have h := bq_f q h
    refine aw_iconst (v := 1) C dX10_weigh_13 (by decide) ?_
    refine aw_iload_n C 2 dX10_weigh_14 rfl ?_
    refine aw_ishl C dX10_weigh_15 ?_
    refine aw_topi (fun y2 ey2 => ?_)
    have h := oL_e ey2 h
    refine aw_istore_n (lv' := [(0, .ref (N.1 9)), (1, .int x1), (2, .int x2), (3, .int y2)]) C [1, 2, 3, 0] dX10_weigh_16 rfl (by decide) rfl ?_
    refine aw_aload_n C 0 dX10_weigh_17 rfl ?_
    refine cg_to_land C lw_6_23 dX10_weigh_18 ?_
    refine aw_iload_n C 3 dX10_weigh_21 rfl ?_
    obtain ⟨⟨v3, s4⟩, cw5, h⟩ := oC_e h
    have h := oL_e (x := s4) rfl (oL_e (x := v3) rfl h)
    refine aw_callVi (n := 1) (As := [.int y2]) (rest := []) (q0 := 4) C (c_X4_beside l D N s0 s4 y2 v3 cw5) lw_43_9 lw_38_8 lw_38_9 lw_1_15 lw_38_10 rfl rfl (by decide +kernel) ⟨Nat.le_of_ble_eq_true rfl, Nat.le_of_ble_eq_true rfl⟩ rfl rfl rfl rfl rfl (Nat.le_of_ble_eq_true rfl) dX10_weigh_22 ?_
    refine aw_istore (lv' := [(0, .ref (N.1 9)), (1, .int x1), (2, .int x2), (3, .int y2), (4, .int v3)]) C [1, 2, 3, 4, 0] dX10_weigh_25 (by decide) rfl ?_
    refine aw_aload_n C 0 dX10_weigh_27 rfl ?_
    refine cg_to_surplus C lw_6_20 dX10_weigh_28 ?_
    refine aw_iload_n C 2 dX10_weigh_31 rfl ?_
    refine aw_aload_n C 0 dX10_weigh_32 rfl ?_
    refine cg_to_census C lw_7_0 dX10_weigh_33 ?_
    refine cg_ce_people C lw_37_22 dX10_weigh_36 ?_
    refine aw_iconst (v := 0) C dX10_weigh_39 (by decide) ?_
    obtain ⟨q6, h⟩ := oA_e h
    refine ca_rald (k := 25) C (by decide) rfl q6 dX10_weigh_40 ?_
    refine aw_iload_n C 2 dX10_weigh_41 rfl ?_
    obtain ⟨q8a, q8b, q8, h⟩ := oX_e h
    refine ca_iald (k := (26 + Int32.toNatClampNeg (0 : Int32))) C q8a q8b q8 dX10_weigh_42 ?_
    refine aw_aload_n C 0 dX10_weigh_43 rfl ?_
    refine cg_to_census C lw_7_0 dX10_weigh_44 ?_
    refine cg_ce_people C lw_37_22 dX10_weigh_47 ?_
    refine aw_iconst (v := 1) C dX10_weigh_50 (by decide) ?_
    obtain ⟨q9, h⟩ := oA_e h
    refine ca_rald (k := 25) C (by decide) rfl q9 dX10_weigh_51 ?_
    refine aw_iload_n C 2 dX10_weigh_52 rfl ?_
    obtain ⟨q11a, q11b, q11, h⟩ := oX_e h
    refine ca_iald (k := (26 + Int32.toNatClampNeg (1 : Int32))) C q11a q11b q11 dX10_weigh_53 ?_
    refine aw_isub C dX10_weigh_54 ?_
    obtain ⟨q12, h⟩ := oA_e h
    refine ca_iast (k := 32) C (by decide) rfl q12 dX10_weigh_55 ?_
    refine ca_name (fun s13 es13 => ?_)
    have h := oL_e es13 h
    refine aw_aload_n C 0 dX10_weigh_56 rfl ?_
    refine cg_to_faith C lw_6_21 dX10_weigh_57 ?_
    refine aw_iload_n C 2 dX10_weigh_60 rfl ?_
    refine aw_bipush (v := 10) C dX10_weigh_61 (by decide) ?_
    refine aw_aload_n C 0 dX10_weigh_63 rfl ?_
    refine cg_to_land C lw_6_23 dX10_weigh_64 ?_
    refine cg_ln_shrines C lw_42_9 dX10_weigh_67 ?_
    refine aw_iconst (v := 0) C dX10_weigh_70 (by decide) ?_
    obtain ⟨q14, h⟩ := oA_e h
    refine ca_iald (k := 8) C (by decide) rfl q14 dX10_weigh_71 ?_
    refine aw_iload_n C 2 dX10_weigh_72 rfl ?_
    refine aw_ishr C dX10_weigh_73 ?_
    refine aw_iconst (v := 1) C dX10_weigh_74 (by decide) ?_
    refine aw_iand C dX10_weigh_75 ?_
    refine aw_aload_n C 0 dX10_weigh_76 rfl ?_
    refine cg_to_land C lw_6_23 dX10_weigh_77 ?_
    refine cg_ln_shrines C lw_42_9 dX10_weigh_80 ?_
    refine aw_iconst (v := 1) C dX10_weigh_83 (by decide) ?_
    obtain ⟨q15, h⟩ := oA_e h
    refine ca_iald (k := 8) C (by decide) rfl q15 dX10_weigh_84 ?_
    refine aw_iload_n C 2 dX10_weigh_85 rfl ?_
    refine aw_ishr C dX10_weigh_86 ?_
    refine aw_iconst (v := 1) C dX10_weigh_87 (by decide) ?_
    refine aw_iand C dX10_weigh_88 ?_
    refine aw_isub C dX10_weigh_89 ?_
    refine aw_imul C dX10_weigh_90 ?_
    obtain ⟨q16, h⟩ := oA_e h
    refine ca_iast (k := 33) C (by decide) rfl q16 dX10_weigh_91 ?_
    refine ca_name (fun s17 es17 => ?_)
    have h := oL_e es17 h
    refine aw_aload_n C 0 dX10_weigh_92 rfl ?_
    refine cg_to_company C lw_6_22 dX10_weigh_93 ?_
    refine aw_iload_n C 2 dX10_weigh_96 rfl ?_
    refine aw_bipush (v := 10) C dX10_weigh_97 (by decide) ?_
    refine aw_iconst (v := 2) C dX10_weigh_99 (by decide) ?_
    refine aw_iload C 4 dX10_weigh_100 rfl ?_
    refine aw_iload_n C 1 dX10_weigh_102 rfl ?_
    refine aw_iand C dX10_weigh_103 ?_
    obtain ⟨⟨v18, s19⟩, cw20, h⟩ := oC_e h
    have h := oL_e (x := s19) rfl (oL_e (x := v18) rfl h)
    refine aw_callSi (n := 1) (As := [.int (v3 &&& x1)]) (rest := [.int (2 : Int32), .int (10 : Int32), .int x2, .ref (N.2.1 34)]) C (c_J6_bitCount_0f7a4 l D N s17 s19 (v3 &&& x1) v18 cw20) lw_43_10 lw_30_15 lw_30_16 lw_30_17 rfl rfl (by decide +kernel) ⟨Nat.le_of_ble_eq_true rfl, Nat.le_of_ble_eq_true rfl⟩ rfl rfl (Nat.le_of_ble_eq_true rfl) dX10_weigh_104 ?_
    refine aw_imul C dX10_weigh_107 ?_
    refine aw_iload C 4 dX10_weigh_108 rfl ?_
    obtain ⟨⟨v21, s22⟩, cw23, h⟩ := oC_e h
    have h := oL_e (x := s22) rfl (oL_e (x := v21) rfl h)
    refine aw_callSi (n := 1) (As := [.int v3]) (rest := [.int ((2 : Int32) * v18), .int (10 : Int32), .int x2, .ref (N.2.1 34)]) C (c_J6_bitCount_0f7a4 l D N s19 s22 v3 v21 cw23) lw_43_10 lw_30_15 lw_30_16 lw_30_17 rfl rfl (by decide +kernel) ⟨Nat.le_of_ble_eq_true rfl, Nat.le_of_ble_eq_true rfl⟩ rfl rfl (Nat.le_of_ble_eq_true rfl) dX10_weigh_110 ?_
    refine aw_isub C dX10_weigh_113 ?_
    refine aw_imul C dX10_weigh_114 ?_
    obtain ⟨q24, h⟩ := oA_e h
    refine ca_iast (k := 34) C (by decide) rfl q24 dX10_weigh_115 ?_
    refine ca_name (fun s25 es25 => ?_)
    have h := oL_e es25 h
    obtain ⟨y26, ey26⟩ : ∃ q : Int32, q = x2 + (1 : Int32) := ⟨_, rfl⟩
    have h := oL_e ey26 h
    refine aw_iinc (v := y26) (k := 2) (lv' := [(0, .ref (N.1 9)), (1, .int x1), (2, .int y26), (3, .int y2), (4, .int v3)]) C [1, 2, 0, 3, 4] dX10_weigh_116 rfl (by rw [ey26]; rfl) (by decide) rfl ?_
    refine aw_goto (tgt := 2) C dX10_weigh_119 (by decide) ?_
    refine aw_sub (lv' := [(0, .ref (N.1 9)), (1, .int x1), (2, .int y26)]) [0, 1, 2] rfl ?_
    exact hk2 s25 x1 y26 h
def F_X10_weigh_2 : Nat → St → Int32 → Int32 → Option (Int32 × St)
  | 0 => fun _ _ _ => none
  | n + 1 => F_X10_weigh_2_b (F_X10_weigh_2 n)
theorem T_X10_weigh_2 {r : Int32} {z1 : St} (C : Cx p rm_X10_weigh s m args c D A cX10_weigh 5 RX10 rm_X10_weigh N) (hE : En p l e rm_X10_weigh s m args below meth c Q D A cX10_weigh .ireturn (wC N z1) [.int r])  : ∀ (n : Nat) (s0 : St) (x1 : Int32) (x2 : Int32), F_X10_weigh_2 n s0 x1 x2 = some (r, z1) → Aw p l e rm_X10_weigh s m args below meth c Q D A 5 (wC N s0) 2 [(0, .ref (N.1 9)), (1, .int x1), (2, .int x2)] [] := by
  intro n
  induction n with
  | zero => intro s0 x1 x2 h; cases h
  | succ n ih => intro s0 x1 x2 h; exact T_X10_weigh_2_b C hE ih s0 x1 x2 h
def F_X10_weigh_0 (s0 : St) (x1 : Int32) : Option (Int32 × St) :=
  oL (0 : Int32) fun y1 =>
  F_X10_weigh_2 100000 s0 x1 y1
set_option maxHeartbeats 4000000 in
set_option maxRecDepth 100000 in
theorem T_X10_weigh_0 {r : Int32} {z1 : St} (C : Cx p rm_X10_weigh s m args c D A cX10_weigh 5 RX10 rm_X10_weigh N) (hE : En p l e rm_X10_weigh s m args below meth c Q D A cX10_weigh .ireturn (wC N z1) [.int r])  (s0 : St) (x1 : Int32) (h : F_X10_weigh_0 s0 x1 = some (r, z1)) : Aw p l e rm_X10_weigh s m args below meth c Q D A 5 (wC N s0) 0 [(0, .ref (N.1 9)), (1, .int x1)] [] := by
  unfold F_X10_weigh_0 at h
  refine aw_iconst (v := 0) C dX10_weigh_0 (by decide) ?_
  refine aw_topi (fun y1 ey1 => ?_)
  have h := oL_e ey1 h
  refine aw_istore_n (lv' := [(0, .ref (N.1 9)), (1, .int x1), (2, .int y1)]) C [1, 2, 0] dX10_weigh_1 rfl (by decide) rfl ?_
  refine aw_sub (lv' := [(0, .ref (N.1 9)), (1, .int x1), (2, .int y1)]) [0, 1, 2] rfl ?_
  exact T_X10_weigh_2 C hE 100000 s0 x1 y1 h
def f_X10_weigh (s0 : St) (x1 : Int32) : Option (Int32 × St) := F_X10_weigh_0 s0 x1
theorem c_X10_weigh (l : Launch) (D : va_G) (N : Nm) (s0 z1 : St) (x1 : Int32) (r : Int32) (h : f_X10_weigh s0 x1 = some (r, z1)) : Meti l yX10_weigh (tsU yX10_weigh cX10_weigh 5 (some .int)) rm_X10_weigh D N [.ref (N.1 9), .int x1] (wC N s0) r (wC N z1) :=
  met_i (cc := cX10_weigh) (nL := 5) (own := RX10) (by decide) rfl (Nat.le_of_ble_eq_true rfl) (fun p e s m args below meth c Q A C hE => aw_sub [0, 1] rfl (T_X10_weigh_0 C hE s0 x1 h))
end WK
