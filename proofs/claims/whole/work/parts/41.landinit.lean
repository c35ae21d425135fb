section WK
variable {p : Program} {l : Launch} {e : Env} {s : State} {m : MethodId} {args : Array Value} {below : List Frame} {meth : Method} {c : Code} {Q : State → Prop} {D : va_G} {A : Nat → Prop} {N : Nm}
/-! java/util/Arrays.fill([II)V -/
def rml1_J7_fill_53178 : Room := { frames := 0, cells := 0, slots := 0, locals := 0 }
def Fl1_J7_fill_53178_5_b (k5 : St → Nat → Int32 → Int32 → Int32 → Option (St)) (s0 : St) (x0 : Nat) (x1 : Int32) (x2 : Int32) (x3 : Int32) : Option (St) :=
  if x3 ≤ x2 then (
    some s0)
  else (
    oXL1 x0 x2 <|
    oL (sA s0 x0 (upd (s0.2.1 x0) (Int32.toNatClampNeg x2) x1)) fun s2 =>
    oL (x2 + (1 : Int32)) fun y3 =>
    k5 s2 x0 x1 y3 x3)
set_option maxHeartbeats 4000000 in
set_option maxRecDepth 100000 in
theorem Tl1_J7_fill_53178_5_b {z1 : St} {k5 : St → Nat → Int32 → Int32 → Int32 → Option (St)} (C : Cx p rml1_J7_fill_53178 s m args c D A cJ7_fill_53178 4 RJ7 rml1_J7_fill_53178 N) (hE : En p l e rml1_J7_fill_53178 s m args below meth c Q D A cJ7_fill_53178 .return_ (wL1 N z1) []) (hk5 : ∀ (s0 : St) (x0 : Nat) (x1 : Int32) (x2 : Int32) (x3 : Int32), k5 s0 x0 x1 x2 x3 = some z1 → Aw p l e rml1_J7_fill_53178 s m args below meth c Q D A 4 (wL1 N s0) 5 [(0, .ref (N.2.1 x0)), (1, .int x1), (2, .int x2), (3, .int x3)] []) (s0 : St) (x0 : Nat) (x1 : Int32) (x2 : Int32) (x3 : Int32) (h : Fl1_J7_fill_53178_5_b k5 s0 x0 x1 x2 x3 = some z1) : Aw p l e rml1_J7_fill_53178 s m args below meth c Q D A 4 (wL1 N s0) 5 [(0, .ref (N.2.1 x0)), (1, .int x1), (2, .int x2), (3, .int x3)] [] := by
  unfold Fl1_J7_fill_53178_5_b at h
  refine aw_iload_n C 2 dJ7_fill_53178_5 rfl ?_
  refine aw_iload_n C 3 dJ7_fill_53178_6 rfl ?_
  refine aw_icmp_ge (tgt := 20) C dJ7_fill_53178_7 (by decide) (fun q => ?_) (fun q => ?_)
  · have h := bq_t q h
    cases h
    exact aw_ret hE dJ7_fill_53178_20
  · have h := bq_f q h
    refine aw_aload_n C 0 dJ7_fill_53178_10 rfl ?_
    refine aw_iload_n C 2 dJ7_fill_53178_11 rfl ?_
    refine aw_iload_n C 1 dJ7_fill_53178_12 rfl ?_
    obtain ⟨q1a, q1b, q1, h⟩ := oXL1_e h
    refine l1a_iast (k := x0) C q1a q1b q1 dJ7_fill_53178_13 ?_
    refine l1a_name (fun s2 es2 => ?_)
    have h := oL_e es2 h
    obtain ⟨y3, ey3⟩ : ∃ q : Int32, q = x2 + (1 : Int32) := ⟨_, rfl⟩
    have h := oL_e ey3 h
    refine aw_iinc (v := y3) (k := 2) (lv' := [(0, .ref (N.2.1 x0)), (1, .int x1), (2, .int y3), (3, .int x3)]) C [1, 2, 0, 3] dJ7_fill_53178_14 rfl (by rw [ey3]; rfl) (by decide) rfl ?_
    refine aw_goto (tgt := 5) C dJ7_fill_53178_17 (by decide) ?_
    refine aw_sub (lv' := [(0, .ref (N.2.1 x0)), (1, .int x1), (2, .int y3), (3, .int x3)]) [0, 1, 2, 3] rfl ?_
    exact hk5 s2 x0 x1 y3 x3 h
def Fl1_J7_fill_53178_5 : Nat → St → Nat → Int32 → Int32 → Int32 → Option (St)
  | 0 => fun _ _ _ _ _ => none
  | n + 1 => Fl1_J7_fill_53178_5_b (Fl1_J7_fill_53178_5 n)
theorem Tl1_J7_fill_53178_5 {z1 : St} (C : Cx p rml1_J7_fill_53178 s m args c D A cJ7_fill_53178 4 RJ7 rml1_J7_fill_53178 N) (hE : En p l e rml1_J7_fill_53178 s m args below meth c Q D A cJ7_fill_53178 .return_ (wL1 N z1) [])  : ∀ (n : Nat) (s0 : St) (x0 : Nat) (x1 : Int32) (x2 : Int32) (x3 : Int32), Fl1_J7_fill_53178_5 n s0 x0 x1 x2 x3 = some z1 → Aw p l e rml1_J7_fill_53178 s m args below meth c Q D A 4 (wL1 N s0) 5 [(0, .ref (N.2.1 x0)), (1, .int x1), (2, .int x2), (3, .int x3)] [] := by
  intro n
  induction n with
  | zero => intro s0 x0 x1 x2 x3 h; cases h
  | succ n ih => intro s0 x0 x1 x2 x3 h; exact Tl1_J7_fill_53178_5_b C hE ih s0 x0 x1 x2 x3 h
def Fl1_J7_fill_53178_0 (s0 : St) (x0 : Nat) (x1 : Int32) : Option (St) :=
  oL (0 : Int32) fun y1 =>
  oYL1 x0 <|
  oL (Int32.ofNat (lnL1 x0)) fun y3 =>
  Fl1_J7_fill_53178_5 100000 s0 x0 x1 y1 y3
set_option maxHeartbeats 4000000 in
set_option maxRecDepth 100000 in
theorem Tl1_J7_fill_53178_0 {z1 : St} (C : Cx p rml1_J7_fill_53178 s m args c D A cJ7_fill_53178 4 RJ7 rml1_J7_fill_53178 N) (hE : En p l e rml1_J7_fill_53178 s m args below meth c Q D A cJ7_fill_53178 .return_ (wL1 N z1) [])  (s0 : St) (x0 : Nat) (x1 : Int32) (h : Fl1_J7_fill_53178_0 s0 x0 x1 = some z1) : Aw p l e rml1_J7_fill_53178 s m args below meth c Q D A 4 (wL1 N s0) 0 [(0, .ref (N.2.1 x0)), (1, .int x1)] [] := by
  unfold Fl1_J7_fill_53178_0 at h
  refine aw_iconst (v := 0) C dJ7_fill_53178_0 (by decide) ?_
  refine aw_topi (fun y1 ey1 => ?_)
  have h := oL_e ey1 h
  refine aw_istore_n (lv' := [(0, .ref (N.2.1 x0)), (1, .int x1), (2, .int y1)]) C [1, 2, 0] dJ7_fill_53178_1 rfl (by decide) rfl ?_
  refine aw_aload_n C 0 dJ7_fill_53178_2 rfl ?_
  obtain ⟨q2a, q2b, h⟩ := oYL1_e h
  refine l1a_alen (k := x0) C q2a q2b dJ7_fill_53178_3 ?_
  refine aw_topi (fun y3 ey3 => ?_)
  have h := oL_e ey3 h
  refine aw_istore_n (lv' := [(0, .ref (N.2.1 x0)), (1, .int x1), (2, .int y1), (3, .int y3)]) C [1, 2, 3, 0] dJ7_fill_53178_4 rfl (by decide) rfl ?_
  refine aw_sub (lv' := [(0, .ref (N.2.1 x0)), (1, .int x1), (2, .int y1), (3, .int y3)]) [0, 1, 2, 3] rfl ?_
  exact Tl1_J7_fill_53178_5 C hE 100000 s0 x0 x1 y1 y3 h
def fl1_J7_fill_53178 (s0 : St) (x0 : Nat) (x1 : Int32) : Option (St) := Fl1_J7_fill_53178_0 s0 x0 x1
theorem cl1_J7_fill_53178 (l : Launch) (D : va_G) (N : Nm) (s0 z1 : St) (x0 : Nat) (x1 : Int32) (h : fl1_J7_fill_53178 s0 x0 x1 = some z1) : Metv l yJ7_fill_53178 (tsU yJ7_fill_53178 cJ7_fill_53178 4 none) rml1_J7_fill_53178 D N [.ref (N.2.1 x0), .int x1] (wL1 N s0) (wL1 N z1) :=
  met_v (cc := cJ7_fill_53178) (nL := 4) (own := RJ7) (by decide) rfl (Nat.le_of_ble_eq_true rfl) (fun p e s m args below meth c Q A C hE => aw_sub [0, 1] rfl (Tl1_J7_fill_53178_0 C hE s0 x0 x1 h))
/-! AwardLine$Land.lay(II)V -/
def rml1_X4_lay : Room := { frames := 1, cells := 0, slots := 0, locals := 23 }
def Fl1_X4_lay_31_b (k31 : St → Int32 → Int32 → Int32 → Option (St)) (s0 : St) (x1 : Int32) (x2 : Int32) (x3 : Int32) : Option (St) :=
  if x2 ≤ x3 then (
    oL (sI s0 7 ((s0.1 6) <<< ((x1 - (1 : Int32)) &&& 31))) fun s1 =>
    oC (fl1_J7_fill_53178 s1 0 (0 : Int32)) fun w4 =>
    oL w4 fun s3 =>
    oA (0 : Int32) 6 <|
    oL (sA s3 0 (upd (s3.2.1 0) (Int32.toNatClampNeg (0 : Int32)) (s3.1 1))) fun s6 =>
    oC (fl1_J7_fill_53178 s6 1 (0 : Int32)) fun w9 =>
    oL w9 fun s8 =>
    oL (sI s8 2 (0 : Int32)) fun s10 =>
    oL (sI s10 3 (0 : Int32)) fun s11 =>
    oL (sI s11 4 (0 : Int32)) fun s12 =>
    some s12)
  else (
    oL (sI s0 6 ((s0.1 6) ||| ((1 : Int32) <<< ((x3 * x1) &&& 31)))) fun s13 =>
    oL (x3 + (1 : Int32)) fun y14 =>
    k31 s13 x1 x2 y14)
set_option maxHeartbeats 4000000 in
set_option maxRecDepth 100000 in
theorem Tl1_X4_lay_31_b {z1 : St} {k31 : St → Int32 → Int32 → Int32 → Option (St)} (C : Cx p rml1_X4_lay s m args c D A cX4_lay 4 RX4 rml1_X4_lay N) (hE : En p l e rml1_X4_lay s m args below meth c Q D A cX4_lay .return_ (wL1 N z1) []) (hk31 : ∀ (s0 : St) (x1 : Int32) (x2 : Int32) (x3 : Int32), k31 s0 x1 x2 x3 = some z1 → Aw p l e rml1_X4_lay s m args below meth c Q D A 4 (wL1 N s0) 31 [(0, .ref (N.1 0)), (1, .int x1), (2, .int x2), (3, .int x3)] []) (s0 : St) (x1 : Int32) (x2 : Int32) (x3 : Int32) (h : Fl1_X4_lay_31_b k31 s0 x1 x2 x3 = some z1) : Aw p l e rml1_X4_lay s m args below meth c Q D A 4 (wL1 N s0) 31 [(0, .ref (N.1 0)), (1, .int x1), (2, .int x2), (3, .int x3)] [] := by
  unfold Fl1_X4_lay_31_b at h
  refine aw_iload_n C 3 dX4_lay_31 rfl ?_
  refine aw_iload_n C 2 dX4_lay_32 rfl ?_
  refine aw_icmp_ge (tgt := 56) C dX4_lay_33 (by decide) (fun q => ?_) (fun q => ?_)
  · have h := bq_t q h
    refine aw_aload_n C 0 dX4_lay_56 rfl ?_
    refine aw_aload_n C 0 dX4_lay_57 rfl ?_
    refine l1g_ln_firstColumn C lw_3_23 dX4_lay_58 ?_
    refine aw_iload_n C 1 dX4_lay_61 rfl ?_
    refine aw_iconst (v := 1) C dX4_lay_62 (by decide) ?_
    refine aw_isub C dX4_lay_63 ?_
    refine aw_ishl C dX4_lay_64 ?_
    refine l1p_ln_lastColumn C lw_4_0 dX4_lay_65 ?_
    refine l1a_name (fun s1 es1 => ?_)
    have h := oL_e es1 h
    refine aw_aload_n C 0 dX4_lay_68 rfl ?_
    refine l1g_ln_districts C lw_3_12 dX4_lay_69 ?_
    refine aw_iconst (v := 0) C dX4_lay_72 (by decide) ?_
    obtain ⟨s3, cw4, h⟩ := oC_e h
    have h := oL_e (x := s3) rfl h
    refine aw_callSv (n := 2) (As := [.ref (N.2.1 0), .int (0 : Int32)]) (rest := []) C (cl1_J7_fill_53178 l D N s1 s3 0 (0 : Int32) cw4) lw_4_4 lw_4_5 lw_4_6 lw_4_7 rfl rfl (by decide +kernel) ⟨Nat.le_of_ble_eq_true rfl, Nat.le_of_ble_eq_true rfl⟩ rfl rfl (Nat.le_of_ble_eq_true rfl) dX4_lay_73 ?_
    refine aw_aload_n C 0 dX4_lay_76 rfl ?_
    refine l1g_ln_districts C lw_3_12 dX4_lay_77 ?_
    refine aw_iconst (v := 0) C dX4_lay_80 (by decide) ?_
    refine aw_aload_n C 0 dX4_lay_81 rfl ?_
    refine l1g_ln_all C lw_3_22 dX4_lay_82 ?_
    obtain ⟨q5, h⟩ := oA_e h
    refine l1a_iast (k := 0) C (by decide) rfl q5 dX4_lay_85 ?_
    refine l1a_name (fun s6 es6 => ?_)
    have h := oL_e es6 h
    refine aw_aload_n C 0 dX4_lay_86 rfl ?_
    refine l1g_ln_shrines C lw_3_13 dX4_lay_87 ?_
    refine aw_iconst (v := 0) C dX4_lay_90 (by decide) ?_
    obtain ⟨s8, cw9, h⟩ := oC_e h
    have h := oL_e (x := s8) rfl h
    refine aw_callSv (n := 2) (As := [.ref (N.2.1 1), .int (0 : Int32)]) (rest := []) C (cl1_J7_fill_53178 l D N s6 s8 1 (0 : Int32) cw9) lw_4_4 lw_4_5 lw_4_6 lw_4_7 rfl rfl (by decide +kernel) ⟨Nat.le_of_ble_eq_true rfl, Nat.le_of_ble_eq_true rfl⟩ rfl rfl (Nat.le_of_ble_eq_true rfl) dX4_lay_91 ?_
    refine aw_aload_n C 0 dX4_lay_94 rfl ?_
    refine aw_iconst (v := 0) C dX4_lay_95 (by decide) ?_
    refine l1p_ln_rails C lw_4_1 dX4_lay_96 ?_
    refine l1a_name (fun s10 es10 => ?_)
    have h := oL_e es10 h
    refine aw_aload_n C 0 dX4_lay_99 rfl ?_
    refine aw_iconst (v := 0) C dX4_lay_100 (by decide) ?_
    refine l1p_ln_heads C lw_4_2 dX4_lay_101 ?_
    refine l1a_name (fun s11 es11 => ?_)
    have h := oL_e es11 h
    refine aw_aload_n C 0 dX4_lay_104 rfl ?_
    refine aw_iconst (v := 0) C dX4_lay_105 (by decide) ?_
    refine l1p_ln_canals C lw_4_3 dX4_lay_106 ?_
    refine l1a_name (fun s12 es12 => ?_)
    have h := oL_e es12 h
    cases h
    exact aw_ret hE dX4_lay_109
  · have h := bq_f q h
    refine aw_aload_n C 0 dX4_lay_36 rfl ?_
    refine aw_dup C dX4_lay_37 rfl ?_
    refine l1g_ln_firstColumn C lw_3_23 dX4_lay_38 ?_
    refine aw_iconst (v := 1) C dX4_lay_41 (by decide) ?_
    refine aw_iload_n C 3 dX4_lay_42 rfl ?_
    refine aw_iload_n C 1 dX4_lay_43 rfl ?_
    refine aw_imul C dX4_lay_44 ?_
    refine aw_ishl C dX4_lay_45 ?_
    refine aw_ior C dX4_lay_46 ?_
    refine l1p_ln_firstColumn C lw_3_23 dX4_lay_47 ?_
    refine l1a_name (fun s13 es13 => ?_)
    have h := oL_e es13 h
    obtain ⟨y14, ey14⟩ : ∃ q : Int32, q = x3 + (1 : Int32) := ⟨_, rfl⟩
    have h := oL_e ey14 h
    refine aw_iinc (v := y14) (k := 3) (lv' := [(0, .ref (N.1 0)), (1, .int x1), (2, .int x2), (3, .int y14)]) C [1, 2, 3, 0] dX4_lay_50 rfl (by rw [ey14]; rfl) (by decide) rfl ?_
    refine aw_goto (tgt := 31) C dX4_lay_53 (by decide) ?_
    refine aw_sub (lv' := [(0, .ref (N.1 0)), (1, .int x1), (2, .int x2), (3, .int y14)]) [0, 1, 2, 3] rfl ?_
    exact hk31 s13 x1 x2 y14 h
def Fl1_X4_lay_31 : Nat → St → Int32 → Int32 → Int32 → Option (St)
  | 0 => fun _ _ _ _ => none
  | n + 1 => Fl1_X4_lay_31_b (Fl1_X4_lay_31 n)
theorem Tl1_X4_lay_31 {z1 : St} (C : Cx p rml1_X4_lay s m args c D A cX4_lay 4 RX4 rml1_X4_lay N) (hE : En p l e rml1_X4_lay s m args below meth c Q D A cX4_lay .return_ (wL1 N z1) [])  : ∀ (n : Nat) (s0 : St) (x1 : Int32) (x2 : Int32) (x3 : Int32), Fl1_X4_lay_31 n s0 x1 x2 x3 = some z1 → Aw p l e rml1_X4_lay s m args below meth c Q D A 4 (wL1 N s0) 31 [(0, .ref (N.1 0)), (1, .int x1), (2, .int x2), (3, .int x3)] [] := by
  intro n
  induction n with
  | zero => intro s0 x1 x2 x3 h; cases h
  | succ n ih => intro s0 x1 x2 x3 h; exact Tl1_X4_lay_31_b C hE ih s0 x1 x2 x3 h
def Fl1_X4_lay_0 (s0 : St) (x1 : Int32) (x2 : Int32) : Option (St) :=
  oL (sI s0 5 x1) fun s1 =>
  oL (sI s1 0 (x1 * x2)) fun s2 =>
  oL (sI s2 1 (((1 : Int32) <<< ((s2.1 0) &&& 31)) - (1 : Int32))) fun s3 =>
  oL (sI s3 6 (0 : Int32)) fun s4 =>
  oL (0 : Int32) fun y5 =>
  Fl1_X4_lay_31 100000 s4 x1 x2 y5
set_option maxHeartbeats 4000000 in
set_option maxRecDepth 100000 in
theorem Tl1_X4_lay_0 {z1 : St} (C : Cx p rml1_X4_lay s m args c D A cX4_lay 4 RX4 rml1_X4_lay N) (hE : En p l e rml1_X4_lay s m args below meth c Q D A cX4_lay .return_ (wL1 N z1) [])  (s0 : St) (x1 : Int32) (x2 : Int32) (h : Fl1_X4_lay_0 s0 x1 x2 = some z1) : Aw p l e rml1_X4_lay s m args below meth c Q D A 4 (wL1 N s0) 0 [(0, .ref (N.1 0)), (1, .int x1), (2, .int x2)] [] := by
  unfold Fl1_X4_lay_0 at h
  refine aw_aload_n C 0 dX4_lay_0 rfl ?_
  refine aw_iload_n C 1 dX4_lay_1 rfl ?_
  refine l1p_ln_wide C lw_3_20 dX4_lay_2 ?_
  refine l1a_name (fun s1 es1 => ?_)
  have h := oL_e es1 h
  refine aw_aload_n C 0 dX4_lay_5 rfl ?_
  refine aw_iload_n C 1 dX4_lay_6 rfl ?_
  refine aw_iload_n C 2 dX4_lay_7 rfl ?_
  refine aw_imul C dX4_lay_8 ?_
  refine l1p_ln_size C lw_3_21 dX4_lay_9 ?_
  refine l1a_name (fun s2 es2 => ?_)
  have h := oL_e es2 h
  refine aw_aload_n C 0 dX4_lay_12 rfl ?_
  refine aw_iconst (v := 1) C dX4_lay_13 (by decide) ?_
  refine aw_aload_n C 0 dX4_lay_14 rfl ?_
  refine l1g_ln_size C lw_3_21 dX4_lay_15 ?_
  refine aw_ishl C dX4_lay_18 ?_
  refine aw_iconst (v := 1) C dX4_lay_19 (by decide) ?_
  refine aw_isub C dX4_lay_20 ?_
  refine l1p_ln_all C lw_3_22 dX4_lay_21 ?_
  refine l1a_name (fun s3 es3 => ?_)
  have h := oL_e es3 h
  refine aw_aload_n C 0 dX4_lay_24 rfl ?_
  refine aw_iconst (v := 0) C dX4_lay_25 (by decide) ?_
  refine l1p_ln_firstColumn C lw_3_23 dX4_lay_26 ?_
  refine l1a_name (fun s4 es4 => ?_)
  have h := oL_e es4 h
  refine aw_iconst (v := 0) C dX4_lay_29 (by decide) ?_
  refine aw_topi (fun y5 ey5 => ?_)
  have h := oL_e ey5 h
  refine aw_istore_n (lv' := [(0, .ref (N.1 0)), (1, .int x1), (2, .int x2), (3, .int y5)]) C [1, 2, 3, 0] dX4_lay_30 rfl (by decide) rfl ?_
  refine aw_sub (lv' := [(0, .ref (N.1 0)), (1, .int x1), (2, .int x2), (3, .int y5)]) [0, 1, 2, 3] rfl ?_
  exact Tl1_X4_lay_31 C hE 100000 s4 x1 x2 y5 h
def fl1_X4_lay (s0 : St) (x1 : Int32) (x2 : Int32) : Option (St) := Fl1_X4_lay_0 s0 x1 x2
theorem cl1_X4_lay (l : Launch) (D : va_G) (N : Nm) (s0 z1 : St) (x1 : Int32) (x2 : Int32) (h : fl1_X4_lay s0 x1 x2 = some z1) : Metv l yX4_lay (tsU yX4_lay cX4_lay 4 none) rml1_X4_lay D N [.ref (N.1 0), .int x1, .int x2] (wL1 N s0) (wL1 N z1) :=
  met_v (cc := cX4_lay) (nL := 4) (own := RX4) (by decide) rfl (Nat.le_of_ble_eq_true rfl) (fun p e s m args below meth c Q A C hE => aw_sub [0, 1, 2] rfl (Tl1_X4_lay_0 C hE s0 x1 x2 h))
end WK
