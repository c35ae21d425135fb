section WK
variable {p : Program} {l : Launch} {e : Env} {s : State} {m : MethodId} {args : Array Value} {below : List Frame} {meth : Method} {c : Code} {Q : State → Prop} {D : va_G} {A : Nat → Prop} {N : Nm}
/-! java/util/Arrays.fill([II)V -/
def rmt1_J7_fill_53178 : Room := { frames := 0, cells := 0, slots := 0, locals := 0 }
def Ft1_J7_fill_53178_5_b (k5 : St → Nat → Int32 → Int32 → Int32 → Option (St)) (s0 : St) (x0 : Nat) (x1 : Int32) (x2 : Int32) (x3 : Int32) : Option (St) :=
  if x3 ≤ x2 then (
    some s0)
  else (
    oXT1 x0 x2 <|
    oL (sA s0 x0 (upd (s0.2.1 x0) (Int32.toNatClampNeg x2) x1)) fun s2 =>
    oL (x2 + (1 : Int32)) fun y3 =>
    k5 s2 x0 x1 y3 x3)
set_option maxHeartbeats 4000000 in
set_option maxRecDepth 100000 in
theorem Tt1_J7_fill_53178_5_b {z1 : St} {k5 : St → Nat → Int32 → Int32 → Int32 → Option (St)} (C : Cx p rmt1_J7_fill_53178 s m args c D A cJ7_fill_53178 4 RJ7 rmt1_J7_fill_53178 N) (hE : En p l e rmt1_J7_fill_53178 s m args below meth c Q D A cJ7_fill_53178 .return_ (wT1 N z1) []) (hk5 : ∀ (s0 : St) (x0 : Nat) (x1 : Int32) (x2 : Int32) (x3 : Int32), k5 s0 x0 x1 x2 x3 = some z1 → Aw p l e rmt1_J7_fill_53178 s m args below meth c Q D A 4 (wT1 N s0) 5 [(0, .ref (N.2.1 x0)), (1, .int x1), (2, .int x2), (3, .int x3)] []) (s0 : St) (x0 : Nat) (x1 : Int32) (x2 : Int32) (x3 : Int32) (h : Ft1_J7_fill_53178_5_b k5 s0 x0 x1 x2 x3 = some z1) : Aw p l e rmt1_J7_fill_53178 s m args below meth c Q D A 4 (wT1 N s0) 5 [(0, .ref (N.2.1 x0)), (1, .int x1), (2, .int x2), (3, .int x3)] [] := by
  unfold Ft1_J7_fill_53178_5_b at h
  refine aw_iload_n C 2 dJ7_fill_53178_5 rfl ?_
  refine aw_iload_n C 3 dJ7_fill_53178_6 rfl ?_
  refine aw_icmp_ge (tgt := 20) C dJ7_fill_53178_7 (by decide) (fun q => ?_) (fun q => ?_)
  · have h := bq_t q h
    cases h
    exact aw_ret hE dJ7_fill_53178_20
  · have h := bq_f q h
    refine aw_aload_n C 0 dJ7_fill_53178_10 rfl ?_
    refine aw_iload_n C 2 dJ7_fill_53178_11 rfl ?_
    refine aw_iload_n C 1 dJ7_fill_53178_12 rfl ?_
    obtain ⟨q1a, q1b, q1, h⟩ := oXT1_e h
    refine t1a_iast (k := x0) C q1a q1b q1 dJ7_fill_53178_13 ?_
    refine t1a_name (fun s2 es2 => ?_)
    have h := oL_e es2 h
    obtain ⟨y3, ey3⟩ : ∃ q : Int32, q = x2 + (1 : Int32) := ⟨_, rfl⟩
    have h := oL_e ey3 h
    refine aw_iinc (v := y3) (k := 2) (lv' := [(0, .ref (N.2.1 x0)), (1, .int x1), (2, .int y3), (3, .int x3)]) C [1, 2, 0, 3] dJ7_fill_53178_14 rfl (by rw [ey3]; rfl) (by decide) rfl ?_
    refine aw_goto (tgt := 5) C dJ7_fill_53178_17 (by decide) ?_
    refine aw_sub (lv' := [(0, .ref (N.2.1 x0)), (1, .int x1), (2, .int y3), (3, .int x3)]) [0, 1, 2, 3] rfl ?_
    exact hk5 s2 x0 x1 y3 x3 h
def Ft1_J7_fill_53178_5 : Nat → St → Nat → Int32 → Int32 → Int32 → Option (St)
  | 0 => fun _ _ _ _ _ => none
  | n + 1 => Ft1_J7_fill_53178_5_b (Ft1_J7_fill_53178_5 n)
theorem Tt1_J7_fill_53178_5 {z1 : St} (C : Cx p rmt1_J7_fill_53178 s m args c D A cJ7_fill_53178 4 RJ7 rmt1_J7_fill_53178 N) (hE : En p l e rmt1_J7_fill_53178 s m args below meth c Q D A cJ7_fill_53178 .return_ (wT1 N z1) [])  : ∀ (n : Nat) (s0 : St) (x0 : Nat) (x1 : Int32) (x2 : Int32) (x3 : Int32), Ft1_J7_fill_53178_5 n s0 x0 x1 x2 x3 = some z1 → Aw p l e rmt1_J7_fill_53178 s m args below meth c Q D A 4 (wT1 N s0) 5 [(0, .ref (N.2.1 x0)), (1, .int x1), (2, .int x2), (3, .int x3)] [] := by
  intro n
  induction n with
  | zero => intro s0 x0 x1 x2 x3 h; cases h
  | succ n ih => intro s0 x0 x1 x2 x3 h; exact Tt1_J7_fill_53178_5_b C hE ih s0 x0 x1 x2 x3 h
def Ft1_J7_fill_53178_0 (s0 : St) (x0 : Nat) (x1 : Int32) : Option (St) :=
  oL (0 : Int32) fun y1 =>
  oYT1 x0 <|
  oL (Int32.ofNat (lnT1 x0)) fun y3 =>
  Ft1_J7_fill_53178_5 100000 s0 x0 x1 y1 y3
set_option maxHeartbeats 4000000 in
set_option maxRecDepth 100000 in
theorem Tt1_J7_fill_53178_0 {z1 : St} (C : Cx p rmt1_J7_fill_53178 s m args c D A cJ7_fill_53178 4 RJ7 rmt1_J7_fill_53178 N) (hE : En p l e rmt1_J7_fill_53178 s m args below meth c Q D A cJ7_fill_53178 .return_ (wT1 N z1) [])  (s0 : St) (x0 : Nat) (x1 : Int32) (h : Ft1_J7_fill_53178_0 s0 x0 x1 = some z1) : Aw p l e rmt1_J7_fill_53178 s m args below meth c Q D A 4 (wT1 N s0) 0 [(0, .ref (N.2.1 x0)), (1, .int x1)] [] := by
  unfold Ft1_J7_fill_53178_0 at h
  refine aw_iconst (v := 0) C dJ7_fill_53178_0 (by decide) ?_
  refine aw_topi (fun y1 ey1 => ?_)
  have h := oL_e ey1 h
  refine aw_istore_n (lv' := [(0, .ref (N.2.1 x0)), (1, .int x1), (2, .int y1)]) C [1, 2, 0] dJ7_fill_53178_1 rfl (by decide) rfl ?_
  refine aw_aload_n C 0 dJ7_fill_53178_2 rfl ?_
  obtain ⟨q2a, q2b, h⟩ := oYT1_e h
  refine t1a_alen (k := x0) C q2a q2b dJ7_fill_53178_3 ?_
  refine aw_topi (fun y3 ey3 => ?_)
  have h := oL_e ey3 h
  refine aw_istore_n (lv' := [(0, .ref (N.2.1 x0)), (1, .int x1), (2, .int y1), (3, .int y3)]) C [1, 2, 3, 0] dJ7_fill_53178_4 rfl (by decide) rfl ?_
  refine aw_sub (lv' := [(0, .ref (N.2.1 x0)), (1, .int x1), (2, .int y1), (3, .int y3)]) [0, 1, 2, 3] rfl ?_
  exact Tt1_J7_fill_53178_5 C hE 100000 s0 x0 x1 y1 y3 h
def ft1_J7_fill_53178 (s0 : St) (x0 : Nat) (x1 : Int32) : Option (St) := Ft1_J7_fill_53178_0 s0 x0 x1
theorem ct1_J7_fill_53178 (l : Launch) (D : va_G) (N : Nm) (s0 z1 : St) (x0 : Nat) (x1 : Int32) (h : ft1_J7_fill_53178 s0 x0 x1 = some z1) : Metv l yJ7_fill_53178 (tsU yJ7_fill_53178 cJ7_fill_53178 4 none) rmt1_J7_fill_53178 D N [.ref (N.2.1 x0), .int x1] (wT1 N s0) (wT1 N z1) :=
  met_v (cc := cJ7_fill_53178) (nL := 4) (own := RJ7) (by decide) rfl (Nat.le_of_ble_eq_true rfl) (fun p e s m args below meth c Q A C hE => aw_sub [0, 1] rfl (Tt1_J7_fill_53178_0 C hE s0 x0 x1 h))
/-! AwardLine$Terms.clear()V -/
def rmt1_X8_clear : Room := { frames := 1, cells := 0, slots := 0, locals := 23 }
def Ft1_X8_clear_0 (s0 : St) : Option (St) :=
  oL (sI s0 0 (0 : Int32)) fun s1 =>
  oL (sI s1 1 (10 : Int32)) fun s2 =>
  oL (sI s2 2 (5 : Int32)) fun s3 =>
  oL (sI s3 3 (0 : Int32)) fun s4 =>
  oC (ft1_J7_fill_53178 s4 0 (0 : Int32)) fun w7 =>
  oL w7 fun s6 =>
  some s6
set_option maxHeartbeats 4000000 in
set_option maxRecDepth 100000 in
theorem Tt1_X8_clear_0 {z1 : St} (C : Cx p rmt1_X8_clear s m args c D A cX8_clear 1 RX8 rmt1_X8_clear N) (hE : En p l e rmt1_X8_clear s m args below meth c Q D A cX8_clear .return_ (wT1 N z1) [])  (s0 : St) (h : Ft1_X8_clear_0 s0 = some z1) : Aw p l e rmt1_X8_clear s m args below meth c Q D A 1 (wT1 N s0) 0 [(0, .ref (N.1 0))] [] := by
  unfold Ft1_X8_clear_0 at h
  refine aw_aload_n C 0 dX8_clear_0 rfl ?_
  refine aw_iconst (v := 0) C dX8_clear_1 (by decide) ?_
  refine t1p_tm_unit C lw_5_22 dX8_clear_2 ?_
  refine t1a_name (fun s1 es1 => ?_)
  have h := oL_e es1 h
  refine aw_aload_n C 0 dX8_clear_5 rfl ?_
  refine aw_bipush (v := 10) C dX8_clear_6 (by decide) ?_
  refine t1p_tm_fear C lw_5_23 dX8_clear_8 ?_
  refine t1a_name (fun s2 es2 => ?_)
  have h := oL_e es2 h
  refine aw_aload_n C 0 dX8_clear_11 rfl ?_
  refine aw_iconst (v := 5) C dX8_clear_12 (by decide) ?_
  refine t1p_tm_lose C lw_6_0 dX8_clear_13 ?_
  refine t1a_name (fun s3 es3 => ?_)
  have h := oL_e es3 h
  refine aw_aload_n C 0 dX8_clear_16 rfl ?_
  refine aw_iconst (v := 0) C dX8_clear_17 (by decide) ?_
  refine t1p_tm_knots C lw_6_1 dX8_clear_18 ?_
  refine t1a_name (fun s4 es4 => ?_)
  have h := oL_e es4 h
  refine aw_aload_n C 0 dX8_clear_21 rfl ?_
  refine t1g_tm_weight C lw_5_15 dX8_clear_22 ?_
  refine aw_iconst (v := 0) C dX8_clear_25 (by decide) ?_
  obtain ⟨s6, cw7, h⟩ := oC_e h
  have h := oL_e (x := s6) rfl h
  refine aw_callSv (n := 2) (As := [.ref (N.2.1 0), .int (0 : Int32)]) (rest := []) C (ct1_J7_fill_53178 l D N s4 s6 0 (0 : Int32) cw7) lw_6_2 lw_4_5 lw_4_6 lw_4_7 rfl rfl (by decide +kernel) ⟨Nat.le_of_ble_eq_true rfl, Nat.le_of_ble_eq_true rfl⟩ rfl rfl (Nat.le_of_ble_eq_true rfl) dX8_clear_26 ?_
  cases h
  exact aw_ret hE dX8_clear_29
def ft1_X8_clear (s0 : St) : Option (St) := Ft1_X8_clear_0 s0
theorem ct1_X8_clear (l : Launch) (D : va_G) (N : Nm) (s0 z1 : St) (h : ft1_X8_clear s0 = some z1) : Metv l yX8_clear (tsU yX8_clear cX8_clear 1 none) rmt1_X8_clear D N [.ref (N.1 0)] (wT1 N s0) (wT1 N z1) :=
  met_v (cc := cX8_clear) (nL := 1) (own := RX8) (by decide) rfl (Nat.le_of_ble_eq_true rfl) (fun p e s m args below meth c Q A C hE => aw_sub [0] rfl (Tt1_X8_clear_0 C hE s0 h))
end WK
