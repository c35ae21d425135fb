section WK
variable {p : Program} {l : Launch} {e : Env} {s : State} {m : MethodId} {args : Array Value} {below : List Frame} {meth : Method} {c : Code} {Q : State → Prop} {D : va_G} {A : Nat → Prop} {N : Nm}
def rm_X6_negated (d : Nat) : Room := { frames := 21 + 4 * d, cells := 0, slots := 0, locals := 1100 + 400 * d }
def rm_X6_part (d : Nat) : Room := { frames := 21 + 4 * d, cells := 0, slots := 0, locals := 1100 + 400 * d }
def rm_X6_row (d : Nat) : Room := { frames := 20 + 4 * d, cells := 0, slots := 0, locals := 1000 + 400 * d }
/-! AwardLine$Reader.negated(I)Z -/
def F_X6_negated_45_b (me : St → Int32 → Int32 → Option (Int32 × St)) (k45 : St → Int32 → Int32 → Option (Int32 × St)) (s0 : St) (x2 : Int32) (x3 : Int32) : Option (Int32 × St) :=
  if x2 ≤ x3 then (
    some ((1 : Int32), s0))
  else (
    oC (f_X6_emit s0 (17 : Int32) (0 : Int32)) fun w3 =>
    oL w3 fun s2 =>
    oL (x3 + (1 : Int32)) fun y4 =>
    k45 s2 x2 y4)
set_option maxHeartbeats 4000000 in
set_option maxRecDepth 100000 in
theorem T_X6_negated_45_b {r : Int32} {z1 : St} {d : Nat} {me : St → Int32 → Int32 → Option (Int32 × St)} {k45 : St → Int32 → Int32 → Option (Int32 × St)} (C : Cx p (rm_X6_negated d) s m args c D A cX6_negated 4 RX6 (rm_X6_negated d) N) (hE : En p l e (rm_X6_negated d) s m args below meth c Q D A cX6_negated .ireturn (wC N z1) [.int r]) (hme : ∀ (s0 q1 : St) (x1 : Int32) (x2 : Int32) (r0 : Int32), me s0 x1 x2 = some (r0, q1) → Meti l yX6_row (tsU yX6_row cX6_row 6 (some .boolean)) (rm_X6_row d) D N [.ref (N.1 1), .int x1, .int x2] (wC N s0) r0 (wC N q1)) (hk45 : ∀ (s0 : St) (x2 : Int32) (x3 : Int32), k45 s0 x2 x3 = some (r, z1) → Aw p l e (rm_X6_negated d) s m args below meth c Q D A 4 (wC N s0) 45 [(0, .ref (N.1 1)), (2, .int x2), (3, .int x3)] []) (s0 : St) (x2 : Int32) (x3 : Int32) (h : F_X6_negated_45_b me k45 s0 x2 x3 = some (r, z1)) : Aw p l e (rm_X6_negated d) s m args below meth c Q D A 4 (wC N s0) 45 [(0, .ref (N.1 1)), (2, .int x2), (3, .int x3)] [] := by
  unfold F_X6_negated_45_b at h
  refine aw_iload_n C 2 dX6_negated_45 rfl ?_
  refine aw_iload_n C 1 dX6_negated_46 rfl ?_
  refine aw_icmp_ge (tgt := 63) C dX6_negated_47 (by decide) (fun q => ?_) (fun q => ?_)
  · have h := bq_t q h
    refine aw_iconst (v := 1) C dX6_negated_63 (by decide) ?_
    cases h
    exact aw_ret hE dX6_negated_64
  · have h := bq_f q h
    refine aw_aload_n C 0 dX6_negated_50 rfl ?_
    refine aw_bipush (v := 17) C dX6_negated_51 (by decide) ?_
    refine aw_iconst (v := 0) C dX6_negated_53 (by decide) ?_
    obtain ⟨s2, cw3, h⟩ := oC_e h
    have h := oL_e (x := s2) rfl h
    refine aw_callVv (n := 2) (As := [.int (17 : Int32), .int (0 : Int32)]) (rest := []) (q0 := 1) C (c_X6_emit l D N s0 s2 (17 : Int32) (0 : Int32) cw3) lw_16_4 lw_16_5 lw_16_6 lw_2_1 lw_16_7 rfl rfl (by decide +kernel) ⟨by simp only [rm_X6_negated, rm_X6_emit]; omega, by simp only [rm_X6_negated, rm_X6_emit]; omega⟩ rfl rfl rfl rfl rfl (Nat.le_of_ble_eq_true rfl) dX6_negated_54 ?_
    obtain ⟨y4, ey4⟩ : ∃ q : Int32, q = x3 + (1 : Int32) := ⟨_, rfl⟩
    have h := oL_e ey4 h
    refine aw_iinc (v := y4) (k := 2) (lv' := [(0, .ref (N.1 1)), (2, .int x2), (3, .int y4)]) C [1, 2, 0] dX6_negated_57 rfl (by rw [ey4]; rfl) (by decide) rfl ?_
    refine aw_goto (tgt := 45) C dX6_negated_60 (by decide) ?_
    refine aw_sub (lv' := [(0, .ref (N.1 1)), (2, .int x2), (3, .int y4)]) [0, 1, 2] rfl ?_
    exact hk45 s2 x2 y4 h
def F_X6_negated_45 (me : St → Int32 → Int32 → Option (Int32 × St)) : Nat → St → Int32 → Int32 → Option (Int32 × St)
  | 0 => fun _ _ _ => none
  | n + 1 => F_X6_negated_45_b me (F_X6_negated_45 me n)
theorem T_X6_negated_45 {r : Int32} {z1 : St} {d : Nat} {me : St → Int32 → Int32 → Option (Int32 × St)} (C : Cx p (rm_X6_negated d) s m args c D A cX6_negated 4 RX6 (rm_X6_negated d) N) (hE : En p l e (rm_X6_negated d) s m args below meth c Q D A cX6_negated .ireturn (wC N z1) [.int r]) (hme : ∀ (s0 q1 : St) (x1 : Int32) (x2 : Int32) (r0 : Int32), me s0 x1 x2 = some (r0, q1) → Meti l yX6_row (tsU yX6_row cX6_row 6 (some .boolean)) (rm_X6_row d) D N [.ref (N.1 1), .int x1, .int x2] (wC N s0) r0 (wC N q1))  : ∀ (n : Nat) (s0 : St) (x2 : Int32) (x3 : Int32), F_X6_negated_45 me n s0 x2 x3 = some (r, z1) → Aw p l e (rm_X6_negated d) s m args below meth c Q D A 4 (wC N s0) 45 [(0, .ref (N.1 1)), (2, .int x2), (3, .int x3)] [] := by
  intro n
  induction n with
  | zero => intro s0 x2 x3 h; cases h
  | succ n ih => intro s0 x2 x3 h; exact T_X6_negated_45_b C hE hme ih s0 x2 x3 h
def F_X6_negated_32 (me : St → Int32 → Int32 → Option (Int32 × St)) (s0 : St) (x1 : Int32) (x2 : Int32) : Option (Int32 × St) :=
  oC (me s0 (3 : Int32) x1) fun w3 =>
  oL w3.1 fun v1 => oL w3.2 fun s2 =>
  if v1 = 0 then (
    some ((0 : Int32), s2))
  else (
    oL (0 : Int32) fun y4 =>
    F_X6_negated_45 me 100000 s2 x2 y4)
set_option maxHeartbeats 4000000 in
set_option maxRecDepth 100000 in
theorem T_X6_negated_32 {r : Int32} {z1 : St} {d : Nat} {me : St → Int32 → Int32 → Option (Int32 × St)} (C : Cx p (rm_X6_negated d) s m args c D A cX6_negated 4 RX6 (rm_X6_negated d) N) (hE : En p l e (rm_X6_negated d) s m args below meth c Q D A cX6_negated .ireturn (wC N z1) [.int r]) (hme : ∀ (s0 q1 : St) (x1 : Int32) (x2 : Int32) (r0 : Int32), me s0 x1 x2 = some (r0, q1) → Meti l yX6_row (tsU yX6_row cX6_row 6 (some .boolean)) (rm_X6_row d) D N [.ref (N.1 1), .int x1, .int x2] (wC N s0) r0 (wC N q1))  (s0 : St) (x1 : Int32) (x2 : Int32) (h : F_X6_negated_32 me s0 x1 x2 = some (r, z1)) : Aw p l e (rm_X6_negated d) s m args below meth c Q D A 4 (wC N s0) 32 [(0, .ref (N.1 1)), (1, .int x1), (2, .int x2)] [] := by
  unfold F_X6_negated_32 at h
  refine aw_aload_n C 0 dX6_negated_32 rfl ?_
  refine aw_iconst (v := 3) C dX6_negated_33 (by decide) ?_
  refine aw_iload_n C 1 dX6_negated_34 rfl ?_
  obtain ⟨⟨v1, s2⟩, cw3, h⟩ := oC_e h
  have h := oL_e (x := s2) rfl (oL_e (x := v1) rfl h)
  refine aw_callVi (n := 2) (As := [.int (3 : Int32), .int x1]) (rest := []) (q0 := 1) C (hme s0 s2 (3 : Int32) x1 v1 cw3) lw_15_11 lw_15_12 lw_15_13 lw_2_1 lw_15_14 rfl rfl (by decide +kernel) ⟨by simp only [rm_X6_negated, rm_X6_row]; omega, by simp only [rm_X6_negated, rm_X6_row]; omega⟩ rfl rfl rfl rfl rfl (Nat.le_of_ble_eq_true rfl) dX6_negated_35 ?_
  refine aw_if_ne (tgt := 43) C dX6_negated_38 (by decide) (fun q => ?_) (fun q => ?_)
  · have h := bq_f q h
    refine aw_iconst (v := 0) C dX6_negated_43 (by decide) ?_
    refine aw_topi (fun y4 ey4 => ?_)
    have h := oL_e ey4 h
    refine aw_istore_n (lv' := [(0, .ref (N.1 1)), (1, .int x1), (2, .int x2), (3, .int y4)]) C [1, 2, 3, 0] dX6_negated_44 rfl (by decide) rfl ?_
    refine aw_sub (lv' := [(0, .ref (N.1 1)), (2, .int x2), (3, .int y4)]) [0, 2, 3] rfl ?_
    exact T_X6_negated_45 C hE hme 100000 s2 x2 y4 h
  · have h := bq_t q h
    refine aw_iconst (v := 0) C dX6_negated_41 (by decide) ?_
    cases h
    exact aw_ret hE dX6_negated_42
def F_X6_negated_2_b (me : St → Int32 → Int32 → Option (Int32 × St)) (k2 : St → Int32 → Int32 → Option (Int32 × St)) (s0 : St) (x1 : Int32) (x2 : Int32) : Option (Int32 × St) :=
  if (64 : Int32) < x2 then (
    F_X6_negated_32 me s0 x1 x2)
  else (
    if (s0.1 6) = (17 : Int32) then (
      oC (f_X6_claimKnot s0) fun w3 =>
      oL w3.1 fun v1 => oL w3.2 fun s2 =>
      if v1 = 0 then (
        some ((0 : Int32), s2))
      else (
        oL (x2 + (1 : Int32)) fun y4 =>
        k2 s2 x1 y4))
    else (
      F_X6_negated_32 me s0 x1 x2))
set_option maxHeartbeats 4000000 in
set_option maxRecDepth 100000 in
theorem T_X6_negated_2_b {r : Int32} {z1 : St} {d : Nat} {me : St → Int32 → Int32 → Option (Int32 × St)} {k2 : St → Int32 → Int32 → Option (Int32 × St)} (C : Cx p (rm_X6_negated d) s m args c D A cX6_negated 4 RX6 (rm_X6_negated d) N) (hE : En p l e (rm_X6_negated d) s m args below meth c Q D A cX6_negated .ireturn (wC N z1) [.int r]) (hme : ∀ (s0 q1 : St) (x1 : Int32) (x2 : Int32) (r0 : Int32), me s0 x1 x2 = some (r0, q1) → Meti l yX6_row (tsU yX6_row cX6_row 6 (some .boolean)) (rm_X6_row d) D N [.ref (N.1 1), .int x1, .int x2] (wC N s0) r0 (wC N q1)) (hk2 : ∀ (s0 : St) (x1 : Int32) (x2 : Int32), k2 s0 x1 x2 = some (r, z1) → Aw p l e (rm_X6_negated d) s m args below meth c Q D A 4 (wC N s0) 2 [(0, .ref (N.1 1)), (1, .int x1), (2, .int x2)] []) (s0 : St) (x1 : Int32) (x2 : Int32) (h : F_X6_negated_2_b me k2 s0 x1 x2 = some (r, z1)) : Aw p l e (rm_X6_negated d) s m args below meth c Q D A 4 (wC N s0) 2 [(0, .ref (N.1 1)), (1, .int x1), (2, .int x2)] [] := by
  unfold F_X6_negated_2_b at h
  refine aw_iload_n C 2 dX6_negated_2 rfl ?_
  refine aw_bipush (v := 64) C dX6_negated_3 (by decide) ?_
  refine aw_icmp_gt (tgt := 32) C dX6_negated_5 (by decide) (fun q => ?_) (fun q => ?_)
  · have h := bq_t q h
    refine aw_sub (lv' := [(0, .ref (N.1 1)), (1, .int x1), (2, .int x2)]) [0, 1, 2] rfl ?_
    exact T_X6_negated_32 C hE hme s0 x1 x2 h
  · have h := bq_f q h
    refine aw_aload_n C 0 dX6_negated_8 rfl ?_
    refine cg_rd_token C lw_11_7 dX6_negated_9 ?_
    refine aw_bipush (v := 17) C dX6_negated_12 (by decide) ?_
    refine aw_icmp_ne (tgt := 32) C dX6_negated_14 (by decide) (fun q => ?_) (fun q => ?_)
    · have h := bq_f q h
      refine aw_sub (lv' := [(0, .ref (N.1 1)), (1, .int x1), (2, .int x2)]) [0, 1, 2] rfl ?_
      exact T_X6_negated_32 C hE hme s0 x1 x2 h
    · have h := bq_t q h
      refine aw_aload_n C 0 dX6_negated_17 rfl ?_
      obtain ⟨⟨v1, s2⟩, cw3, h⟩ := oC_e h
      have h := oL_e (x := s2) rfl (oL_e (x := v1) rfl h)
      refine aw_callVi (n := 0) (As := []) (rest := []) (q0 := 1) C (c_X6_claimKnot l D N s0 s2 v1 cw3) lw_16_0 lw_16_1 lw_16_2 lw_2_1 lw_16_3 rfl rfl (by decide +kernel) ⟨by simp only [rm_X6_negated, rm_X6_claimKnot]; omega, by simp only [rm_X6_negated, rm_X6_claimKnot]; omega⟩ rfl rfl rfl rfl rfl (Nat.le_of_ble_eq_true rfl) dX6_negated_18 ?_
      refine aw_if_ne (tgt := 26) C dX6_negated_21 (by decide) (fun q => ?_) (fun q => ?_)
      · have h := bq_f q h
        obtain ⟨y4, ey4⟩ : ∃ q : Int32, q = x2 + (1 : Int32) := ⟨_, rfl⟩
        have h := oL_e ey4 h
        refine aw_iinc (v := y4) (k := 2) (lv' := [(0, .ref (N.1 1)), (1, .int x1), (2, .int y4)]) C [1, 2, 0] dX6_negated_26 rfl (by rw [ey4]; rfl) (by decide) rfl ?_
        refine aw_goto (tgt := 2) C dX6_negated_29 (by decide) ?_
        refine aw_sub (lv' := [(0, .ref (N.1 1)), (1, .int x1), (2, .int y4)]) [0, 1, 2] rfl ?_
        exact hk2 s2 x1 y4 h
      · have h := bq_t q h
        refine aw_iconst (v := 0) C dX6_negated_24 (by decide) ?_
        cases h
        exact aw_ret hE dX6_negated_25
def F_X6_negated_2 (me : St → Int32 → Int32 → Option (Int32 × St)) : Nat → St → Int32 → Int32 → Option (Int32 × St)
  | 0 => fun _ _ _ => none
  | n + 1 => F_X6_negated_2_b me (F_X6_negated_2 me n)
theorem T_X6_negated_2 {r : Int32} {z1 : St} {d : Nat} {me : St → Int32 → Int32 → Option (Int32 × St)} (C : Cx p (rm_X6_negated d) s m args c D A cX6_negated 4 RX6 (rm_X6_negated d) N) (hE : En p l e (rm_X6_negated d) s m args below meth c Q D A cX6_negated .ireturn (wC N z1) [.int r]) (hme : ∀ (s0 q1 : St) (x1 : Int32) (x2 : Int32) (r0 : Int32), me s0 x1 x2 = some (r0, q1) → Meti l yX6_row (tsU yX6_row cX6_row 6 (some .boolean)) (rm_X6_row d) D N [.ref (N.1 1), .int x1, .int x2] (wC N s0) r0 (wC N q1))  : ∀ (n : Nat) (s0 : St) (x1 : Int32) (x2 : Int32), F_X6_negated_2 me n s0 x1 x2 = some (r, z1) → Aw p l e (rm_X6_negated d) s m args below meth c Q D A 4 (wC N s0) 2 [(0, .ref (N.1 1)), (1, .int x1), (2, .int x2)] [] := by
  intro n
  induction n with
  | zero => intro s0 x1 x2 h; cases h
  | succ n ih => intro s0 x1 x2 h; exact T_X6_negated_2_b C hE hme ih s0 x1 x2 h
def F_X6_negated_0 (me : St → Int32 → Int32 → Option (Int32 × St)) (s0 : St) (x1 : Int32) : Option (Int32 × St) :=
  oL (0 : Int32) fun y1 =>
  F_X6_negated_2 me 100000 s0 x1 y1
set_option maxHeartbeats 4000000 in
set_option maxRecDepth 100000 in
theorem T_X6_negated_0 {r : Int32} {z1 : St} {d : Nat} {me : St → Int32 → Int32 → Option (Int32 × St)} (C : Cx p (rm_X6_negated d) s m args c D A cX6_negated 4 RX6 (rm_X6_negated d) N) (hE : En p l e (rm_X6_negated d) s m args below meth c Q D A cX6_negated .ireturn (wC N z1) [.int r]) (hme : ∀ (s0 q1 : St) (x1 : Int32) (x2 : Int32) (r0 : Int32), me s0 x1 x2 = some (r0, q1) → Meti l yX6_row (tsU yX6_row cX6_row 6 (some .boolean)) (rm_X6_row d) D N [.ref (N.1 1), .int x1, .int x2] (wC N s0) r0 (wC N q1))  (s0 : St) (x1 : Int32) (h : F_X6_negated_0 me s0 x1 = some (r, z1)) : Aw p l e (rm_X6_negated d) s m args below meth c Q D A 4 (wC N s0) 0 [(0, .ref (N.1 1)), (1, .int x1)] [] := by
  unfold F_X6_negated_0 at h
  refine aw_iconst (v := 0) C dX6_negated_0 (by decide) ?_
  refine aw_topi (fun y1 ey1 => ?_)
  have h := oL_e ey1 h
  refine aw_istore_n (lv' := [(0, .ref (N.1 1)), (1, .int x1), (2, .int y1)]) C [1, 2, 0] dX6_negated_1 rfl (by decide) rfl ?_
  refine aw_sub (lv' := [(0, .ref (N.1 1)), (1, .int x1), (2, .int y1)]) [0, 1, 2] rfl ?_
  exact T_X6_negated_2 C hE hme 100000 s0 x1 y1 h
def f_X6_negated (me : St → Int32 → Int32 → Option (Int32 × St)) (s0 : St) (x1 : Int32) : Option (Int32 × St) := oC (F_X6_negated_0 me s0 x1) fun w => oZ w.1 (some w)
theorem c_X6_negated {l : Launch} {D : va_G} {N : Nm} {d : Nat} {me : St → Int32 → Int32 → Option (Int32 × St)} (hme : ∀ (s0 q1 : St) (x1 : Int32) (x2 : Int32) (r0 : Int32), me s0 x1 x2 = some (r0, q1) → Meti l yX6_row (tsU yX6_row cX6_row 6 (some .boolean)) (rm_X6_row d) D N [.ref (N.1 1), .int x1, .int x2] (wC N s0) r0 (wC N q1)) (s0 z1 : St) (x1 : Int32) (r : Int32) (h : f_X6_negated me s0 x1 = some (r, z1)) : Meti l yX6_negated (tsU yX6_negated cX6_negated 4 (some .boolean)) (rm_X6_negated d) D N [.ref (N.1 1), .int x1] (wC N s0) r (wC N z1) := by
  obtain ⟨w, h1, h2⟩ := oC_e h
  obtain ⟨hz, h2⟩ := oZ_e h2
  cases h2
  exact met_z (cc := cX6_negated) (nL := 4) (own := RX6) (by decide) rfl (Nat.le_of_ble_eq_true rfl) (zN hz) (fun p e s m args below meth c Q A C hE => aw_sub [0, 1] rfl (T_X6_negated_0 C hE hme s0 x1 h1))
/-! AwardLine$Reader.part(I)Z -/
def F_X6_part_114 (me : St → Int32 → Int32 → Option (Int32 × St)) (s0 : St) : Option (Int32 × St) :=
  oL (s0.1 6) fun y1 =>
  oL (s0.1 8) fun y2 =>
  oC (f_X6_claimKnot s0) fun w5 =>
  oL w5.1 fun v3 => oL w5.2 fun s4 =>
  if v3 = 0 then (
    some ((0 : Int32), s4))
  else (
    oC (f_X6_emit s4 y1 y2) fun w8 =>
    oL w8 fun s7 =>
    some ((1 : Int32), s7))
set_option maxHeartbeats 4000000 in
set_option maxRecDepth 100000 in
theorem T_X6_part_114 {r : Int32} {z1 : St} {d : Nat} {me : St → Int32 → Int32 → Option (Int32 × St)} (C : Cx p (rm_X6_part d) s m args c D A cX6_part 5 RX6 (rm_X6_part d) N) (hE : En p l e (rm_X6_part d) s m args below meth c Q D A cX6_part .ireturn (wC N z1) [.int r]) (hme : ∀ (s0 q1 : St) (x1 : Int32) (x2 : Int32) (r0 : Int32), me s0 x1 x2 = some (r0, q1) → Meti l yX6_row (tsU yX6_row cX6_row 6 (some .boolean)) (rm_X6_row d) D N [.ref (N.1 1), .int x1, .int x2] (wC N s0) r0 (wC N q1))  (s0 : St) (h : F_X6_part_114 me s0 = some (r, z1)) : Aw p l e (rm_X6_part d) s m args below meth c Q D A 5 (wC N s0) 114 [(0, .ref (N.1 1))] [] := by
  unfold F_X6_part_114 at h
  refine aw_aload_n C 0 dX6_part_114 rfl ?_
  refine cg_rd_token C lw_11_7 dX6_part_115 ?_
  refine aw_topi (fun y1 ey1 => ?_)
  have h := oL_e ey1 h
  refine aw_istore_n (lv' := [(0, .ref (N.1 1)), (3, .int y1)]) C [1, 0] dX6_part_118 rfl (by decide) rfl ?_
  refine aw_aload_n C 0 dX6_part_119 rfl ?_
  refine cg_rd_number C lw_14_9 dX6_part_120 ?_
  refine aw_topi (fun y2 ey2 => ?_)
  have h := oL_e ey2 h
  refine aw_istore (lv' := [(0, .ref (N.1 1)), (3, .int y1), (4, .int y2)]) C [1, 2, 0] dX6_part_123 (by decide) rfl ?_
  refine aw_aload_n C 0 dX6_part_125 rfl ?_
  obtain ⟨⟨v3, s4⟩, cw5, h⟩ := oC_e h
  have h := oL_e (x := s4) rfl (oL_e (x := v3) rfl h)
  refine aw_callVi (n := 0) (As := []) (rest := []) (q0 := 1) C (c_X6_claimKnot l D N s0 s4 v3 cw5) lw_16_0 lw_16_1 lw_16_2 lw_2_1 lw_16_3 rfl rfl (by decide +kernel) ⟨by simp only [rm_X6_part, rm_X6_claimKnot]; omega, by simp only [rm_X6_part, rm_X6_claimKnot]; omega⟩ rfl rfl rfl rfl rfl (Nat.le_of_ble_eq_true rfl) dX6_part_126 ?_
  refine aw_if_ne (tgt := 134) C dX6_part_129 (by decide) (fun q => ?_) (fun q => ?_)
  · have h := bq_f q h
    refine aw_aload_n C 0 dX6_part_134 rfl ?_
    refine aw_iload_n C 1 dX6_part_135 rfl ?_
    refine aw_iload C 2 dX6_part_136 rfl ?_
    obtain ⟨s7, cw8, h⟩ := oC_e h
    have h := oL_e (x := s7) rfl h
    refine aw_callVv (n := 2) (As := [.int y1, .int y2]) (rest := []) (q0 := 1) C (c_X6_emit l D N s4 s7 y1 y2 cw8) lw_16_4 lw_16_5 lw_16_6 lw_2_1 lw_16_7 rfl rfl (by decide +kernel) ⟨by simp only [rm_X6_part, rm_X6_emit]; omega, by simp only [rm_X6_part, rm_X6_emit]; omega⟩ rfl rfl rfl rfl rfl (Nat.le_of_ble_eq_true rfl) dX6_part_138 ?_
    refine aw_iconst (v := 1) C dX6_part_141 (by decide) ?_
    cases h
    exact aw_ret hE dX6_part_142
  · have h := bq_t q h
    refine aw_iconst (v := 0) C dX6_part_132 (by decide) ?_
    cases h
    exact aw_ret hE dX6_part_133
def F_X6_part_94 (me : St → Int32 → Int32 → Option (Int32 × St)) (s0 : St) (x2 : Int32) : Option (Int32 × St) :=
  if x2 = 0 then (
    F_X6_part_114 me s0)
  else (
    if (s0.1 8) ≤ (9999 : Int32) then (
      F_X6_part_114 me s0)
    else (
      oC (f_X6_refuse s0 (2 : Int32)) fun w3 =>
      oL w3.1 fun v1 => oL w3.2 fun s2 =>
      some (v1, s2)))
set_option maxHeartbeats 4000000 in
set_option maxRecDepth 100000 in
theorem T_X6_part_94 {r : Int32} {z1 : St} {d : Nat} {me : St → Int32 → Int32 → Option (Int32 × St)} (C : Cx p (rm_X6_part d) s m args c D A cX6_part 5 RX6 (rm_X6_part d) N) (hE : En p l e (rm_X6_part d) s m args below meth c Q D A cX6_part .ireturn (wC N z1) [.int r]) (hme : ∀ (s0 q1 : St) (x1 : Int32) (x2 : Int32) (r0 : Int32), me s0 x1 x2 = some (r0, q1) → Meti l yX6_row (tsU yX6_row cX6_row 6 (some .boolean)) (rm_X6_row d) D N [.ref (N.1 1), .int x1, .int x2] (wC N s0) r0 (wC N q1))  (s0 : St) (x2 : Int32) (h : F_X6_part_94 me s0 x2 = some (r, z1)) : Aw p l e (rm_X6_part d) s m args below meth c Q D A 5 (wC N s0) 94 [(0, .ref (N.1 1)), (2, .int x2)] [] := by
  unfold F_X6_part_94 at h
  refine aw_iload_n C 1 dX6_part_94 rfl ?_
  refine aw_if_eq (tgt := 114) C dX6_part_95 (by decide) (fun q => ?_) (fun q => ?_)
  · have h := bq_t q h
    refine aw_sub (lv' := [(0, .ref (N.1 1))]) [0] rfl ?_
    exact T_X6_part_114 C hE hme s0 h
  · have h := bq_f q h
    refine aw_aload_n C 0 dX6_part_98 rfl ?_
    refine cg_rd_number C lw_14_9 dX6_part_99 ?_
    refine aw_sipush (v := 9999) C dX6_part_102 (by decide) ?_
    refine aw_icmp_le (tgt := 114) C dX6_part_105 (by decide) (fun q => ?_) (fun q => ?_)
    · have h := bq_t q h
      refine aw_sub (lv' := [(0, .ref (N.1 1))]) [0] rfl ?_
      exact T_X6_part_114 C hE hme s0 h
    · have h := bq_f q h
      refine aw_aload_n C 0 dX6_part_108 rfl ?_
      refine aw_iconst (v := 2) C dX6_part_109 (by decide) ?_
      obtain ⟨⟨v1, s2⟩, cw3, h⟩ := oC_e h
      have h := oL_e (x := s2) rfl (oL_e (x := v1) rfl h)
      refine aw_callVi (n := 1) (As := [.int (2 : Int32)]) (rest := []) (q0 := 1) C (c_X6_refuse l D N s0 s2 (2 : Int32) v1 cw3) lw_15_2 lw_15_3 lw_15_4 lw_2_1 lw_15_5 rfl rfl (by decide +kernel) ⟨by simp only [rm_X6_part, rm_X6_refuse]; omega, by simp only [rm_X6_part, rm_X6_refuse]; omega⟩ rfl rfl rfl rfl rfl (Nat.le_of_ble_eq_true rfl) dX6_part_110 ?_
      cases h
      exact aw_ret hE dX6_part_113
def F_X6_part_88 (me : St → Int32 → Int32 → Option (Int32 × St)) (s0 : St) : Option (Int32 × St) :=
  oC (f_X6_refuse s0 (1 : Int32)) fun w3 =>
  oL w3.1 fun v1 => oL w3.2 fun s2 =>
  some (v1, s2)
set_option maxHeartbeats 4000000 in
set_option maxRecDepth 100000 in
theorem T_X6_part_88 {r : Int32} {z1 : St} {d : Nat} {me : St → Int32 → Int32 → Option (Int32 × St)} (C : Cx p (rm_X6_part d) s m args c D A cX6_part 5 RX6 (rm_X6_part d) N) (hE : En p l e (rm_X6_part d) s m args below meth c Q D A cX6_part .ireturn (wC N z1) [.int r]) (hme : ∀ (s0 q1 : St) (x1 : Int32) (x2 : Int32) (r0 : Int32), me s0 x1 x2 = some (r0, q1) → Meti l yX6_row (tsU yX6_row cX6_row 6 (some .boolean)) (rm_X6_row d) D N [.ref (N.1 1), .int x1, .int x2] (wC N s0) r0 (wC N q1))  (s0 : St) (h : F_X6_part_88 me s0 = some (r, z1)) : Aw p l e (rm_X6_part d) s m args below meth c Q D A 5 (wC N s0) 88 [(0, .ref (N.1 1))] [] := by
  unfold F_X6_part_88 at h
  refine aw_aload_n C 0 dX6_part_88 rfl ?_
  refine aw_iconst (v := 1) C dX6_part_89 (by decide) ?_
  obtain ⟨⟨v1, s2⟩, cw3, h⟩ := oC_e h
  have h := oL_e (x := s2) rfl (oL_e (x := v1) rfl h)
  refine aw_callVi (n := 1) (As := [.int (1 : Int32)]) (rest := []) (q0 := 1) C (c_X6_refuse l D N s0 s2 (1 : Int32) v1 cw3) lw_15_2 lw_15_3 lw_15_4 lw_2_1 lw_15_5 rfl rfl (by decide +kernel) ⟨by simp only [rm_X6_part, rm_X6_refuse]; omega, by simp only [rm_X6_part, rm_X6_refuse]; omega⟩ rfl rfl rfl rfl rfl (Nat.le_of_ble_eq_true rfl) dX6_part_90 ?_
  cases h
  exact aw_ret hE dX6_part_93
def F_X6_part_65 (me : St → Int32 → Int32 → Option (Int32 × St)) (s0 : St) (t0 : Int32) : Option (Int32 × St) :=
  if t0 = 0 then (
    if (s0.1 6) < (11 : Int32) then (
      F_X6_part_88 me s0)
    else (
      if (s0.1 6) ≤ (16 : Int32) then (
        F_X6_part_94 me s0 t0)
      else (
        F_X6_part_88 me s0)))
  else (
    F_X6_part_94 me s0 t0)
set_option maxHeartbeats 4000000 in
set_option maxRecDepth 100000 in
theorem T_X6_part_65 {r : Int32} {z1 : St} {d : Nat} {me : St → Int32 → Int32 → Option (Int32 × St)} (C : Cx p (rm_X6_part d) s m args c D A cX6_part 5 RX6 (rm_X6_part d) N) (hE : En p l e (rm_X6_part d) s m args below meth c Q D A cX6_part .ireturn (wC N z1) [.int r]) (hme : ∀ (s0 q1 : St) (x1 : Int32) (x2 : Int32) (r0 : Int32), me s0 x1 x2 = some (r0, q1) → Meti l yX6_row (tsU yX6_row cX6_row 6 (some .boolean)) (rm_X6_row d) D N [.ref (N.1 1), .int x1, .int x2] (wC N s0) r0 (wC N q1))  (s0 : St) (t0 : Int32) (h : F_X6_part_65 me s0 t0 = some (r, z1)) : Aw p l e (rm_X6_part d) s m args below meth c Q D A 5 (wC N s0) 65 [(0, .ref (N.1 1))] [.int t0] := by
  unfold F_X6_part_65 at h
  refine aw_istore_n (lv' := [(0, .ref (N.1 1)), (2, .int t0)]) C [1, 0] dX6_part_65 rfl (by decide) rfl ?_
  refine aw_iload_n C 1 dX6_part_66 rfl ?_
  refine aw_if_ne (tgt := 94) C dX6_part_67 (by decide) (fun q => ?_) (fun q => ?_)
  · have h := bq_f q h
    refine aw_sub (lv' := [(0, .ref (N.1 1)), (2, .int t0)]) [0, 1] rfl ?_
    exact T_X6_part_94 C hE hme s0 t0 h
  · have h := bq_t q h
    refine aw_aload_n C 0 dX6_part_70 rfl ?_
    refine cg_rd_token C lw_11_7 dX6_part_71 ?_
    refine aw_bipush (v := 11) C dX6_part_74 (by decide) ?_
    refine aw_icmp_lt (tgt := 88) C dX6_part_76 (by decide) (fun q => ?_) (fun q => ?_)
    · have h := bq_t q h
      refine aw_sub (lv' := [(0, .ref (N.1 1))]) [0] rfl ?_
      exact T_X6_part_88 C hE hme s0 h
    · have h := bq_f q h
      refine aw_aload_n C 0 dX6_part_79 rfl ?_
      refine cg_rd_token C lw_11_7 dX6_part_80 ?_
      refine aw_bipush (v := 16) C dX6_part_83 (by decide) ?_
      refine aw_icmp_le (tgt := 94) C dX6_part_85 (by decide) (fun q => ?_) (fun q => ?_)
      · have h := bq_t q h
        refine aw_sub (lv' := [(0, .ref (N.1 1)), (2, .int t0)]) [0, 1] rfl ?_
        exact T_X6_part_94 C hE hme s0 t0 h
      · have h := bq_f q h
        refine aw_sub (lv' := [(0, .ref (N.1 1))]) [0] rfl ?_
        exact T_X6_part_88 C hE hme s0 h
def F_X6_part_50 (me : St → Int32 → Int32 → Option (Int32 × St)) (s0 : St) (t0 : Int32) : Option (Int32 × St) :=
  some (t0, s0)
set_option maxHeartbeats 4000000 in
set_option maxRecDepth 100000 in
theorem T_X6_part_50 {r : Int32} {z1 : St} {d : Nat} {me : St → Int32 → Int32 → Option (Int32 × St)} (C : Cx p (rm_X6_part d) s m args c D A cX6_part 5 RX6 (rm_X6_part d) N) (hE : En p l e (rm_X6_part d) s m args below meth c Q D A cX6_part .ireturn (wC N z1) [.int r]) (hme : ∀ (s0 q1 : St) (x1 : Int32) (x2 : Int32) (r0 : Int32), me s0 x1 x2 = some (r0, q1) → Meti l yX6_row (tsU yX6_row cX6_row 6 (some .boolean)) (rm_X6_row d) D N [.ref (N.1 1), .int x1, .int x2] (wC N s0) r0 (wC N q1))  (s0 : St) (t0 : Int32) (h : F_X6_part_50 me s0 t0 = some (r, z1)) : Aw p l e (rm_X6_part d) s m args below meth c Q D A 5 (wC N s0) 50 [] [.int t0] := by
  unfold F_X6_part_50 at h
  cases h
  exact aw_ret hE dX6_part_50
def F_X6_part_49 (me : St → Int32 → Int32 → Option (Int32 × St)) (s0 : St) : Option (Int32 × St) :=
  F_X6_part_50 me s0 (0 : Int32)
set_option maxHeartbeats 4000000 in
set_option maxRecDepth 100000 in
theorem T_X6_part_49 {r : Int32} {z1 : St} {d : Nat} {me : St → Int32 → Int32 → Option (Int32 × St)} (C : Cx p (rm_X6_part d) s m args c D A cX6_part 5 RX6 (rm_X6_part d) N) (hE : En p l e (rm_X6_part d) s m args below meth c Q D A cX6_part .ireturn (wC N z1) [.int r]) (hme : ∀ (s0 q1 : St) (x1 : Int32) (x2 : Int32) (r0 : Int32), me s0 x1 x2 = some (r0, q1) → Meti l yX6_row (tsU yX6_row cX6_row 6 (some .boolean)) (rm_X6_row d) D N [.ref (N.1 1), .int x1, .int x2] (wC N s0) r0 (wC N q1))  (s0 : St) (h : F_X6_part_49 me s0 = some (r, z1)) : Aw p l e (rm_X6_part d) s m args below meth c Q D A 5 (wC N s0) 49 [] [] := by
  unfold F_X6_part_49 at h
  refine aw_iconst (v := 0) C dX6_part_49 (by decide) ?_
  refine aw_sub (lv' := []) [] rfl ?_
  exact T_X6_part_50 C hE hme s0 (0 : Int32) h
def F_X6_part_0 (me : St → Int32 → Int32 → Option (Int32 × St)) (s0 : St) (x1 : Int32) : Option (Int32 × St) :=
  if (s0.1 6) = (31 : Int32) then (
    if x1 < (8 : Int32) then (
      oC (f_X6_advance s0) fun w3 =>
      oL w3 fun s2 =>
      oC (me s2 (0 : Int32) (x1 + (1 : Int32))) fun w6 =>
      oL w6.1 fun v4 => oL w6.2 fun s5 =>
      if v4 = 0 then (
        F_X6_part_49 me s5)
      else (
        oC (f_X6_pass s5 (32 : Int32)) fun w9 =>
        oL w9.1 fun v7 => oL w9.2 fun s8 =>
        if v7 = 0 then (
          F_X6_part_49 me s8)
        else (
          F_X6_part_50 me s8 (1 : Int32))))
    else (
      oC (f_X6_refuse s0 (2 : Int32)) fun w12 =>
      oL w12.1 fun v10 => oL w12.2 fun s11 =>
      some (v10, s11)))
  else (
    if (s0.1 6) = (20 : Int32) then (
      F_X6_part_65 me s0 (1 : Int32))
    else (
      F_X6_part_65 me s0 (0 : Int32)))
set_option maxHeartbeats 4000000 in
set_option maxRecDepth 100000 in
theorem T_X6_part_0 {r : Int32} {z1 : St} {d : Nat} {me : St → Int32 → Int32 → Option (Int32 × St)} (C : Cx p (rm_X6_part d) s m args c D A cX6_part 5 RX6 (rm_X6_part d) N) (hE : En p l e (rm_X6_part d) s m args below meth c Q D A cX6_part .ireturn (wC N z1) [.int r]) (hme : ∀ (s0 q1 : St) (x1 : Int32) (x2 : Int32) (r0 : Int32), me s0 x1 x2 = some (r0, q1) → Meti l yX6_row (tsU yX6_row cX6_row 6 (some .boolean)) (rm_X6_row d) D N [.ref (N.1 1), .int x1, .int x2] (wC N s0) r0 (wC N q1))  (s0 : St) (x1 : Int32) (h : F_X6_part_0 me s0 x1 = some (r, z1)) : Aw p l e (rm_X6_part d) s m args below meth c Q D A 5 (wC N s0) 0 [(0, .ref (N.1 1)), (1, .int x1)] [] := by
  unfold F_X6_part_0 at h
  refine aw_aload_n C 0 dX6_part_0 rfl ?_
  refine cg_rd_token C lw_11_7 dX6_part_1 ?_
  refine aw_bipush (v := 31) C dX6_part_4 (by decide) ?_
  refine aw_icmp_ne (tgt := 51) C dX6_part_6 (by decide) (fun q => ?_) (fun q => ?_)
  · have h := bq_f q h
    refine aw_aload_n C 0 dX6_part_51 rfl ?_
    refine cg_rd_token C lw_11_7 dX6_part_52 ?_
    refine aw_bipush (v := 20) C dX6_part_55 (by decide) ?_
    refine aw_icmp_ne (tgt := 64) C dX6_part_57 (by decide) (fun q => ?_) (fun q => ?_)
    · have h := bq_f q h
      refine aw_iconst (v := 0) C dX6_part_64 (by decide) ?_
      refine aw_sub (lv' := [(0, .ref (N.1 1))]) [0] rfl ?_
      exact T_X6_part_65 C hE hme s0 (0 : Int32) h
    · have h := bq_t q h
      refine aw_iconst (v := 1) C dX6_part_60 (by decide) ?_
      refine aw_goto (tgt := 65) C dX6_part_61 (by decide) ?_
      refine aw_sub (lv' := [(0, .ref (N.1 1))]) [0] rfl ?_
      exact T_X6_part_65 C hE hme s0 (1 : Int32) h
  · have h := bq_t q h
    refine aw_iload_n C 1 dX6_part_9 rfl ?_
    refine aw_bipush (v := 8) C dX6_part_10 (by decide) ?_
    refine aw_icmp_lt (tgt := 21) C dX6_part_12 (by decide) (fun q => ?_) (fun q => ?_)
    · have h := bq_t q h
      refine aw_aload_n C 0 dX6_part_21 rfl ?_
      obtain ⟨s2, cw3, h⟩ := oC_e h
      have h := oL_e (x := s2) rfl h
      refine aw_callVv (n := 0) (As := []) (rest := []) (q0 := 1) C (c_X6_advance l D N s0 s2 cw3) lw_11_9 lw_11_10 lw_11_11 lw_2_1 lw_11_12 rfl rfl (by decide +kernel) ⟨by simp only [rm_X6_part, rm_X6_advance]; omega, by simp only [rm_X6_part, rm_X6_advance]; omega⟩ rfl rfl rfl rfl rfl (Nat.le_of_ble_eq_true rfl) dX6_part_22 ?_
      refine aw_aload_n C 0 dX6_part_25 rfl ?_
      refine aw_iconst (v := 0) C dX6_part_26 (by decide) ?_
      refine aw_iload_n C 1 dX6_part_27 rfl ?_
      refine aw_iconst (v := 1) C dX6_part_28 (by decide) ?_
      refine aw_iadd C dX6_part_29 ?_
      obtain ⟨⟨v4, s5⟩, cw6, h⟩ := oC_e h
      have h := oL_e (x := s5) rfl (oL_e (x := v4) rfl h)
      refine aw_callVi (n := 2) (As := [.int (0 : Int32), .int (x1 + (1 : Int32))]) (rest := []) (q0 := 1) C (hme s2 s5 (0 : Int32) (x1 + (1 : Int32)) v4 cw6) lw_15_11 lw_15_12 lw_15_13 lw_2_1 lw_15_14 rfl rfl (by decide +kernel) ⟨by simp only [rm_X6_part, rm_X6_row]; omega, by simp only [rm_X6_part, rm_X6_row]; omega⟩ rfl rfl rfl rfl rfl (Nat.le_of_ble_eq_true rfl) dX6_part_30 ?_
      refine aw_if_eq (tgt := 49) C dX6_part_33 (by decide) (fun q => ?_) (fun q => ?_)
      · have h := bq_t q h
        refine aw_sub (lv' := []) [] rfl ?_
        exact T_X6_part_49 C hE hme s5 h
      · have h := bq_f q h
        refine aw_aload_n C 0 dX6_part_36 rfl ?_
        refine aw_bipush (v := 32) C dX6_part_37 (by decide) ?_
        obtain ⟨⟨v7, s8⟩, cw9, h⟩ := oC_e h
        have h := oL_e (x := s8) rfl (oL_e (x := v7) rfl h)
        refine aw_callVi (n := 1) (As := [.int (32 : Int32)]) (rest := []) (q0 := 1) C (c_X6_pass l D N s5 s8 (32 : Int32) v7 cw9) lw_16_13 lw_16_14 lw_16_15 lw_2_1 lw_16_16 rfl rfl (by decide +kernel) ⟨by simp only [rm_X6_part, rm_X6_pass]; omega, by simp only [rm_X6_part, rm_X6_pass]; omega⟩ rfl rfl rfl rfl rfl (Nat.le_of_ble_eq_true rfl) dX6_part_39 ?_
        refine aw_if_eq (tgt := 49) C dX6_part_42 (by decide) (fun q => ?_) (fun q => ?_)
        · have h := bq_t q h
          refine aw_sub (lv' := []) [] rfl ?_
          exact T_X6_part_49 C hE hme s8 h
        · have h := bq_f q h
          refine aw_iconst (v := 1) C dX6_part_45 (by decide) ?_
          refine aw_goto (tgt := 50) C dX6_part_46 (by decide) ?_
          refine aw_sub (lv' := []) [] rfl ?_
          exact T_X6_part_50 C hE hme s8 (1 : Int32) h
    · have h := bq_f q h
      refine aw_aload_n C 0 dX6_part_15 rfl ?_
      refine aw_iconst (v := 2) C dX6_part_16 (by decide) ?_
      obtain ⟨⟨v10, s11⟩, cw12, h⟩ := oC_e h
      have h := oL_e (x := s11) rfl (oL_e (x := v10) rfl h)
      refine aw_callVi (n := 1) (As := [.int (2 : Int32)]) (rest := []) (q0 := 1) C (c_X6_refuse l D N s0 s11 (2 : Int32) v10 cw12) lw_15_2 lw_15_3 lw_15_4 lw_2_1 lw_15_5 rfl rfl (by decide +kernel) ⟨by simp only [rm_X6_part, rm_X6_refuse]; omega, by simp only [rm_X6_part, rm_X6_refuse]; omega⟩ rfl rfl rfl rfl rfl (Nat.le_of_ble_eq_true rfl) dX6_part_17 ?_
      cases h
      exact aw_ret hE dX6_part_20
def f_X6_part (me : St → Int32 → Int32 → Option (Int32 × St)) (s0 : St) (x1 : Int32) : Option (Int32 × St) := oC (F_X6_part_0 me s0 x1) fun w => oZ w.1 (some w)
theorem c_X6_part {l : Launch} {D : va_G} {N : Nm} {d : Nat} {me : St → Int32 → Int32 → Option (Int32 × St)} (hme : ∀ (s0 q1 : St) (x1 : Int32) (x2 : Int32) (r0 : Int32), me s0 x1 x2 = some (r0, q1) → Meti l yX6_row (tsU yX6_row cX6_row 6 (some .boolean)) (rm_X6_row d) D N [.ref (N.1 1), .int x1, .int x2] (wC N s0) r0 (wC N q1)) (s0 z1 : St) (x1 : Int32) (r : Int32) (h : f_X6_part me s0 x1 = some (r, z1)) : Meti l yX6_part (tsU yX6_part cX6_part 5 (some .boolean)) (rm_X6_part d) D N [.ref (N.1 1), .int x1] (wC N s0) r (wC N z1) := by
  obtain ⟨w, h1, h2⟩ := oC_e h
  obtain ⟨hz, h2⟩ := oZ_e h2
  cases h2
  exact met_z (cc := cX6_part) (nL := 5) (own := RX6) (by decide) rfl (Nat.le_of_ble_eq_true rfl) (zN hz) (fun p e s m args below meth c Q A C hE => aw_sub [0, 1] rfl (T_X6_part_0 C hE hme s0 x1 h1))
/-! AwardLine$Reader.row(II)Z -/
def F_X6_row_107 (me : St → Int32 → Int32 → Option (Int32 × St)) (s0 : St) : Option (Int32 × St) :=
  some ((1 : Int32), s0)
set_option maxHeartbeats 4000000 in
set_option maxRecDepth 100000 in
theorem T_X6_row_107 {r : Int32} {z1 : St} {d : Nat} {me : St → Int32 → Int32 → Option (Int32 × St)} (C : Cx p (rm_X6_row (d + 1)) s m args c D A cX6_row 6 RX6 (rm_X6_row (d + 1)) N) (hE : En p l e (rm_X6_row (d + 1)) s m args below meth c Q D A cX6_row .ireturn (wC N z1) [.int r]) (hme : ∀ (s0 q1 : St) (x1 : Int32) (x2 : Int32) (r0 : Int32), me s0 x1 x2 = some (r0, q1) → Meti l yX6_row (tsU yX6_row cX6_row 6 (some .boolean)) (rm_X6_row d) D N [.ref (N.1 1), .int x1, .int x2] (wC N s0) r0 (wC N q1))  (s0 : St) (h : F_X6_row_107 me s0 = some (r, z1)) : Aw p l e (rm_X6_row (d + 1)) s m args below meth c Q D A 6 (wC N s0) 107 [] [] := by
  unfold F_X6_row_107 at h
  refine aw_iconst (v := 1) C dX6_row_107 (by decide) ?_
  cases h
  exact aw_ret hE dX6_row_108
def F_X6_row_92 (me : St → Int32 → Int32 → Option (Int32 × St)) (s0 : St) : Option (Int32 × St) :=
  some ((0 : Int32), s0)
set_option maxHeartbeats 4000000 in
set_option maxRecDepth 100000 in
theorem T_X6_row_92 {r : Int32} {z1 : St} {d : Nat} {me : St → Int32 → Int32 → Option (Int32 × St)} (C : Cx p (rm_X6_row (d + 1)) s m args c D A cX6_row 6 RX6 (rm_X6_row (d + 1)) N) (hE : En p l e (rm_X6_row (d + 1)) s m args below meth c Q D A cX6_row .ireturn (wC N z1) [.int r]) (hme : ∀ (s0 q1 : St) (x1 : Int32) (x2 : Int32) (r0 : Int32), me s0 x1 x2 = some (r0, q1) → Meti l yX6_row (tsU yX6_row cX6_row 6 (some .boolean)) (rm_X6_row d) D N [.ref (N.1 1), .int x1, .int x2] (wC N s0) r0 (wC N q1))  (s0 : St) (h : F_X6_row_92 me s0 = some (r, z1)) : Aw p l e (rm_X6_row (d + 1)) s m args below meth c Q D A 6 (wC N s0) 92 [] [] := by
  unfold F_X6_row_92 at h
  refine aw_iconst (v := 0) C dX6_row_92 (by decide) ?_
  cases h
  exact aw_ret hE dX6_row_93
def F_X6_row_51_b (me : St → Int32 → Int32 → Option (Int32 × St)) (k51 : St → Int32 → Int32 → Int32 → Int32 → Option (Int32 × St)) (s0 : St) (x1 : Int32) (x2 : Int32) (x3 : Int32) (x4 : Int32) : Option (Int32 × St) :=
  if x3 ≤ x4 then (
    F_X6_row_107 me s0)
  else (
    oC (f_X6_rankOf s0 (s0.1 6)) fun w3 =>
    oL w3.1 fun v1 => oL w3.2 fun s2 =>
    if v1 = x1 then (
      oL (s2.1 6) fun y4 =>
      oC (f_X6_claimKnot s2) fun w7 =>
      oL w7.1 fun v5 => oL w7.2 fun s6 =>
      if v5 = 0 then (
        F_X6_row_92 me s6)
      else (
        oC (me s6 (x1 + (1 : Int32)) x2) fun w10 =>
        oL w10.1 fun v8 => oL w10.2 fun s9 =>
        if v8 = 0 then (
          F_X6_row_92 me s9)
        else (
          oC (f_X6_emit s9 y4 (0 : Int32)) fun w13 =>
          oL w13 fun s12 =>
          oL (x4 + (1 : Int32)) fun y14 =>
          k51 s12 x1 x2 x3 y14)))
    else (
      F_X6_row_107 me s2))
set_option maxHeartbeats 4000000 in
set_option maxRecDepth 100000 in
theorem T_X6_row_51_b {r : Int32} {z1 : St} {d : Nat} {me : St → Int32 → Int32 → Option (Int32 × St)} {k51 : St → Int32 → Int32 → Int32 → Int32 → Option (Int32 × St)} (C : Cx p (rm_X6_row (d + 1)) s m args c D A cX6_row 6 RX6 (rm_X6_row (d + 1)) N) (hE : En p l e (rm_X6_row (d + 1)) s m args below meth c Q D A cX6_row .ireturn (wC N z1) [.int r]) (hme : ∀ (s0 q1 : St) (x1 : Int32) (x2 : Int32) (r0 : Int32), me s0 x1 x2 = some (r0, q1) → Meti l yX6_row (tsU yX6_row cX6_row 6 (some .boolean)) (rm_X6_row d) D N [.ref (N.1 1), .int x1, .int x2] (wC N s0) r0 (wC N q1)) (hk51 : ∀ (s0 : St) (x1 : Int32) (x2 : Int32) (x3 : Int32) (x4 : Int32), k51 s0 x1 x2 x3 x4 = some (r, z1) → Aw p l e (rm_X6_row (d + 1)) s m args below meth c Q D A 6 (wC N s0) 51 [(0, .ref (N.1 1)), (1, .int x1), (2, .int x2), (3, .int x3), (4, .int x4)] []) (s0 : St) (x1 : Int32) (x2 : Int32) (x3 : Int32) (x4 : Int32) (h : F_X6_row_51_b me k51 s0 x1 x2 x3 x4 = some (r, z1)) : Aw p l e (rm_X6_row (d + 1)) s m args below meth c Q D A 6 (wC N s0) 51 [(0, .ref (N.1 1)), (1, .int x1), (2, .int x2), (3, .int x3), (4, .int x4)] [] := by
  unfold F_X6_row_51_b at h
  refine aw_iload C 4 dX6_row_51 rfl ?_
  refine aw_iload_n C 3 dX6_row_53 rfl ?_
  refine aw_icmp_ge (tgt := 107) C dX6_row_54 (by decide) (fun q => ?_) (fun q => ?_)
  · have h := bq_t q h
    refine aw_sub (lv' := []) [] rfl ?_
    exact T_X6_row_107 C hE hme s0 h
  · have h := bq_f q h
    refine aw_aload_n C 0 dX6_row_57 rfl ?_
    refine cg_rd_token C lw_11_7 dX6_row_58 ?_
    obtain ⟨⟨v1, s2⟩, cw3, h⟩ := oC_e h
    have h := oL_e (x := s2) rfl (oL_e (x := v1) rfl h)
    refine aw_callSi (n := 1) (As := [.int (s0.1 6)]) (rest := []) C (c_X6_rankOf l D N s0 s2 (s0.1 6) v1 cw3) lw_15_21 lw_15_22 lw_2_1 lw_15_23 rfl rfl (by decide +kernel) ⟨by simp only [rm_X6_row, rm_X6_rankOf]; omega, by simp only [rm_X6_row, rm_X6_rankOf]; omega⟩ rfl rfl (Nat.le_of_ble_eq_true rfl) dX6_row_61 ?_
    refine aw_iload_n C 1 dX6_row_64 rfl ?_
    refine aw_icmp_ne (tgt := 107) C dX6_row_65 (by decide) (fun q => ?_) (fun q => ?_)
    · have h := bq_f q h
      refine aw_sub (lv' := []) [] rfl ?_
      exact T_X6_row_107 C hE hme s2 h
    · have h := bq_t q h
      refine aw_aload_n C 0 dX6_row_68 rfl ?_
      refine cg_rd_token C lw_11_7 dX6_row_69 ?_
      refine aw_topi (fun y4 ey4 => ?_)
      have h := oL_e ey4 h
      refine aw_istore (lv' := [(0, .ref (N.1 1)), (1, .int x1), (2, .int x2), (3, .int x3), (4, .int x4), (5, .int y4)]) C [1, 2, 3, 4, 5, 0] dX6_row_72 (by decide) rfl ?_
      refine aw_aload_n C 0 dX6_row_74 rfl ?_
      obtain ⟨⟨v5, s6⟩, cw7, h⟩ := oC_e h
      have h := oL_e (x := s6) rfl (oL_e (x := v5) rfl h)
      refine aw_callVi (n := 0) (As := []) (rest := []) (q0 := 1) C (c_X6_claimKnot l D N s2 s6 v5 cw7) lw_16_0 lw_16_1 lw_16_2 lw_2_1 lw_16_3 rfl rfl (by decide +kernel) ⟨by simp only [rm_X6_row, rm_X6_claimKnot]; omega, by simp only [rm_X6_row, rm_X6_claimKnot]; omega⟩ rfl rfl rfl rfl rfl (Nat.le_of_ble_eq_true rfl) dX6_row_75 ?_
      refine aw_if_eq (tgt := 92) C dX6_row_78 (by decide) (fun q => ?_) (fun q => ?_)
      · have h := bq_t q h
        refine aw_sub (lv' := []) [] rfl ?_
        exact T_X6_row_92 C hE hme s6 h
      · have h := bq_f q h
        refine aw_aload_n C 0 dX6_row_81 rfl ?_
        refine aw_iload_n C 1 dX6_row_82 rfl ?_
        refine aw_iconst (v := 1) C dX6_row_83 (by decide) ?_
        refine aw_iadd C dX6_row_84 ?_
        refine aw_iload_n C 2 dX6_row_85 rfl ?_
        obtain ⟨⟨v8, s9⟩, cw10, h⟩ := oC_e h
        have h := oL_e (x := s9) rfl (oL_e (x := v8) rfl h)
        refine aw_callVi (n := 2) (As := [.int (x1 + (1 : Int32)), .int x2]) (rest := []) (q0 := 1) C (hme s6 s9 (x1 + (1 : Int32)) x2 v8 cw10) lw_15_11 lw_15_12 lw_15_13 lw_2_1 lw_15_14 rfl rfl (by decide +kernel) ⟨by simp only [rm_X6_row, rm_X6_row]; omega, by simp only [rm_X6_row, rm_X6_row]; omega⟩ rfl rfl rfl rfl rfl (Nat.le_of_ble_eq_true rfl) dX6_row_86 ?_
        refine aw_if_ne (tgt := 94) C dX6_row_89 (by decide) (fun q => ?_) (fun q => ?_)
        · have h := bq_f q h
          refine aw_aload_n C 0 dX6_row_94 rfl ?_
          refine aw_iload C 5 dX6_row_95 rfl ?_
          refine aw_iconst (v := 0) C dX6_row_97 (by decide) ?_
          obtain ⟨s12, cw13, h⟩ := oC_e h
          have h := oL_e (x := s12) rfl h
          refine aw_callVv (n := 2) (As := [.int y4, .int (0 : Int32)]) (rest := []) (q0 := 1) C (c_X6_emit l D N s9 s12 y4 (0 : Int32) cw13) lw_16_4 lw_16_5 lw_16_6 lw_2_1 lw_16_7 rfl rfl (by decide +kernel) ⟨by simp only [rm_X6_row, rm_X6_emit]; omega, by simp only [rm_X6_row, rm_X6_emit]; omega⟩ rfl rfl rfl rfl rfl (Nat.le_of_ble_eq_true rfl) dX6_row_98 ?_
          obtain ⟨y14, ey14⟩ : ∃ q : Int32, q = x4 + (1 : Int32) := ⟨_, rfl⟩
          have h := oL_e ey14 h
          refine aw_iinc (v := y14) (k := 4) (lv' := [(0, .ref (N.1 1)), (1, .int x1), (2, .int x2), (3, .int x3), (4, .int y14), (5, .int y4)]) C [1, 2, 3, 4, 0, 5] dX6_row_101 rfl (by rw [ey14]; rfl) (by decide) rfl ?_
          refine aw_goto (tgt := 51) C dX6_row_104 (by decide) ?_
          refine aw_sub (lv' := [(0, .ref (N.1 1)), (1, .int x1), (2, .int x2), (3, .int x3), (4, .int y14)]) [0, 1, 2, 3, 4] rfl ?_
          exact hk51 s12 x1 x2 x3 y14 h
        · have h := bq_t q h
          refine aw_sub (lv' := []) [] rfl ?_
          exact T_X6_row_92 C hE hme s9 h
def F_X6_row_51 (me : St → Int32 → Int32 → Option (Int32 × St)) : Nat → St → Int32 → Int32 → Int32 → Int32 → Option (Int32 × St)
  | 0 => fun _ _ _ _ _ => none
  | n + 1 => F_X6_row_51_b me (F_X6_row_51 me n)
theorem T_X6_row_51 {r : Int32} {z1 : St} {d : Nat} {me : St → Int32 → Int32 → Option (Int32 × St)} (C : Cx p (rm_X6_row (d + 1)) s m args c D A cX6_row 6 RX6 (rm_X6_row (d + 1)) N) (hE : En p l e (rm_X6_row (d + 1)) s m args below meth c Q D A cX6_row .ireturn (wC N z1) [.int r]) (hme : ∀ (s0 q1 : St) (x1 : Int32) (x2 : Int32) (r0 : Int32), me s0 x1 x2 = some (r0, q1) → Meti l yX6_row (tsU yX6_row cX6_row 6 (some .boolean)) (rm_X6_row d) D N [.ref (N.1 1), .int x1, .int x2] (wC N s0) r0 (wC N q1))  : ∀ (n : Nat) (s0 : St) (x1 : Int32) (x2 : Int32) (x3 : Int32) (x4 : Int32), F_X6_row_51 me n s0 x1 x2 x3 x4 = some (r, z1) → Aw p l e (rm_X6_row (d + 1)) s m args below meth c Q D A 6 (wC N s0) 51 [(0, .ref (N.1 1)), (1, .int x1), (2, .int x2), (3, .int x3), (4, .int x4)] [] := by
  intro n
  induction n with
  | zero => intro s0 x1 x2 x3 x4 h; cases h
  | succ n ih => intro s0 x1 x2 x3 x4 h; exact T_X6_row_51_b C hE hme ih s0 x1 x2 x3 x4 h
def F_X6_row_47 (me : St → Int32 → Int32 → Option (Int32 × St)) (s0 : St) (x1 : Int32) (x2 : Int32) (t0 : Int32) : Option (Int32 × St) :=
  oL (0 : Int32) fun y1 =>
  F_X6_row_51 me 100000 s0 x1 x2 t0 y1
set_option maxHeartbeats 4000000 in
set_option maxRecDepth 100000 in
theorem T_X6_row_47 {r : Int32} {z1 : St} {d : Nat} {me : St → Int32 → Int32 → Option (Int32 × St)} (C : Cx p (rm_X6_row (d + 1)) s m args c D A cX6_row 6 RX6 (rm_X6_row (d + 1)) N) (hE : En p l e (rm_X6_row (d + 1)) s m args below meth c Q D A cX6_row .ireturn (wC N z1) [.int r]) (hme : ∀ (s0 q1 : St) (x1 : Int32) (x2 : Int32) (r0 : Int32), me s0 x1 x2 = some (r0, q1) → Meti l yX6_row (tsU yX6_row cX6_row 6 (some .boolean)) (rm_X6_row d) D N [.ref (N.1 1), .int x1, .int x2] (wC N s0) r0 (wC N q1))  (s0 : St) (x1 : Int32) (x2 : Int32) (t0 : Int32) (h : F_X6_row_47 me s0 x1 x2 t0 = some (r, z1)) : Aw p l e (rm_X6_row (d + 1)) s m args below meth c Q D A 6 (wC N s0) 47 [(0, .ref (N.1 1)), (1, .int x1), (2, .int x2)] [.int t0] := by
  unfold F_X6_row_47 at h
  refine aw_istore_n (lv' := [(0, .ref (N.1 1)), (1, .int x1), (2, .int x2), (3, .int t0)]) C [1, 2, 3, 0] dX6_row_47 rfl (by decide) rfl ?_
  refine aw_iconst (v := 0) C dX6_row_48 (by decide) ?_
  refine aw_topi (fun y1 ey1 => ?_)
  have h := oL_e ey1 h
  refine aw_istore (lv' := [(0, .ref (N.1 1)), (1, .int x1), (2, .int x2), (3, .int t0), (4, .int y1)]) C [1, 2, 3, 4, 0] dX6_row_49 (by decide) rfl ?_
  refine aw_sub (lv' := [(0, .ref (N.1 1)), (1, .int x1), (2, .int x2), (3, .int t0), (4, .int y1)]) [0, 1, 2, 3, 4] rfl ?_
  exact T_X6_row_51 C hE hme 100000 s0 x1 x2 t0 y1 h
def F_X6_row_0 (me : St → Int32 → Int32 → Option (Int32 × St)) (s0 : St) (x1 : Int32) (x2 : Int32) : Option (Int32 × St) :=
  if x1 = (2 : Int32) then (
    oC (f_X6_negated me s0 x2) fun w9 =>
    oL w9.1 fun v7 => oL w9.2 fun s8 =>
    some (v7, s8))
  else (
    if x1 < (6 : Int32) then (
      oC (me s0 (x1 + (1 : Int32)) x2) fun w3 =>
      oL w3.1 fun v1 => oL w3.2 fun s2 =>
      if v1 = 0 then (
        some ((0 : Int32), s2))
      else (
        if x1 = (3 : Int32) then (
          F_X6_row_47 me s2 x1 x2 (1 : Int32))
        else (
          F_X6_row_47 me s2 x1 x2 (65 : Int32))))
    else (
      oC (f_X6_part me s0 x2) fun w6 =>
      oL w6.1 fun v4 => oL w6.2 fun s5 =>
      some (v4, s5)))
set_option maxHeartbeats 4000000 in
set_option maxRecDepth 100000 in
theorem T_X6_row_0 {r : Int32} {z1 : St} {d : Nat} {me : St → Int32 → Int32 → Option (Int32 × St)} (C : Cx p (rm_X6_row (d + 1)) s m args c D A cX6_row 6 RX6 (rm_X6_row (d + 1)) N) (hE : En p l e (rm_X6_row (d + 1)) s m args below meth c Q D A cX6_row .ireturn (wC N z1) [.int r]) (hme : ∀ (s0 q1 : St) (x1 : Int32) (x2 : Int32) (r0 : Int32), me s0 x1 x2 = some (r0, q1) → Meti l yX6_row (tsU yX6_row cX6_row 6 (some .boolean)) (rm_X6_row d) D N [.ref (N.1 1), .int x1, .int x2] (wC N s0) r0 (wC N q1))  (s0 : St) (x1 : Int32) (x2 : Int32) (h : F_X6_row_0 me s0 x1 x2 = some (r, z1)) : Aw p l e (rm_X6_row (d + 1)) s m args below meth c Q D A 6 (wC N s0) 0 [(0, .ref (N.1 1)), (1, .int x1), (2, .int x2)] [] := by
  unfold F_X6_row_0 at h
  refine aw_iload_n C 1 dX6_row_0 rfl ?_
  refine aw_iconst (v := 2) C dX6_row_1 (by decide) ?_
  refine aw_icmp_ne (tgt := 11) C dX6_row_2 (by decide) (fun q => ?_) (fun q => ?_)
  · have h := bq_f q h
    refine aw_iload_n C 1 dX6_row_11 rfl ?_
    refine aw_bipush (v := 6) C dX6_row_12 (by decide) ?_
    refine aw_icmp_lt (tgt := 23) C dX6_row_14 (by decide) (fun q => ?_) (fun q => ?_)
    · have h := bq_t q h
      refine aw_aload_n C 0 dX6_row_23 rfl ?_
      refine aw_iload_n C 1 dX6_row_24 rfl ?_
      refine aw_iconst (v := 1) C dX6_row_25 (by decide) ?_
      refine aw_iadd C dX6_row_26 ?_
      refine aw_iload_n C 2 dX6_row_27 rfl ?_
      obtain ⟨⟨v1, s2⟩, cw3, h⟩ := oC_e h
      have h := oL_e (x := s2) rfl (oL_e (x := v1) rfl h)
      refine aw_callVi (n := 2) (As := [.int (x1 + (1 : Int32)), .int x2]) (rest := []) (q0 := 1) C (hme s0 s2 (x1 + (1 : Int32)) x2 v1 cw3) lw_15_11 lw_15_12 lw_15_13 lw_2_1 lw_15_14 rfl rfl (by decide +kernel) ⟨by simp only [rm_X6_row, rm_X6_row]; omega, by simp only [rm_X6_row, rm_X6_row]; omega⟩ rfl rfl rfl rfl rfl (Nat.le_of_ble_eq_true rfl) dX6_row_28 ?_
      refine aw_if_ne (tgt := 36) C dX6_row_31 (by decide) (fun q => ?_) (fun q => ?_)
      · have h := bq_f q h
        refine aw_iload_n C 1 dX6_row_36 rfl ?_
        refine aw_iconst (v := 3) C dX6_row_37 (by decide) ?_
        refine aw_icmp_ne (tgt := 45) C dX6_row_38 (by decide) (fun q => ?_) (fun q => ?_)
        · have h := bq_f q h
          refine aw_bipush (v := 65) C dX6_row_45 (by decide) ?_
          refine aw_sub (lv' := [(0, .ref (N.1 1)), (1, .int x1), (2, .int x2)]) [0, 1, 2] rfl ?_
          exact T_X6_row_47 C hE hme s2 x1 x2 (65 : Int32) h
        · have h := bq_t q h
          refine aw_iconst (v := 1) C dX6_row_41 (by decide) ?_
          refine aw_goto (tgt := 47) C dX6_row_42 (by decide) ?_
          refine aw_sub (lv' := [(0, .ref (N.1 1)), (1, .int x1), (2, .int x2)]) [0, 1, 2] rfl ?_
          exact T_X6_row_47 C hE hme s2 x1 x2 (1 : Int32) h
      · have h := bq_t q h
        refine aw_iconst (v := 0) C dX6_row_34 (by decide) ?_
        cases h
        exact aw_ret hE dX6_row_35
    · have h := bq_f q h
      refine aw_aload_n C 0 dX6_row_17 rfl ?_
      refine aw_iload_n C 2 dX6_row_18 rfl ?_
      obtain ⟨⟨v4, s5⟩, cw6, h⟩ := oC_e h
      have h := oL_e (x := s5) rfl (oL_e (x := v4) rfl h)
      refine aw_callVi (n := 1) (As := [.int x2]) (rest := []) (q0 := 1) C (c_X6_part hme s0 s5 x2 v4 cw6) lw_15_18 lw_15_19 lw_15_20 lw_2_1 lw_16_12 rfl rfl (by decide +kernel) ⟨by simp only [rm_X6_row, rm_X6_part]; omega, by simp only [rm_X6_row, rm_X6_part]; omega⟩ rfl rfl rfl rfl rfl (Nat.le_of_ble_eq_true rfl) dX6_row_19 ?_
      cases h
      exact aw_ret hE dX6_row_22
  · have h := bq_t q h
    refine aw_aload_n C 0 dX6_row_5 rfl ?_
    refine aw_iload_n C 2 dX6_row_6 rfl ?_
    obtain ⟨⟨v7, s8⟩, cw9, h⟩ := oC_e h
    have h := oL_e (x := s8) rfl (oL_e (x := v7) rfl h)
    refine aw_callVi (n := 1) (As := [.int x2]) (rest := []) (q0 := 1) C (c_X6_negated hme s0 s8 x2 v7 cw9) lw_15_15 lw_15_16 lw_15_17 lw_2_1 lw_16_11 rfl rfl (by decide +kernel) ⟨by simp only [rm_X6_row, rm_X6_negated]; omega, by simp only [rm_X6_row, rm_X6_negated]; omega⟩ rfl rfl rfl rfl rfl (Nat.le_of_ble_eq_true rfl) dX6_row_7 ?_
    cases h
    exact aw_ret hE dX6_row_10
def f_X6_row_o (me : St → Int32 → Int32 → Option (Int32 × St)) (s0 : St) (x1 : Int32) (x2 : Int32) : Option (Int32 × St) := oC (F_X6_row_0 me s0 x1 x2) fun w => oZ w.1 (some w)
def f_X6_row : Nat → St → Int32 → Int32 → Option (Int32 × St)
  | 0 => fun _ _ _ => none
  | d + 1 => f_X6_row_o (f_X6_row d)
theorem c_X6_row_o {l : Launch} {D : va_G} {N : Nm} {d : Nat} {me : St → Int32 → Int32 → Option (Int32 × St)} (hme : ∀ (s0 q1 : St) (x1 : Int32) (x2 : Int32) (r0 : Int32), me s0 x1 x2 = some (r0, q1) → Meti l yX6_row (tsU yX6_row cX6_row 6 (some .boolean)) (rm_X6_row d) D N [.ref (N.1 1), .int x1, .int x2] (wC N s0) r0 (wC N q1)) (s0 z1 : St) (x1 : Int32) (x2 : Int32) (r : Int32) (h : f_X6_row_o me s0 x1 x2 = some (r, z1)) : Meti l yX6_row (tsU yX6_row cX6_row 6 (some .boolean)) (rm_X6_row (d + 1)) D N [.ref (N.1 1), .int x1, .int x2] (wC N s0) r (wC N z1) := by
  obtain ⟨w, h1, h2⟩ := oC_e h
  obtain ⟨hz, h2⟩ := oZ_e h2
  cases h2
  exact met_z (cc := cX6_row) (nL := 6) (own := RX6) (by decide) rfl (Nat.le_of_ble_eq_true rfl) (zN hz) (fun p e s m args below meth c Q A C hE => aw_sub [0, 1, 2] rfl (T_X6_row_0 C hE hme s0 x1 x2 h1))
theorem c_X6_row (d : Nat) (l : Launch) (D : va_G) (N : Nm) : ∀ (s0 z1 : St) (x1 : Int32) (x2 : Int32) (r : Int32) (h : f_X6_row d s0 x1 x2 = some (r, z1)), Meti l yX6_row (tsU yX6_row cX6_row 6 (some .boolean)) (rm_X6_row d) D N [.ref (N.1 1), .int x1, .int x2] (wC N s0) r (wC N z1) := by
  induction d with
  | zero => intro s0 z1 x1 x2 r h; cases h
  | succ d ih => intro s0 z1 x1 x2 r h; exact c_X6_row_o (me := f_X6_row d) ih s0 z1 x1 x2 r h
end WK
