section WK
variable {p : Program} {l : Launch} {e : Env} {s : State} {m : MethodId} {args : Array Value} {below : List Frame} {meth : Method} {c : Code} {Q : State → Prop} {D : va_G} {A : Nat → Prop} {N : Nm}
/-! AwardLine$Exodus.addCandidate(I)I -/
def rm_X2_addCandidate : Room := { frames := 0, cells := 0, slots := 0, locals := 0 }
def F_X2_addCandidate_2_b (k2 : St → Int32 → Int32 → Option (Int32 × St)) (s0 : St) (x1 : Int32) (x2 : Int32) : Option (Int32 × St) :=
  if (s0.1 37) ≤ x2 then (
    if (s0.1 37) < (8 : Int32) then (
      oA (s0.1 37) 8 <|
      oL (sA s0 37 (upd (s0.2.1 37) (Int32.toNatClampNeg (s0.1 37)) x1)) fun s2 =>
      oL (sI s2 37 ((s2.1 37) + (1 : Int32))) fun s3 =>
      some ((s3.1 37) - (1 : Int32), s3))
    else (
      some ((-1 : Int32), s0)))
  else (
    oA x2 8 <|
    if (s0.2.1 37 (Int32.toNatClampNeg x2)) = x1 then (
      some ((-1 : Int32), s0))
    else (
      oL (x2 + (1 : Int32)) fun y5 =>
      k2 s0 x1 y5))
set_option maxHeartbeats 4000000 in
set_option maxRecDepth 100000 in
theorem T_X2_addCandidate_2_b {r : Int32} {z1 : St} {k2 : St → Int32 → Int32 → Option (Int32 × St)} (C : Cx p rm_X2_addCandidate s m args c D A cX2_addCandidate 3 RX2 rm_X2_addCandidate N) (hE : En p l e rm_X2_addCandidate s m args below meth c Q D A cX2_addCandidate .ireturn (wC N z1) [.int r]) (hk2 : ∀ (s0 : St) (x1 : Int32) (x2 : Int32), k2 s0 x1 x2 = some (r, z1) → Aw p l e rm_X2_addCandidate s m args below meth c Q D A 3 (wC N s0) 2 [(0, .ref (N.1 11)), (1, .int x1), (2, .int x2)] []) (s0 : St) (x1 : Int32) (x2 : Int32) (h : F_X2_addCandidate_2_b k2 s0 x1 x2 = some (r, z1)) : Aw p l e rm_X2_addCandidate s m args below meth c Q D A 3 (wC N s0) 2 [(0, .ref (N.1 11)), (1, .int x1), (2, .int x2)] [] := by
  unfold F_X2_addCandidate_2_b at h
  refine aw_iload_n C 2 dX2_addCandidate_2 rfl ?_
  refine aw_aload_n C 0 dX2_addCandidate_3 rfl ?_
  refine cg_ex_candidates C lw_47_21 dX2_addCandidate_4 ?_
  refine aw_icmp_ge (tgt := 28) C dX2_addCandidate_7 (by decide) (fun q => ?_) (fun q => ?_)
  · have h := bq_t q h
    refine aw_aload_n C 0 dX2_addCandidate_28 rfl ?_
    refine cg_ex_candidates C lw_47_21 dX2_addCandidate_29 ?_
    refine aw_bipush (v := 8) C dX2_addCandidate_32 (by decide) ?_
    refine aw_icmp_lt (tgt := 39) C dX2_addCandidate_34 (by decide) (fun q => ?_) (fun q => ?_)
    · have h := bq_t q h
      refine aw_aload_n C 0 dX2_addCandidate_39 rfl ?_
      refine cg_ex_candidate C lw_7_12 dX2_addCandidate_40 ?_
      refine aw_aload_n C 0 dX2_addCandidate_43 rfl ?_
      refine cg_ex_candidates C lw_47_21 dX2_addCandidate_44 ?_
      refine aw_iload_n C 1 dX2_addCandidate_47 rfl ?_
      obtain ⟨q1, h⟩ := oA_e h
      refine ca_iast (k := 37) C (by decide) rfl q1 dX2_addCandidate_48 ?_
      refine ca_name (fun s2 es2 => ?_)
      have h := oL_e es2 h
      refine aw_aload_n C 0 dX2_addCandidate_49 rfl ?_
      refine aw_dup C dX2_addCandidate_50 rfl ?_
      refine cg_ex_candidates C lw_47_21 dX2_addCandidate_51 ?_
      refine aw_iconst (v := 1) C dX2_addCandidate_54 (by decide) ?_
      refine aw_iadd C dX2_addCandidate_55 ?_
      refine cp_ex_candidates C lw_47_21 dX2_addCandidate_56 ?_
      refine ca_name (fun s3 es3 => ?_)
      have h := oL_e es3 h
      refine aw_aload_n C 0 dX2_addCandidate_59 rfl ?_
      refine cg_ex_candidates C lw_47_21 dX2_addCandidate_60 ?_
      refine aw_iconst (v := 1) C dX2_addCandidate_63 (by decide) ?_
      refine aw_isub C dX2_addCandidate_64 ?_
      cases h
      exact aw_ret hE dX2_addCandidate_65
    · have h := bq_f q h
      refine aw_iconst (v := -1) C dX2_addCandidate_37 (by decide) ?_
      cases h
      exact aw_ret hE dX2_addCandidate_38
  · have h := bq_f q h
    refine aw_aload_n C 0 dX2_addCandidate_10 rfl ?_
    refine cg_ex_candidate C lw_7_12 dX2_addCandidate_11 ?_
    refine aw_iload_n C 2 dX2_addCandidate_14 rfl ?_
    obtain ⟨q4, h⟩ := oA_e h
    refine ca_iald (k := 37) C (by decide) rfl q4 dX2_addCandidate_15 ?_
    refine aw_iload_n C 1 dX2_addCandidate_16 rfl ?_
    refine aw_icmp_ne (tgt := 22) C dX2_addCandidate_17 (by decide) (fun q => ?_) (fun q => ?_)
    · have h := bq_f q h
      obtain ⟨y5, ey5⟩ : ∃ q : Int32, q = x2 + (1 : Int32) := ⟨_, rfl⟩
      have h := oL_e ey5 h
      refine aw_iinc (v := y5) (k := 2) (lv' := [(0, .ref (N.1 11)), (1, .int x1), (2, .int y5)]) C [1, 2, 0] dX2_addCandidate_22 rfl (by rw [ey5]; rfl) (by decide) rfl ?_
      refine aw_goto (tgt := 2) C dX2_addCandidate_25 (by decide) ?_
      refine aw_sub (lv' := [(0, .ref (N.1 11)), (1, .int x1), (2, .int y5)]) [0, 1, 2] rfl ?_
      exact hk2 s0 x1 y5 h
    · have h := bq_t q h
      refine aw_iconst (v := -1) C dX2_addCandidate_20 (by decide) ?_
      cases h
      exact aw_ret hE dX2_addCandidate_21
def F_X2_addCandidate_2 : Nat → St → Int32 → Int32 → Option (Int32 × St)
  | 0 => fun _ _ _ => none
  | n + 1 => F_X2_addCandidate_2_b (F_X2_addCandidate_2 n)
theorem T_X2_addCandidate_2 {r : Int32} {z1 : St} (C : Cx p rm_X2_addCandidate s m args c D A cX2_addCandidate 3 RX2 rm_X2_addCandidate N) (hE : En p l e rm_X2_addCandidate s m args below meth c Q D A cX2_addCandidate .ireturn (wC N z1) [.int r])  : ∀ (n : Nat) (s0 : St) (x1 : Int32) (x2 : Int32), F_X2_addCandidate_2 n s0 x1 x2 = some (r, z1) → Aw p l e rm_X2_addCandidate s m args below meth c Q D A 3 (wC N s0) 2 [(0, .ref (N.1 11)), (1, .int x1), (2, .int x2)] [] := by
  intro n
  induction n with
  | zero => intro s0 x1 x2 h; cases h
  | succ n ih => intro s0 x1 x2 h; exact T_X2_addCandidate_2_b C hE ih s0 x1 x2 h
def F_X2_addCandidate_0 (s0 : St) (x1 : Int32) : Option (Int32 × St) :=
  oL (0 : Int32) fun y1 =>
  F_X2_addCandidate_2 100000 s0 x1 y1
set_option maxHeartbeats 4000000 in
set_option maxRecDepth 100000 in
theorem T_X2_addCandidate_0 {r : Int32} {z1 : St} (C : Cx p rm_X2_addCandidate s m args c D A cX2_addCandidate 3 RX2 rm_X2_addCandidate N) (hE : En p l e rm_X2_addCandidate s m args below meth c Q D A cX2_addCandidate .ireturn (wC N z1) [.int r])  (s0 : St) (x1 : Int32) (h : F_X2_addCandidate_0 s0 x1 = some (r, z1)) : Aw p l e rm_X2_addCandidate s m args below meth c Q D A 3 (wC N s0) 0 [(0, .ref (N.1 11)), (1, .int x1)] [] := by
  unfold F_X2_addCandidate_0 at h
  refine aw_iconst (v := 0) C dX2_addCandidate_0 (by decide) ?_
  refine aw_topi (fun y1 ey1 => ?_)
  have h := oL_e ey1 h
  refine aw_istore_n (lv' := [(0, .ref (N.1 11)), (1, .int x1), (2, .int y1)]) C [1, 2, 0] dX2_addCandidate_1 rfl (by decide) rfl ?_
  refine aw_sub (lv' := [(0, .ref (N.1 11)), (1, .int x1), (2, .int y1)]) [0, 1, 2] rfl ?_
  exact T_X2_addCandidate_2 C hE 100000 s0 x1 y1 h
def f_X2_addCandidate (s0 : St) (x1 : Int32) : Option (Int32 × St) := F_X2_addCandidate_0 s0 x1
theorem c_X2_addCandidate (l : Launch) (D : va_G) (N : Nm) (s0 z1 : St) (x1 : Int32) (r : Int32) (h : f_X2_addCandidate s0 x1 = some (r, z1)) : Meti l yX2_addCandidate (tsU yX2_addCandidate cX2_addCandidate 3 (some .int)) rm_X2_addCandidate D N [.ref (N.1 11), .int x1] (wC N s0) r (wC N z1) :=
  met_i (cc := cX2_addCandidate) (nL := 3) (own := RX2) (by decide) rfl (Nat.le_of_ble_eq_true rfl) (fun p e s m args below meth c Q A C hE => aw_sub [0, 1] rfl (T_X2_addCandidate_0 C hE s0 x1 h))
/-! AwardLine$Exodus.agree(LAwardLine$Terms;)V -/
def rm_X2_agree : Room := { frames := 0, cells := 0, slots := 0, locals := 0 }
def F_X2_agree_0 (s0 : St) : Option (St) :=
  oL (sI s0 40 (s0.1 14)) fun s1 =>
  oL (sI s1 41 (s1.1 15)) fun s2 =>
  some s2
set_option maxHeartbeats 4000000 in
set_option maxRecDepth 100000 in
theorem T_X2_agree_0 {z1 : St} (C : Cx p rm_X2_agree s m args c D A cX2_agree 2 RX2 rm_X2_agree N) (hE : En p l e rm_X2_agree s m args below meth c Q D A cX2_agree .return_ (wC N z1) [])  (s0 : St) (h : F_X2_agree_0 s0 = some z1) : Aw p l e rm_X2_agree s m args below meth c Q D A 2 (wC N s0) 0 [(0, .ref (N.1 11)), (1, .ref (N.1 2))] [] := by
  unfold F_X2_agree_0 at h
  refine aw_aload_n C 0 dX2_agree_0 rfl ?_
  refine aw_aload_n C 1 dX2_agree_1 rfl ?_
  refine cg_tc_fear C lw_48_10 dX2_agree_2 ?_
  refine cp_ex_fear C lw_48_11 dX2_agree_5 ?_
  refine ca_name (fun s1 es1 => ?_)
  have h := oL_e es1 h
  refine aw_aload_n C 0 dX2_agree_8 rfl ?_
  refine aw_aload_n C 1 dX2_agree_9 rfl ?_
  refine cg_tc_lose C lw_48_12 dX2_agree_10 ?_
  refine cp_ex_lose C lw_48_13 dX2_agree_13 ?_
  refine ca_name (fun s2 es2 => ?_)
  have h := oL_e es2 h
  cases h
  exact aw_ret hE dX2_agree_16
def f_X2_agree (s0 : St) : Option (St) := F_X2_agree_0 s0
theorem c_X2_agree (l : Launch) (D : va_G) (N : Nm) (s0 z1 : St) (h : f_X2_agree s0 = some z1) : Metv l yX2_agree (tsU yX2_agree cX2_agree 2 none) rm_X2_agree D N [.ref (N.1 11), .ref (N.1 2)] (wC N s0) (wC N z1) :=
  met_v (cc := cX2_agree) (nL := 2) (own := RX2) (by decide) rfl (Nat.le_of_ble_eq_true rfl) (fun p e s m args below meth c Q A C hE => aw_sub [0, 1] rfl (T_X2_agree_0 C hE s0 h))
/-! AwardLine$Exodus.guarded(I)I -/
def rm_X2_guarded : Room := { frames := 0, cells := 0, slots := 0, locals := 0 }
def F_X2_guarded_31 (k4 : St → Int32 → Int32 → Int32 → Option (Int32 × St)) (s0 : St) (x1 : Int32) (x2 : Int32) (x3 : Int32) : Option (Int32 × St) :=
  oL (x3 + (1 : Int32)) fun y1 =>
  k4 s0 x1 x2 y1
set_option maxHeartbeats 4000000 in
set_option maxRecDepth 100000 in
theorem T_X2_guarded_31 {r : Int32} {z1 : St} {k4 : St → Int32 → Int32 → Int32 → Option (Int32 × St)} (C : Cx p rm_X2_guarded s m args c D A cX2_guarded 4 RX2 rm_X2_guarded N) (hE : En p l e rm_X2_guarded s m args below meth c Q D A cX2_guarded .ireturn (wC N z1) [.int r]) (hk4 : ∀ (s0 : St) (x1 : Int32) (x2 : Int32) (x3 : Int32), k4 s0 x1 x2 x3 = some (r, z1) → Aw p l e rm_X2_guarded s m args below meth c Q D A 4 (wC N s0) 4 [(0, .ref (N.1 11)), (1, .int x1), (2, .int x2), (3, .int x3)] []) (s0 : St) (x1 : Int32) (x2 : Int32) (x3 : Int32) (h : F_X2_guarded_31 k4 s0 x1 x2 x3 = some (r, z1)) : Aw p l e rm_X2_guarded s m args below meth c Q D A 4 (wC N s0) 31 [(0, .ref (N.1 11)), (1, .int x1), (2, .int x2), (3, .int x3)] [] := by
  unfold F_X2_guarded_31 at h
  obtain ⟨y1, ey1⟩ : ∃ q : Int32, q = x3 + (1 : Int32) := ⟨_, rfl⟩
  have h := oL_e ey1 h
  refine aw_iinc (v := y1) (k := 3) (lv' := [(0, .ref (N.1 11)), (1, .int x1), (2, .int x2), (3, .int y1)]) C [1, 2, 3, 0] dX2_guarded_31 rfl (by rw [ey1]; rfl) (by decide) rfl ?_
  refine aw_goto (tgt := 4) C dX2_guarded_34 (by decide) ?_
  refine aw_sub (lv' := [(0, .ref (N.1 11)), (1, .int x1), (2, .int x2), (3, .int y1)]) [0, 1, 2, 3] rfl ?_
  exact hk4 s0 x1 x2 y1 h
def F_X2_guarded_4_b (k4 : St → Int32 → Int32 → Int32 → Option (Int32 × St)) (s0 : St) (x1 : Int32) (x2 : Int32) (x3 : Int32) : Option (Int32 × St) :=
  if (s0.1 37) ≤ x3 then (
    some (x2, s0))
  else (
    if (x1 >>> (x3 &&& 31)) &&& (1 : Int32) = 0 then (
      F_X2_guarded_31 k4 s0 x1 x2 x3)
    else (
      oA x3 8 <|
      oL (x2 ||| ((1 : Int32) <<< ((s0.2.1 37 (Int32.toNatClampNeg x3)) &&& 31))) fun y2 =>
      F_X2_guarded_31 k4 s0 x1 y2 x3))
set_option maxHeartbeats 4000000 in
set_option maxRecDepth 100000 in
theorem T_X2_guarded_4_b {r : Int32} {z1 : St} {k4 : St → Int32 → Int32 → Int32 → Option (Int32 × St)} (C : Cx p rm_X2_guarded s m args c D A cX2_guarded 4 RX2 rm_X2_guarded N) (hE : En p l e rm_X2_guarded s m args below meth c Q D A cX2_guarded .ireturn (wC N z1) [.int r]) (hk4 : ∀ (s0 : St) (x1 : Int32) (x2 : Int32) (x3 : Int32), k4 s0 x1 x2 x3 = some (r, z1) → Aw p l e rm_X2_guarded s m args below meth c Q D A 4 (wC N s0) 4 [(0, .ref (N.1 11)), (1, .int x1), (2, .int x2), (3, .int x3)] []) (s0 : St) (x1 : Int32) (x2 : Int32) (x3 : Int32) (h : F_X2_guarded_4_b k4 s0 x1 x2 x3 = some (r, z1)) : Aw p l e rm_X2_guarded s m args below meth c Q D A 4 (wC N s0) 4 [(0, .ref (N.1 11)), (1, .int x1), (2, .int x2), (3, .int x3)] [] := by
  unfold F_X2_guarded_4_b at h
  refine aw_iload_n C 3 dX2_guarded_4 rfl ?_
  refine aw_aload_n C 0 dX2_guarded_5 rfl ?_
  refine cg_ex_candidates C lw_47_21 dX2_guarded_6 ?_
  refine aw_icmp_ge (tgt := 37) C dX2_guarded_9 (by decide) (fun q => ?_) (fun q => ?_)
  · have h := bq_t q h
    refine aw_iload_n C 2 dX2_guarded_37 rfl ?_
    cases h
    exact aw_ret hE dX2_guarded_38
  · have h := bq_f q h
    refine aw_iload_n C 1 dX2_guarded_12 rfl ?_
    refine aw_iload_n C 3 dX2_guarded_13 rfl ?_
    refine aw_ishr C dX2_guarded_14 ?_
    refine aw_iconst (v := 1) C dX2_guarded_15 (by decide) ?_
    refine aw_iand C dX2_guarded_16 ?_
    refine aw_if_eq (tgt := 31) C dX2_guarded_17 (by decide) (fun q => ?_) (fun q => ?_)
    · have h := bq_t q h
      refine aw_sub (lv' := [(0, .ref (N.1 11)), (1, .int x1), (2, .int x2), (3, .int x3)]) [0, 1, 2, 3] rfl ?_
      exact T_X2_guarded_31 C hE hk4 s0 x1 x2 x3 h
    · have h := bq_f q h
      refine aw_iload_n C 2 dX2_guarded_20 rfl ?_
      refine aw_iconst (v := 1) C dX2_guarded_21 (by decide) ?_
      refine aw_aload_n C 0 dX2_guarded_22 rfl ?_
      refine cg_ex_candidate C lw_7_12 dX2_guarded_23 ?_
      refine aw_iload_n C 3 dX2_guarded_26 rfl ?_
      obtain ⟨q1, h⟩ := oA_e h
      refine ca_iald (k := 37) C (by decide) rfl q1 dX2_guarded_27 ?_
      refine aw_ishl C dX2_guarded_28 ?_
      refine aw_ior C dX2_guarded_29 ?_
      refine aw_topi (fun y2 ey2 => ?_)
      have h := oL_e ey2 h
      refine aw_istore_n (lv' := [(0, .ref (N.1 11)), (1, .int x1), (2, .int y2), (3, .int x3)]) C [1, 2, 0, 3] dX2_guarded_30 rfl (by decide) rfl ?_
      refine aw_sub (lv' := [(0, .ref (N.1 11)), (1, .int x1), (2, .int y2), (3, .int x3)]) [0, 1, 2, 3] rfl ?_
      exact T_X2_guarded_31 C hE hk4 s0 x1 y2 x3 h
def F_X2_guarded_4 : Nat → St → Int32 → Int32 → Int32 → Option (Int32 × St)
  | 0 => fun _ _ _ _ => none
  | n + 1 => F_X2_guarded_4_b (F_X2_guarded_4 n)
theorem T_X2_guarded_4 {r : Int32} {z1 : St} (C : Cx p rm_X2_guarded s m args c D A cX2_guarded 4 RX2 rm_X2_guarded N) (hE : En p l e rm_X2_guarded s m args below meth c Q D A cX2_guarded .ireturn (wC N z1) [.int r])  : ∀ (n : Nat) (s0 : St) (x1 : Int32) (x2 : Int32) (x3 : Int32), F_X2_guarded_4 n s0 x1 x2 x3 = some (r, z1) → Aw p l e rm_X2_guarded s m args below meth c Q D A 4 (wC N s0) 4 [(0, .ref (N.1 11)), (1, .int x1), (2, .int x2), (3, .int x3)] [] := by
  intro n
  induction n with
  | zero => intro s0 x1 x2 x3 h; cases h
  | succ n ih => intro s0 x1 x2 x3 h; exact T_X2_guarded_4_b C hE ih s0 x1 x2 x3 h
def F_X2_guarded_0 (s0 : St) (x1 : Int32) : Option (Int32 × St) :=
  oL (0 : Int32) fun y1 =>
  oL (0 : Int32) fun y2 =>
  F_X2_guarded_4 100000 s0 x1 y1 y2
set_option maxHeartbeats 4000000 in
set_option maxRecDepth 100000 in
theorem T_X2_guarded_0 {r : Int32} {z1 : St} (C : Cx p rm_X2_guarded s m args c D A cX2_guarded 4 RX2 rm_X2_guarded N) (hE : En p l e rm_X2_guarded s m args below meth c Q D A cX2_guarded .ireturn (wC N z1) [.int r])  (s0 : St) (x1 : Int32) (h : F_X2_guarded_0 s0 x1 = some (r, z1)) : Aw p l e rm_X2_guarded s m args below meth c Q D A 4 (wC N s0) 0 [(0, .ref (N.1 11)), (1, .int x1)] [] := by
  unfold F_X2_guarded_0 at h
  refine aw_iconst (v := 0) C dX2_guarded_0 (by decide) ?_
  refine aw_topi (fun y1 ey1 => ?_)
  have h := oL_e ey1 h
  refine aw_istore_n (lv' := [(0, .ref (N.1 11)), (1, .int x1), (2, .int y1)]) C [1, 2, 0] dX2_guarded_1 rfl (by decide) rfl ?_
  refine aw_iconst (v := 0) C dX2_guarded_2 (by decide) ?_
  refine aw_topi (fun y2 ey2 => ?_)
  have h := oL_e ey2 h
  refine aw_istore_n (lv' := [(0, .ref (N.1 11)), (1, .int x1), (2, .int y1), (3, .int y2)]) C [1, 2, 3, 0] dX2_guarded_3 rfl (by decide) rfl ?_
  refine aw_sub (lv' := [(0, .ref (N.1 11)), (1, .int x1), (2, .int y1), (3, .int y2)]) [0, 1, 2, 3] rfl ?_
  exact T_X2_guarded_4 C hE 100000 s0 x1 y1 y2 h
def f_X2_guarded (s0 : St) (x1 : Int32) : Option (Int32 × St) := F_X2_guarded_0 s0 x1
theorem c_X2_guarded (l : Launch) (D : va_G) (N : Nm) (s0 z1 : St) (x1 : Int32) (r : Int32) (h : f_X2_guarded s0 x1 = some (r, z1)) : Meti l yX2_guarded (tsU yX2_guarded cX2_guarded 4 (some .int)) rm_X2_guarded D N [.ref (N.1 11), .int x1] (wC N s0) r (wC N z1) :=
  met_i (cc := cX2_guarded) (nL := 4) (own := RX2) (by decide) rfl (Nat.le_of_ble_eq_true rfl) (fun p e s m args below meth c Q A C hE => aw_sub [0, 1] rfl (T_X2_guarded_0 C hE s0 x1 h))
/-! AwardLine$Exodus.towards(II)I -/
def rm_X2_towards : Room := { frames := 2, cells := 0, slots := 0, locals := 40 }
def F_X2_towards_66 (s0 : St) : Option (Int32 × St) :=
  some ((-1 : Int32), s0)
set_option maxHeartbeats 4000000 in
set_option maxRecDepth 100000 in
theorem T_X2_towards_66 {r : Int32} {z1 : St} (C : Cx p rm_X2_towards s m args c D A cX2_towards 7 RX2 rm_X2_towards N) (hE : En p l e rm_X2_towards s m args below meth c Q D A cX2_towards .ireturn (wC N z1) [.int r])  (s0 : St) (h : F_X2_towards_66 s0 = some (r, z1)) : Aw p l e rm_X2_towards s m args below meth c Q D A 7 (wC N s0) 66 [] [] := by
  unfold F_X2_towards_66 at h
  refine aw_iconst (v := -1) C dX2_towards_66 (by decide) ?_
  cases h
  exact aw_ret hE dX2_towards_67
def F_X2_towards_17_b (k17 : St → Int32 → Int32 → Int32 → Option (Int32 × St)) (s0 : St) (x3 : Int32) (x4 : Int32) (x5 : Int32) : Option (Int32 × St) :=
  if (25 : Int32) ≤ x5 then (
    F_X2_towards_66 s0)
  else (
    if x4 = 0 then (
      F_X2_towards_66 s0)
    else (
      oL (x3 &&& x4) fun y1 =>
      if y1 = 0 then (
        oC (f_X4_beside s0 x4) fun w4 =>
        oL w4.1 fun v2 => oL w4.2 fun s3 =>
        oL (x4 ||| v2) fun y5 =>
        oL (x5 + (1 : Int32)) fun y6 =>
        k17 s3 x3 y5 y6)
      else (
        oC (f_X11_leastOf s0 y1) fun w9 =>
        oL w9.1 fun v7 => oL w9.2 fun s8 =>
        some (v7, s8))))
set_option maxHeartbeats 4000000 in
set_option maxRecDepth 100000 in
theorem T_X2_towards_17_b {r : Int32} {z1 : St} {k17 : St → Int32 → Int32 → Int32 → Option (Int32 × St)} (C : Cx p rm_X2_towards s m args c D A cX2_towards 7 RX2 rm_X2_towards N) (hE : En p l e rm_X2_towards s m args below meth c Q D A cX2_towards .ireturn (wC N z1) [.int r]) (hk17 : ∀ (s0 : St) (x3 : Int32) (x4 : Int32) (x5 : Int32), k17 s0 x3 x4 x5 = some (r, z1) → Aw p l e rm_X2_towards s m args below meth c Q D A 7 (wC N s0) 17 [(0, .ref (N.1 11)), (3, .int x3), (4, .int x4), (5, .int x5)] []) (s0 : St) (x3 : Int32) (x4 : Int32) (x5 : Int32) (h : F_X2_towards_17_b k17 s0 x3 x4 x5 = some (r, z1)) : Aw p l e rm_X2_towards s m args below meth c Q D A 7 (wC N s0) 17 [(0, .ref (N.1 11)), (3, .int x3), (4, .int x4), (5, .int x5)] [] := by
  unfold F_X2_towards_17_b at h
  refine aw_iload C 3 dX2_towards_17 rfl ?_
  refine aw_bipush (v := 25) C dX2_towards_19 (by decide) ?_
  refine aw_icmp_ge (tgt := 66) C dX2_towards_21 (by decide) (fun q => ?_) (fun q => ?_)
  · have h := bq_t q h
    refine aw_sub (lv' := []) [] rfl ?_
    exact T_X2_towards_66 C hE s0 h
  · have h := bq_f q h
    refine aw_iload C 2 dX2_towards_24 rfl ?_
    refine aw_if_eq (tgt := 66) C dX2_towards_26 (by decide) (fun q => ?_) (fun q => ?_)
    · have h := bq_t q h
      refine aw_sub (lv' := []) [] rfl ?_
      exact T_X2_towards_66 C hE s0 h
    · have h := bq_f q h
      refine aw_iload_n C 1 dX2_towards_29 rfl ?_
      refine aw_iload C 2 dX2_towards_30 rfl ?_
      refine aw_iand C dX2_towards_32 ?_
      refine aw_topi (fun y1 ey1 => ?_)
      have h := oL_e ey1 h
      refine aw_istore (lv' := [(0, .ref (N.1 11)), (3, .int x3), (4, .int x4), (5, .int x5), (6, .int y1)]) C [1, 2, 3, 4, 0] dX2_towards_33 (by decide) rfl ?_
      refine aw_iload C 4 dX2_towards_35 rfl ?_
      refine aw_if_eq (tgt := 46) C dX2_towards_37 (by decide) (fun q => ?_) (fun q => ?_)
      · have h := bq_t q h
        refine aw_iload C 2 dX2_towards_46 rfl ?_
        refine aw_aload_n C 0 dX2_towards_48 rfl ?_
        refine cg_ex_land C lw_7_18 dX2_towards_49 ?_
        refine aw_iload C 2 dX2_towards_52 rfl ?_
        obtain ⟨⟨v2, s3⟩, cw4, h⟩ := oC_e h
        have h := oL_e (x := s3) rfl (oL_e (x := v2) rfl h)
        refine aw_callVi (n := 1) (As := [.int x4]) (rest := [.int x4]) (q0 := 4) C (c_X4_beside l D N s0 s3 x4 v2 cw4) lw_49_5 lw_38_8 lw_38_9 lw_1_15 lw_38_10 rfl rfl (by decide +kernel) ⟨Nat.le_of_ble_eq_true rfl, Nat.le_of_ble_eq_true rfl⟩ rfl rfl rfl rfl rfl (Nat.le_of_ble_eq_true rfl) dX2_towards_54 ?_
        refine aw_ior C dX2_towards_57 ?_
        refine aw_topi (fun y5 ey5 => ?_)
        have h := oL_e ey5 h
        refine aw_istore (lv' := [(0, .ref (N.1 11)), (3, .int x3), (4, .int y5), (5, .int x5), (6, .int y1)]) C [1, 2, 0, 3, 4] dX2_towards_58 (by decide) rfl ?_
        obtain ⟨y6, ey6⟩ : ∃ q : Int32, q = x5 + (1 : Int32) := ⟨_, rfl⟩
        have h := oL_e ey6 h
        refine aw_iinc (v := y6) (k := 3) (lv' := [(0, .ref (N.1 11)), (3, .int x3), (4, .int y5), (5, .int y6), (6, .int y1)]) C [1, 2, 3, 0, 4] dX2_towards_60 rfl (by rw [ey6]; rfl) (by decide) rfl ?_
        refine aw_goto (tgt := 17) C dX2_towards_63 (by decide) ?_
        refine aw_sub (lv' := [(0, .ref (N.1 11)), (3, .int x3), (4, .int y5), (5, .int y6)]) [0, 1, 2, 3] rfl ?_
        exact hk17 s3 x3 y5 y6 h
      · have h := bq_f q h
        refine aw_iload C 4 dX2_towards_40 rfl ?_
        obtain ⟨⟨v7, s8⟩, cw9, h⟩ := oC_e h
        have h := oL_e (x := s8) rfl (oL_e (x := v7) rfl h)
        refine aw_callSNi (n := 1) (host := "AwardLine") (As := [.int y1]) (rest := []) C (c_X11_leastOf l D N s0 s8 y1 v7 cw9) (by decide +kernel) lw_49_6 lw_1_2 lw_49_7 rfl rfl (by decide +kernel) ⟨Nat.le_of_ble_eq_true rfl, Nat.le_of_ble_eq_true rfl⟩ rfl rfl (Nat.le_of_ble_eq_true rfl) dX2_towards_42 ?_
        cases h
        exact aw_ret hE dX2_towards_45
def F_X2_towards_17 : Nat → St → Int32 → Int32 → Int32 → Option (Int32 × St)
  | 0 => fun _ _ _ _ => none
  | n + 1 => F_X2_towards_17_b (F_X2_towards_17 n)
theorem T_X2_towards_17 {r : Int32} {z1 : St} (C : Cx p rm_X2_towards s m args c D A cX2_towards 7 RX2 rm_X2_towards N) (hE : En p l e rm_X2_towards s m args below meth c Q D A cX2_towards .ireturn (wC N z1) [.int r])  : ∀ (n : Nat) (s0 : St) (x3 : Int32) (x4 : Int32) (x5 : Int32), F_X2_towards_17 n s0 x3 x4 x5 = some (r, z1) → Aw p l e rm_X2_towards s m args below meth c Q D A 7 (wC N s0) 17 [(0, .ref (N.1 11)), (3, .int x3), (4, .int x4), (5, .int x5)] [] := by
  intro n
  induction n with
  | zero => intro s0 x3 x4 x5 h; cases h
  | succ n ih => intro s0 x3 x4 x5 h; exact T_X2_towards_17_b C hE ih s0 x3 x4 x5 h
def F_X2_towards_0 (s0 : St) (x1 : Int32) (x2 : Int32) : Option (Int32 × St) :=
  oC (f_X4_beside s0 ((1 : Int32) <<< (x1 &&& 31))) fun w3 =>
  oL w3.1 fun v1 => oL w3.2 fun s2 =>
  oL (0 : Int32) fun y4 =>
  F_X2_towards_17 100000 s2 v1 x2 y4
set_option maxHeartbeats 4000000 in
set_option maxRecDepth 100000 in
theorem T_X2_towards_0 {r : Int32} {z1 : St} (C : Cx p rm_X2_towards s m args c D A cX2_towards 7 RX2 rm_X2_towards N) (hE : En p l e rm_X2_towards s m args below meth c Q D A cX2_towards .ireturn (wC N z1) [.int r])  (s0 : St) (x1 : Int32) (x2 : Int32) (h : F_X2_towards_0 s0 x1 x2 = some (r, z1)) : Aw p l e rm_X2_towards s m args below meth c Q D A 7 (wC N s0) 0 [(0, .ref (N.1 11)), (1, .int x1), (2, .int x2)] [] := by
  unfold F_X2_towards_0 at h
  refine aw_aload_n C 0 dX2_towards_0 rfl ?_
  refine cg_ex_land C lw_7_18 dX2_towards_1 ?_
  refine aw_iconst (v := 1) C dX2_towards_4 (by decide) ?_
  refine aw_iload_n C 1 dX2_towards_5 rfl ?_
  refine aw_ishl C dX2_towards_6 ?_
  obtain ⟨⟨v1, s2⟩, cw3, h⟩ := oC_e h
  have h := oL_e (x := s2) rfl (oL_e (x := v1) rfl h)
  refine aw_callVi (n := 1) (As := [.int ((1 : Int32) <<< (x1 &&& 31))]) (rest := []) (q0 := 4) C (c_X4_beside l D N s0 s2 ((1 : Int32) <<< (x1 &&& 31)) v1 cw3) lw_49_5 lw_38_8 lw_38_9 lw_1_15 lw_38_10 rfl rfl (by decide +kernel) ⟨Nat.le_of_ble_eq_true rfl, Nat.le_of_ble_eq_true rfl⟩ rfl rfl rfl rfl rfl (Nat.le_of_ble_eq_true rfl) dX2_towards_7 ?_
  refine aw_istore_n (lv' := [(0, .ref (N.1 11)), (1, .int x1), (2, .int x2), (3, .int v1)]) C [1, 2, 3, 0] dX2_towards_10 rfl (by decide) rfl ?_
  refine aw_iload_n C 2 dX2_towards_11 rfl ?_
  refine aw_istore (lv' := [(0, .ref (N.1 11)), (1, .int x1), (2, .int x2), (3, .int v1), (4, .int x2)]) C [1, 2, 3, 4, 0] dX2_towards_12 (by decide) rfl ?_
  refine aw_iconst (v := 0) C dX2_towards_14 (by decide) ?_
  refine aw_topi (fun y4 ey4 => ?_)
  have h := oL_e ey4 h
  refine aw_istore (lv' := [(0, .ref (N.1 11)), (1, .int x1), (2, .int x2), (3, .int v1), (4, .int x2), (5, .int y4)]) C [1, 2, 3, 4, 5, 0] dX2_towards_15 (by decide) rfl ?_
  refine aw_sub (lv' := [(0, .ref (N.1 11)), (3, .int v1), (4, .int x2), (5, .int y4)]) [0, 3, 4, 5] rfl ?_
  exact T_X2_towards_17 C hE 100000 s2 v1 x2 y4 h
def f_X2_towards (s0 : St) (x1 : Int32) (x2 : Int32) : Option (Int32 × St) := F_X2_towards_0 s0 x1 x2
theorem c_X2_towards (l : Launch) (D : va_G) (N : Nm) (s0 z1 : St) (x1 : Int32) (x2 : Int32) (r : Int32) (h : f_X2_towards s0 x1 x2 = some (r, z1)) : Meti l yX2_towards (tsU yX2_towards cX2_towards 7 (some .int)) rm_X2_towards D N [.ref (N.1 11), .int x1, .int x2] (wC N s0) r (wC N z1) :=
  met_i (cc := cX2_towards) (nL := 7) (own := RX2) (by decide) rfl (Nat.le_of_ble_eq_true rfl) (fun p e s m args below meth c Q A C hE => aw_sub [0, 1, 2] rfl (T_X2_towards_0 C hE s0 x1 x2 h))
/-! AwardLine$Exodus.aim(I[I)V -/
def rm_X2_aim : Room := { frames := 3, cells := 0, slots := 0, locals := 66 }
def F_X2_aim_52 (k2 : St → Int32 → Nat → Int32 → Option (St)) (s0 : St) (x1 : Int32) (x2 : Nat) (x3 : Int32) (t0 : Int32) (t1 : Int32) (t3 : Int32) (t4 : Nat) : Option (St) :=
  oC (f_X2_towards s0 t1 t0) fun w3 =>
  oL w3.1 fun v1 => oL w3.2 fun s2 =>
  oX t4 t3 <|
  oL (sA s2 t4 (upd (s2.2.1 t4) (Int32.toNatClampNeg t3) v1)) fun s5 =>
  oL (x3 + (1 : Int32)) fun y6 =>
  k2 s5 x1 x2 y6
set_option maxHeartbeats 4000000 in
set_option maxRecDepth 100000 in
theorem T_X2_aim_52 {z1 : St} {k2 : St → Int32 → Nat → Int32 → Option (St)} (C : Cx p rm_X2_aim s m args c D A cX2_aim 5 RX2 rm_X2_aim N) (hE : En p l e rm_X2_aim s m args below meth c Q D A cX2_aim .return_ (wC N z1) []) (hk2 : ∀ (s0 : St) (x1 : Int32) (x2 : Nat) (x3 : Int32), k2 s0 x1 x2 x3 = some z1 → Aw p l e rm_X2_aim s m args below meth c Q D A 5 (wC N s0) 2 [(0, .ref (N.1 11)), (1, .int x1), (2, .ref (N.2.1 x2)), (3, .int x3)] []) (s0 : St) (x1 : Int32) (x2 : Nat) (x3 : Int32) (t0 : Int32) (t1 : Int32) (t3 : Int32) (t4 : Nat) (h : F_X2_aim_52 k2 s0 x1 x2 x3 t0 t1 t3 t4 = some z1) : Aw p l e rm_X2_aim s m args below meth c Q D A 5 (wC N s0) 52 [(0, .ref (N.1 11)), (1, .int x1), (2, .ref (N.2.1 x2)), (3, .int x3)] [.int t0, .int t1, .ref (N.1 11), .int t3, .ref (N.2.1 t4)] := by
  unfold F_X2_aim_52 at h
  obtain ⟨⟨v1, s2⟩, cw3, h⟩ := oC_e h
  have h := oL_e (x := s2) rfl (oL_e (x := v1) rfl h)
  refine aw_callVi (n := 2) (As := [.int t1, .int t0]) (rest := [.int t3, .ref (N.2.1 t4)]) (q0 := 11) C (c_X2_towards l D N s0 s2 t1 t0 v1 cw3) lw_49_1 lw_49_2 lw_49_3 lw_3_5 lw_49_4 rfl rfl (by decide +kernel) ⟨Nat.le_of_ble_eq_true rfl, Nat.le_of_ble_eq_true rfl⟩ rfl rfl rfl rfl rfl (Nat.le_of_ble_eq_true rfl) dX2_aim_52 ?_
  obtain ⟨q4a, q4b, q4, h⟩ := oX_e h
  refine ca_iast (k := t4) C q4a q4b q4 dX2_aim_55 ?_
  refine ca_name (fun s5 es5 => ?_)
  have h := oL_e es5 h
  obtain ⟨y6, ey6⟩ : ∃ q : Int32, q = x3 + (1 : Int32) := ⟨_, rfl⟩
  have h := oL_e ey6 h
  refine aw_iinc (v := y6) (k := 3) (lv' := [(0, .ref (N.1 11)), (1, .int x1), (2, .ref (N.2.1 x2)), (3, .int y6)]) C [1, 2, 3, 0] dX2_aim_56 rfl (by rw [ey6]; rfl) (by decide) rfl ?_
  refine aw_goto (tgt := 2) C dX2_aim_59 (by decide) ?_
  refine aw_sub (lv' := [(0, .ref (N.1 11)), (1, .int x1), (2, .ref (N.2.1 x2)), (3, .int y6)]) [0, 1, 2, 3] rfl ?_
  exact hk2 s5 x1 x2 y6 h
def F_X2_aim_26 (k2 : St → Int32 → Nat → Int32 → Option (St)) (s0 : St) (x1 : Int32) (x2 : Nat) (x3 : Int32) (t0 : Int32) : Option (St) :=
  if t0 = 0 then (
    F_X2_aim_52 k2 s0 x1 x2 x3 x1 x3 x3 x2)
  else (
    F_X2_aim_52 k2 s0 x1 x2 x3 ((s0.1 22) &&& (x1 ^^^ (-1 : Int32))) x3 x3 x2)
set_option maxHeartbeats 4000000 in
set_option maxRecDepth 100000 in
theorem T_X2_aim_26 {z1 : St} {k2 : St → Int32 → Nat → Int32 → Option (St)} (C : Cx p rm_X2_aim s m args c D A cX2_aim 5 RX2 rm_X2_aim N) (hE : En p l e rm_X2_aim s m args below meth c Q D A cX2_aim .return_ (wC N z1) []) (hk2 : ∀ (s0 : St) (x1 : Int32) (x2 : Nat) (x3 : Int32), k2 s0 x1 x2 x3 = some z1 → Aw p l e rm_X2_aim s m args below meth c Q D A 5 (wC N s0) 2 [(0, .ref (N.1 11)), (1, .int x1), (2, .ref (N.2.1 x2)), (3, .int x3)] []) (s0 : St) (x1 : Int32) (x2 : Nat) (x3 : Int32) (t0 : Int32) (h : F_X2_aim_26 k2 s0 x1 x2 x3 t0 = some z1) : Aw p l e rm_X2_aim s m args below meth c Q D A 5 (wC N s0) 26 [(0, .ref (N.1 11)), (1, .int x1), (2, .ref (N.2.1 x2)), (3, .int x3)] [.int t0] := by
  unfold F_X2_aim_26 at h
  refine aw_istore (lv' := [(0, .ref (N.1 11)), (1, .int x1), (2, .ref (N.2.1 x2)), (3, .int x3), (4, .int t0)]) C [1, 2, 3, 4, 0] dX2_aim_26 (by decide) rfl ?_
  refine aw_aload_n C 2 dX2_aim_28 rfl ?_
  refine aw_iload_n C 3 dX2_aim_29 rfl ?_
  refine aw_aload_n C 0 dX2_aim_30 rfl ?_
  refine aw_iload_n C 3 dX2_aim_31 rfl ?_
  refine aw_iload C 4 dX2_aim_32 rfl ?_
  refine aw_if_eq (tgt := 51) C dX2_aim_34 (by decide) (fun q => ?_) (fun q => ?_)
  · have h := bq_t q h
    refine aw_iload_n C 1 dX2_aim_51 rfl ?_
    refine aw_sub (lv' := [(0, .ref (N.1 11)), (1, .int x1), (2, .ref (N.2.1 x2)), (3, .int x3)]) [0, 1, 2, 3] rfl ?_
    exact T_X2_aim_52 C hE hk2 s0 x1 x2 x3 x1 x3 x3 x2 h
  · have h := bq_f q h
    refine aw_aload_n C 0 dX2_aim_37 rfl ?_
    refine cg_ex_land C lw_7_18 dX2_aim_38 ?_
    refine cg_ln_all C lw_49_0 dX2_aim_41 ?_
    refine aw_iload_n C 1 dX2_aim_44 rfl ?_
    refine aw_iconst (v := -1) C dX2_aim_45 (by decide) ?_
    refine aw_ixor C dX2_aim_46 ?_
    refine aw_iand C dX2_aim_47 ?_
    refine aw_goto (tgt := 52) C dX2_aim_48 (by decide) ?_
    refine aw_sub (lv' := [(0, .ref (N.1 11)), (1, .int x1), (2, .ref (N.2.1 x2)), (3, .int x3)]) [0, 1, 2, 3] rfl ?_
    exact T_X2_aim_52 C hE hk2 s0 x1 x2 x3 ((s0.1 22) &&& (x1 ^^^ (-1 : Int32))) x3 x3 x2 h
def F_X2_aim_2_b (k2 : St → Int32 → Nat → Int32 → Option (St)) (s0 : St) (x1 : Int32) (x2 : Nat) (x3 : Int32) : Option (St) :=
  if (s0.1 21) ≤ x3 then (
    some s0)
  else (
    if (x1 >>> (x3 &&& 31)) &&& (1 : Int32) = 0 then (
      F_X2_aim_26 k2 s0 x1 x2 x3 (0 : Int32))
    else (
      F_X2_aim_26 k2 s0 x1 x2 x3 (1 : Int32)))
set_option maxHeartbeats 4000000 in
set_option maxRecDepth 100000 in
theorem T_X2_aim_2_b {z1 : St} {k2 : St → Int32 → Nat → Int32 → Option (St)} (C : Cx p rm_X2_aim s m args c D A cX2_aim 5 RX2 rm_X2_aim N) (hE : En p l e rm_X2_aim s m args below meth c Q D A cX2_aim .return_ (wC N z1) []) (hk2 : ∀ (s0 : St) (x1 : Int32) (x2 : Nat) (x3 : Int32), k2 s0 x1 x2 x3 = some z1 → Aw p l e rm_X2_aim s m args below meth c Q D A 5 (wC N s0) 2 [(0, .ref (N.1 11)), (1, .int x1), (2, .ref (N.2.1 x2)), (3, .int x3)] []) (s0 : St) (x1 : Int32) (x2 : Nat) (x3 : Int32) (h : F_X2_aim_2_b k2 s0 x1 x2 x3 = some z1) : Aw p l e rm_X2_aim s m args below meth c Q D A 5 (wC N s0) 2 [(0, .ref (N.1 11)), (1, .int x1), (2, .ref (N.2.1 x2)), (3, .int x3)] [] := by
  unfold F_X2_aim_2_b at h
  refine aw_iload_n C 3 dX2_aim_2 rfl ?_
  refine aw_aload_n C 0 dX2_aim_3 rfl ?_
  refine cg_ex_land C lw_7_18 dX2_aim_4 ?_
  refine cg_ln_size C lw_48_23 dX2_aim_7 ?_
  refine aw_icmp_ge (tgt := 62) C dX2_aim_10 (by decide) (fun q => ?_) (fun q => ?_)
  · have h := bq_t q h
    cases h
    exact aw_ret hE dX2_aim_62
  · have h := bq_f q h
    refine aw_iload_n C 1 dX2_aim_13 rfl ?_
    refine aw_iload_n C 3 dX2_aim_14 rfl ?_
    refine aw_ishr C dX2_aim_15 ?_
    refine aw_iconst (v := 1) C dX2_aim_16 (by decide) ?_
    refine aw_iand C dX2_aim_17 ?_
    refine aw_if_eq (tgt := 25) C dX2_aim_18 (by decide) (fun q => ?_) (fun q => ?_)
    · have h := bq_t q h
      refine aw_iconst (v := 0) C dX2_aim_25 (by decide) ?_
      refine aw_sub (lv' := [(0, .ref (N.1 11)), (1, .int x1), (2, .ref (N.2.1 x2)), (3, .int x3)]) [0, 1, 2, 3] rfl ?_
      exact T_X2_aim_26 C hE hk2 s0 x1 x2 x3 (0 : Int32) h
    · have h := bq_f q h
      refine aw_iconst (v := 1) C dX2_aim_21 (by decide) ?_
      refine aw_goto (tgt := 26) C dX2_aim_22 (by decide) ?_
      refine aw_sub (lv' := [(0, .ref (N.1 11)), (1, .int x1), (2, .ref (N.2.1 x2)), (3, .int x3)]) [0, 1, 2, 3] rfl ?_
      exact T_X2_aim_26 C hE hk2 s0 x1 x2 x3 (1 : Int32) h
def F_X2_aim_2 : Nat → St → Int32 → Nat → Int32 → Option (St)
  | 0 => fun _ _ _ _ => none
  | n + 1 => F_X2_aim_2_b (F_X2_aim_2 n)
theorem T_X2_aim_2 {z1 : St} (C : Cx p rm_X2_aim s m args c D A cX2_aim 5 RX2 rm_X2_aim N) (hE : En p l e rm_X2_aim s m args below meth c Q D A cX2_aim .return_ (wC N z1) [])  : ∀ (n : Nat) (s0 : St) (x1 : Int32) (x2 : Nat) (x3 : Int32), F_X2_aim_2 n s0 x1 x2 x3 = some z1 → Aw p l e rm_X2_aim s m args below meth c Q D A 5 (wC N s0) 2 [(0, .ref (N.1 11)), (1, .int x1), (2, .ref (N.2.1 x2)), (3, .int x3)] [] := by
  intro n
  induction n with
  | zero => intro s0 x1 x2 x3 h; cases h
  | succ n ih => intro s0 x1 x2 x3 h; exact T_X2_aim_2_b C hE ih s0 x1 x2 x3 h
def F_X2_aim_0 (s0 : St) (x1 : Int32) (x2 : Nat) : Option (St) :=
  oL (0 : Int32) fun y1 =>
  F_X2_aim_2 100000 s0 x1 x2 y1
set_option maxHeartbeats 4000000 in
set_option maxRecDepth 100000 in
theorem T_X2_aim_0 {z1 : St} (C : Cx p rm_X2_aim s m args c D A cX2_aim 5 RX2 rm_X2_aim N) (hE : En p l e rm_X2_aim s m args below meth c Q D A cX2_aim .return_ (wC N z1) [])  (s0 : St) (x1 : Int32) (x2 : Nat) (h : F_X2_aim_0 s0 x1 x2 = some z1) : Aw p l e rm_X2_aim s m args below meth c Q D A 5 (wC N s0) 0 [(0, .ref (N.1 11)), (1, .int x1), (2, .ref (N.2.1 x2))] [] := by
  unfold F_X2_aim_0 at h
  refine aw_iconst (v := 0) C dX2_aim_0 (by decide) ?_
  refine aw_topi (fun y1 ey1 => ?_)
  have h := oL_e ey1 h
  refine aw_istore_n (lv' := [(0, .ref (N.1 11)), (1, .int x1), (2, .ref (N.2.1 x2)), (3, .int y1)]) C [1, 2, 3, 0] dX2_aim_1 rfl (by decide) rfl ?_
  refine aw_sub (lv' := [(0, .ref (N.1 11)), (1, .int x1), (2, .ref (N.2.1 x2)), (3, .int y1)]) [0, 1, 2, 3] rfl ?_
  exact T_X2_aim_2 C hE 100000 s0 x1 x2 y1 h
def f_X2_aim (s0 : St) (x1 : Int32) (x2 : Nat) : Option (St) := F_X2_aim_0 s0 x1 x2
theorem c_X2_aim (l : Launch) (D : va_G) (N : Nm) (s0 z1 : St) (x1 : Int32) (x2 : Nat) (h : f_X2_aim s0 x1 x2 = some z1) : Metv l yX2_aim (tsU yX2_aim cX2_aim 5 none) rm_X2_aim D N [.ref (N.1 11), .int x1, .ref (N.2.1 x2)] (wC N s0) (wC N z1) :=
  met_v (cc := cX2_aim) (nL := 5) (own := RX2) (by decide) rfl (Nat.le_of_ble_eq_true rfl) (fun p e s m args below meth c Q A C hE => aw_sub [0, 1, 2] rfl (T_X2_aim_0 C hE s0 x1 x2 h))
/-! AwardLine$Exodus.walkOneDay(I[II)I -/
def rm_X2_walkOneDay : Room := { frames := 1, cells := 0, slots := 0, locals := 23 }
def F_X2_walkOneDay_169_b (k169 : St → Int32 → Int32 → Option (Int32 × St)) (s0 : St) (x4 : Int32) (x5 : Int32) : Option (Int32 × St) :=
  if (s0.1 21) ≤ x5 then (
    some (x4, s0))
  else (
    oA x5 25 <|
    oA x5 25 <|
    oA x5 25 <|
    oL (sA s0 51 (upd (s0.2.1 51) (Int32.toNatClampNeg x5) ((s0.2.1 51 (Int32.toNatClampNeg x5)) + (s0.2.1 53 (Int32.toNatClampNeg x5))))) fun s4 =>
    oL (x5 + (1 : Int32)) fun y5 =>
    k169 s4 x4 y5)
set_option maxHeartbeats 4000000 in
set_option maxRecDepth 100000 in
theorem T_X2_walkOneDay_169_b {r : Int32} {z1 : St} {k169 : St → Int32 → Int32 → Option (Int32 × St)} (C : Cx p rm_X2_walkOneDay s m args c D A cX2_walkOneDay 9 RX2 rm_X2_walkOneDay N) (hE : En p l e rm_X2_walkOneDay s m args below meth c Q D A cX2_walkOneDay .ireturn (wC N z1) [.int r]) (hk169 : ∀ (s0 : St) (x4 : Int32) (x5 : Int32), k169 s0 x4 x5 = some (r, z1) → Aw p l e rm_X2_walkOneDay s m args below meth c Q D A 9 (wC N s0) 169 [(0, .ref (N.1 11)), (4, .int x4), (5, .int x5)] []) (s0 : St) (x4 : Int32) (x5 : Int32) (h : F_X2_walkOneDay_169_b k169 s0 x4 x5 = some (r, z1)) : Aw p l e rm_X2_walkOneDay s m args below meth c Q D A 9 (wC N s0) 169 [(0, .ref (N.1 11)), (4, .int x4), (5, .int x5)] [] := by
  unfold F_X2_walkOneDay_169_b at h
  refine aw_iload C 2 dX2_walkOneDay_169 rfl ?_
  refine aw_aload_n C 0 dX2_walkOneDay_171 rfl ?_
  refine cg_ex_land C lw_7_18 dX2_walkOneDay_172 ?_
  refine cg_ln_size C lw_48_23 dX2_walkOneDay_175 ?_
  refine aw_icmp_ge (tgt := 204) C dX2_walkOneDay_178 (by decide) (fun q => ?_) (fun q => ?_)
  · have h := bq_t q h
    refine aw_iload C 1 dX2_walkOneDay_204 rfl ?_
    cases h
    exact aw_ret hE dX2_walkOneDay_206
  · have h := bq_f q h
    refine aw_aload_n C 0 dX2_walkOneDay_181 rfl ?_
    refine cg_ex_astray C lw_7_15 dX2_walkOneDay_182 ?_
    refine aw_iload C 2 dX2_walkOneDay_185 rfl ?_
    refine aw_dup2 C dX2_walkOneDay_187 rfl rfl ?_
    obtain ⟨q1, h⟩ := oA_e h
    refine ca_iald (k := 51) C (by decide) rfl q1 dX2_walkOneDay_188 ?_
    refine aw_aload_n C 0 dX2_walkOneDay_189 rfl ?_
    refine cg_ex_arriving C lw_7_17 dX2_walkOneDay_190 ?_
    refine aw_iload C 2 dX2_walkOneDay_193 rfl ?_
    obtain ⟨q2, h⟩ := oA_e h
    refine ca_iald (k := 53) C (by decide) rfl q2 dX2_walkOneDay_195 ?_
    refine aw_iadd C dX2_walkOneDay_196 ?_
    obtain ⟨q3, h⟩ := oA_e h
    refine ca_iast (k := 51) C (by decide) rfl q3 dX2_walkOneDay_197 ?_
    refine ca_name (fun s4 es4 => ?_)
    have h := oL_e es4 h
    obtain ⟨y5, ey5⟩ : ∃ q : Int32, q = x5 + (1 : Int32) := ⟨_, rfl⟩
    have h := oL_e ey5 h
    refine aw_iinc (v := y5) (k := 2) (lv' := [(0, .ref (N.1 11)), (4, .int x4), (5, .int y5)]) C [1, 2, 0] dX2_walkOneDay_198 rfl (by rw [ey5]; rfl) (by decide) rfl ?_
    refine aw_goto (tgt := 169) C dX2_walkOneDay_201 (by decide) ?_
    refine aw_sub (lv' := [(0, .ref (N.1 11)), (4, .int x4), (5, .int y5)]) [0, 1, 2] rfl ?_
    exact hk169 s4 x4 y5 h
def F_X2_walkOneDay_169 : Nat → St → Int32 → Int32 → Option (Int32 × St)
  | 0 => fun _ _ _ => none
  | n + 1 => F_X2_walkOneDay_169_b (F_X2_walkOneDay_169 n)
theorem T_X2_walkOneDay_169 {r : Int32} {z1 : St} (C : Cx p rm_X2_walkOneDay s m args c D A cX2_walkOneDay 9 RX2 rm_X2_walkOneDay N) (hE : En p l e rm_X2_walkOneDay s m args below meth c Q D A cX2_walkOneDay .ireturn (wC N z1) [.int r])  : ∀ (n : Nat) (s0 : St) (x4 : Int32) (x5 : Int32), F_X2_walkOneDay_169 n s0 x4 x5 = some (r, z1) → Aw p l e rm_X2_walkOneDay s m args below meth c Q D A 9 (wC N s0) 169 [(0, .ref (N.1 11)), (4, .int x4), (5, .int x5)] [] := by
  intro n
  induction n with
  | zero => intro s0 x4 x5 h; cases h
  | succ n ih => intro s0 x4 x5 h; exact T_X2_walkOneDay_169_b C hE ih s0 x4 x5 h
def F_X2_walkOneDay_160 (k14 : St → Int32 → Nat → Int32 → Int32 → Int32 → Option (Int32 × St)) (s0 : St) (x1 : Int32) (x2 : Nat) (x3 : Int32) (x4 : Int32) (x5 : Int32) : Option (Int32 × St) :=
  oL (x5 + (1 : Int32)) fun y1 =>
  k14 s0 x1 x2 x3 x4 y1
set_option maxHeartbeats 4000000 in
set_option maxRecDepth 100000 in
theorem T_X2_walkOneDay_160 {r : Int32} {z1 : St} {k14 : St → Int32 → Nat → Int32 → Int32 → Int32 → Option (Int32 × St)} (C : Cx p rm_X2_walkOneDay s m args c D A cX2_walkOneDay 9 RX2 rm_X2_walkOneDay N) (hE : En p l e rm_X2_walkOneDay s m args below meth c Q D A cX2_walkOneDay .ireturn (wC N z1) [.int r]) (hk14 : ∀ (s0 : St) (x1 : Int32) (x2 : Nat) (x3 : Int32) (x4 : Int32) (x5 : Int32), k14 s0 x1 x2 x3 x4 x5 = some (r, z1) → Aw p l e rm_X2_walkOneDay s m args below meth c Q D A 9 (wC N s0) 14 [(0, .ref (N.1 11)), (1, .int x1), (2, .ref (N.2.1 x2)), (3, .int x3), (4, .int x4), (5, .int x5)] []) (s0 : St) (x1 : Int32) (x2 : Nat) (x3 : Int32) (x4 : Int32) (x5 : Int32) (h : F_X2_walkOneDay_160 k14 s0 x1 x2 x3 x4 x5 = some (r, z1)) : Aw p l e rm_X2_walkOneDay s m args below meth c Q D A 9 (wC N s0) 160 [(0, .ref (N.1 11)), (1, .int x1), (2, .ref (N.2.1 x2)), (3, .int x3), (4, .int x4), (5, .int x5)] [] := by
  unfold F_X2_walkOneDay_160 at h
  obtain ⟨y1, ey1⟩ : ∃ q : Int32, q = x5 + (1 : Int32) := ⟨_, rfl⟩
  have h := oL_e ey1 h
  refine aw_iinc (v := y1) (k := 5) (lv' := [(0, .ref (N.1 11)), (1, .int x1), (2, .ref (N.2.1 x2)), (3, .int x3), (4, .int x4), (5, .int y1)]) C [1, 2, 3, 4, 5, 0] dX2_walkOneDay_160 rfl (by rw [ey1]; rfl) (by decide) rfl ?_
  refine aw_goto (tgt := 14) C dX2_walkOneDay_163 (by decide) ?_
  refine aw_sub (lv' := [(0, .ref (N.1 11)), (1, .int x1), (2, .ref (N.2.1 x2)), (3, .int x3), (4, .int x4), (5, .int y1)]) [0, 1, 2, 3, 4, 5] rfl ?_
  exact hk14 s0 x1 x2 x3 x4 y1 h
def F_X2_walkOneDay_92 (k14 : St → Int32 → Nat → Int32 → Int32 → Int32 → Option (Int32 × St)) (s0 : St) (x1 : Int32) (x2 : Nat) (x3 : Int32) (x4 : Int32) (x5 : Int32) (x6 : Int32) (x7 : Int32) (t0 : Int32) : Option (Int32 × St) :=
  oA x5 25 <|
  oA x5 25 <|
  oL (sA s0 51 (upd (s0.2.1 51) (Int32.toNatClampNeg x5) ((s0.2.1 51 (Int32.toNatClampNeg x5)) - x7))) fun s3 =>
  oL (x4 + t0) fun y4 =>
  if ((x1 >>> (x5 &&& 31)) ^^^ (x1 >>> (x6 &&& 31))) &&& (1 : Int32) = 0 then (
    oA x6 25 <|
    oA x6 25 <|
    oL (sA s3 53 (upd (s3.2.1 53) (Int32.toNatClampNeg x6) ((s3.2.1 53 (Int32.toNatClampNeg x6)) + (x7 - t0)))) fun s10 =>
    F_X2_walkOneDay_160 k14 s10 x1 x2 x3 y4 x5)
  else (
    oA x6 25 <|
    oA x6 25 <|
    oL (sA s3 52 (upd (s3.2.1 52) (Int32.toNatClampNeg x6) ((s3.2.1 52 (Int32.toNatClampNeg x6)) + (x7 - t0)))) fun s7 =>
    F_X2_walkOneDay_160 k14 s7 x1 x2 x3 y4 x5)
set_option maxHeartbeats 4000000 in
set_option maxRecDepth 100000 in
theorem T_X2_walkOneDay_92 {r : Int32} {z1 : St} {k14 : St → Int32 → Nat → Int32 → Int32 → Int32 → Option (Int32 × St)} (C : Cx p rm_X2_walkOneDay s m args c D A cX2_walkOneDay 9 RX2 rm_X2_walkOneDay N) (hE : En p l e rm_X2_walkOneDay s m args below meth c Q D A cX2_walkOneDay .ireturn (wC N z1) [.int r]) (hk14 : ∀ (s0 : St) (x1 : Int32) (x2 : Nat) (x3 : Int32) (x4 : Int32) (x5 : Int32), k14 s0 x1 x2 x3 x4 x5 = some (r, z1) → Aw p l e rm_X2_walkOneDay s m args below meth c Q D A 9 (wC N s0) 14 [(0, .ref (N.1 11)), (1, .int x1), (2, .ref (N.2.1 x2)), (3, .int x3), (4, .int x4), (5, .int x5)] []) (s0 : St) (x1 : Int32) (x2 : Nat) (x3 : Int32) (x4 : Int32) (x5 : Int32) (x6 : Int32) (x7 : Int32) (t0 : Int32) (h : F_X2_walkOneDay_92 k14 s0 x1 x2 x3 x4 x5 x6 x7 t0 = some (r, z1)) : Aw p l e rm_X2_walkOneDay s m args below meth c Q D A 9 (wC N s0) 92 [(0, .ref (N.1 11)), (1, .int x1), (2, .ref (N.2.1 x2)), (3, .int x3), (4, .int x4), (5, .int x5), (6, .int x6), (7, .int x7)] [.int t0] := by
  unfold F_X2_walkOneDay_92 at h
  refine aw_istore (lv' := [(0, .ref (N.1 11)), (1, .int x1), (2, .ref (N.2.1 x2)), (3, .int x3), (4, .int x4), (5, .int x5), (6, .int x6), (7, .int x7), (8, .int t0)]) C [1, 2, 3, 4, 5, 6, 7, 8, 0] dX2_walkOneDay_92 (by decide) rfl ?_
  refine aw_aload_n C 0 dX2_walkOneDay_94 rfl ?_
  refine cg_ex_astray C lw_7_15 dX2_walkOneDay_95 ?_
  refine aw_iload C 5 dX2_walkOneDay_98 rfl ?_
  refine aw_dup2 C dX2_walkOneDay_100 rfl rfl ?_
  obtain ⟨q1, h⟩ := oA_e h
  refine ca_iald (k := 51) C (by decide) rfl q1 dX2_walkOneDay_101 ?_
  refine aw_iload C 7 dX2_walkOneDay_102 rfl ?_
  refine aw_isub C dX2_walkOneDay_104 ?_
  obtain ⟨q2, h⟩ := oA_e h
  refine ca_iast (k := 51) C (by decide) rfl q2 dX2_walkOneDay_105 ?_
  refine ca_name (fun s3 es3 => ?_)
  have h := oL_e es3 h
  refine aw_iload C 4 dX2_walkOneDay_106 rfl ?_
  refine aw_iload C 8 dX2_walkOneDay_108 rfl ?_
  refine aw_iadd C dX2_walkOneDay_110 ?_
  refine aw_topi (fun y4 ey4 => ?_)
  have h := oL_e ey4 h
  refine aw_istore (lv' := [(0, .ref (N.1 11)), (1, .int x1), (2, .ref (N.2.1 x2)), (3, .int x3), (4, .int y4), (5, .int x5), (6, .int x6), (7, .int x7), (8, .int t0)]) C [1, 2, 3, 4, 0, 5, 6, 7, 8] dX2_walkOneDay_111 (by decide) rfl ?_
  refine aw_iload_n C 1 dX2_walkOneDay_113 rfl ?_
  refine aw_iload C 5 dX2_walkOneDay_114 rfl ?_
  refine aw_ishr C dX2_walkOneDay_116 ?_
  refine aw_iload_n C 1 dX2_walkOneDay_117 rfl ?_
  refine aw_iload C 6 dX2_walkOneDay_118 rfl ?_
  refine aw_ishr C dX2_walkOneDay_120 ?_
  refine aw_ixor C dX2_walkOneDay_121 ?_
  refine aw_iconst (v := 1) C dX2_walkOneDay_122 (by decide) ?_
  refine aw_iand C dX2_walkOneDay_123 ?_
  refine aw_if_ne (tgt := 145) C dX2_walkOneDay_124 (by decide) (fun q => ?_) (fun q => ?_)
  · have h := bq_f q h
    refine aw_aload_n C 0 dX2_walkOneDay_145 rfl ?_
    refine cg_ex_settled C lw_7_16 dX2_walkOneDay_146 ?_
    refine aw_iload C 6 dX2_walkOneDay_149 rfl ?_
    refine aw_dup2 C dX2_walkOneDay_151 rfl rfl ?_
    obtain ⟨q5, h⟩ := oA_e h
    refine ca_iald (k := 52) C (by decide) rfl q5 dX2_walkOneDay_152 ?_
    refine aw_iload C 7 dX2_walkOneDay_153 rfl ?_
    refine aw_iload C 8 dX2_walkOneDay_155 rfl ?_
    refine aw_isub C dX2_walkOneDay_157 ?_
    refine aw_iadd C dX2_walkOneDay_158 ?_
    obtain ⟨q6, h⟩ := oA_e h
    refine ca_iast (k := 52) C (by decide) rfl q6 dX2_walkOneDay_159 ?_
    refine ca_name (fun s7 es7 => ?_)
    have h := oL_e es7 h
    refine aw_sub (lv' := [(0, .ref (N.1 11)), (1, .int x1), (2, .ref (N.2.1 x2)), (3, .int x3), (4, .int y4), (5, .int x5)]) [0, 1, 2, 3, 4, 5] rfl ?_
    exact T_X2_walkOneDay_160 C hE hk14 s7 x1 x2 x3 y4 x5 h
  · have h := bq_t q h
    refine aw_aload_n C 0 dX2_walkOneDay_127 rfl ?_
    refine cg_ex_arriving C lw_7_17 dX2_walkOneDay_128 ?_
    refine aw_iload C 6 dX2_walkOneDay_131 rfl ?_
    refine aw_dup2 C dX2_walkOneDay_133 rfl rfl ?_
    obtain ⟨q8, h⟩ := oA_e h
    refine ca_iald (k := 53) C (by decide) rfl q8 dX2_walkOneDay_134 ?_
    refine aw_iload C 7 dX2_walkOneDay_135 rfl ?_
    refine aw_iload C 8 dX2_walkOneDay_137 rfl ?_
    refine aw_isub C dX2_walkOneDay_139 ?_
    refine aw_iadd C dX2_walkOneDay_140 ?_
    obtain ⟨q9, h⟩ := oA_e h
    refine ca_iast (k := 53) C (by decide) rfl q9 dX2_walkOneDay_141 ?_
    refine ca_name (fun s10 es10 => ?_)
    have h := oL_e es10 h
    refine aw_goto (tgt := 160) C dX2_walkOneDay_142 (by decide) ?_
    refine aw_sub (lv' := [(0, .ref (N.1 11)), (1, .int x1), (2, .ref (N.2.1 x2)), (3, .int x3), (4, .int y4), (5, .int x5)]) [0, 1, 2, 3, 4, 5] rfl ?_
    exact T_X2_walkOneDay_160 C hE hk14 s10 x1 x2 x3 y4 x5 h
def F_X2_walkOneDay_14_b (k14 : St → Int32 → Nat → Int32 → Int32 → Int32 → Option (Int32 × St)) (s0 : St) (x1 : Int32) (x2 : Nat) (x3 : Int32) (x4 : Int32) (x5 : Int32) : Option (Int32 × St) :=
  if (s0.1 21) ≤ x5 then (
    oL (0 : Int32) fun y1 =>
    F_X2_walkOneDay_169 100000 s0 x4 y1)
  else (
    oX x2 x5 <|
    oL (s0.2.1 x2 (Int32.toNatClampNeg x5)) fun y3 =>
    oA x5 25 <|
    if (s0.2.1 51 (Int32.toNatClampNeg x5)) ≤ 0 then (
      F_X2_walkOneDay_160 k14 s0 x1 x2 x3 x4 x5)
    else (
      oC (f_X4_has s0 y3) fun w7 =>
      oL w7.1 fun v5 => oL w7.2 fun s6 =>
      if v5 = 0 then (
        F_X2_walkOneDay_160 k14 s6 x1 x2 x3 x4 x5)
      else (
        oA x5 25 <|
        oC (f_X11_shareUp s6 (s6.2.1 51 (Int32.toNatClampNeg x5)) (s6.1 40)) fun w11 =>
        oL w11.1 fun v9 => oL w11.2 fun s10 =>
        if (x3 >>> (x5 &&& 31)) &&& (1 : Int32) = 0 then (
          oC (f_X11_shareUp s10 v9 (s10.1 41)) fun w14 =>
          oL w14.1 fun v12 => oL w14.2 fun s13 =>
          F_X2_walkOneDay_92 k14 s13 x1 x2 x3 x4 x5 y3 v9 v12)
        else (
          F_X2_walkOneDay_92 k14 s10 x1 x2 x3 x4 x5 y3 v9 (0 : Int32)))))
set_option maxHeartbeats 4000000 in
set_option maxRecDepth 100000 in
theorem T_X2_walkOneDay_14_b {r : Int32} {z1 : St} {k14 : St → Int32 → Nat → Int32 → Int32 → Int32 → Option (Int32 × St)} (C : Cx p rm_X2_walkOneDay s m args c D A cX2_walkOneDay 9 RX2 rm_X2_walkOneDay N) (hE : En p l e rm_X2_walkOneDay s m args below meth c Q D A cX2_walkOneDay .ireturn (wC N z1) [.int r]) (hk14 : ∀ (s0 : St) (x1 : Int32) (x2 : Nat) (x3 : Int32) (x4 : Int32) (x5 : Int32), k14 s0 x1 x2 x3 x4 x5 = some (r, z1) → Aw p l e rm_X2_walkOneDay s m args below meth c Q D A 9 (wC N s0) 14 [(0, .ref (N.1 11)), (1, .int x1), (2, .ref (N.2.1 x2)), (3, .int x3), (4, .int x4), (5, .int x5)] []) (s0 : St) (x1 : Int32) (x2 : Nat) (x3 : Int32) (x4 : Int32) (x5 : Int32) (h : F_X2_walkOneDay_14_b k14 s0 x1 x2 x3 x4 x5 = some (r, z1)) : Aw p l e rm_X2_walkOneDay s m args below meth c Q D A 9 (wC N s0) 14 [(0, .ref (N.1 11)), (1, .int x1), (2, .ref (N.2.1 x2)), (3, .int x3), (4, .int x4), (5, .int x5)] [] := by
  unfold F_X2_walkOneDay_14_b at h
  refine aw_iload C 5 dX2_walkOneDay_14 rfl ?_
  refine aw_aload_n C 0 dX2_walkOneDay_16 rfl ?_
  refine cg_ex_land C lw_7_18 dX2_walkOneDay_17 ?_
  refine cg_ln_size C lw_48_23 dX2_walkOneDay_20 ?_
  refine aw_icmp_ge (tgt := 166) C dX2_walkOneDay_23 (by decide) (fun q => ?_) (fun q => ?_)
  · have h := bq_t q h
    refine aw_iconst (v := 0) C dX2_walkOneDay_166 (by decide) ?_
    refine aw_topi (fun y1 ey1 => ?_)
    have h := oL_e ey1 h
    refine aw_istore (lv' := [(0, .ref (N.1 11)), (1, .int x1), (2, .ref (N.2.1 x2)), (3, .int x3), (4, .int x4), (5, .int y1)]) C [1, 2, 3, 4, 5, 0] dX2_walkOneDay_167 (by decide) rfl ?_
    refine aw_sub (lv' := [(0, .ref (N.1 11)), (4, .int x4), (5, .int y1)]) [0, 4, 5] rfl ?_
    exact T_X2_walkOneDay_169 C hE 100000 s0 x4 y1 h
  · have h := bq_f q h
    refine aw_aload_n C 2 dX2_walkOneDay_26 rfl ?_
    refine aw_iload C 5 dX2_walkOneDay_27 rfl ?_
    obtain ⟨q2a, q2b, q2, h⟩ := oX_e h
    refine ca_iald (k := x2) C q2a q2b q2 dX2_walkOneDay_29 ?_
    refine aw_topi (fun y3 ey3 => ?_)
    have h := oL_e ey3 h
    refine aw_istore (lv' := [(0, .ref (N.1 11)), (1, .int x1), (2, .ref (N.2.1 x2)), (3, .int x3), (4, .int x4), (5, .int x5), (6, .int y3)]) C [1, 2, 3, 4, 5, 6, 0] dX2_walkOneDay_30 (by decide) rfl ?_
    refine aw_aload_n C 0 dX2_walkOneDay_32 rfl ?_
    refine cg_ex_astray C lw_7_15 dX2_walkOneDay_33 ?_
    refine aw_iload C 5 dX2_walkOneDay_36 rfl ?_
    obtain ⟨q4, h⟩ := oA_e h
    refine ca_iald (k := 51) C (by decide) rfl q4 dX2_walkOneDay_38 ?_
    refine aw_if_le (tgt := 160) C dX2_walkOneDay_39 (by decide) (fun q => ?_) (fun q => ?_)
    · have h := bq_t q h
      refine aw_sub (lv' := [(0, .ref (N.1 11)), (1, .int x1), (2, .ref (N.2.1 x2)), (3, .int x3), (4, .int x4), (5, .int x5)]) [0, 1, 2, 3, 4, 5] rfl ?_
      exact T_X2_walkOneDay_160 C hE hk14 s0 x1 x2 x3 x4 x5 h
    · have h := bq_f q h
      refine aw_aload_n C 0 dX2_walkOneDay_42 rfl ?_
      refine cg_ex_land C lw_7_18 dX2_walkOneDay_43 ?_
      refine aw_iload C 6 dX2_walkOneDay_46 rfl ?_
      obtain ⟨⟨v5, s6⟩, cw7, h⟩ := oC_e h
      have h := oL_e (x := s6) rfl (oL_e (x := v5) rfl h)
      refine aw_callVi (n := 1) (As := [.int y3]) (rest := []) (q0 := 4) C (c_X4_has l D N s0 s6 y3 v5 cw7) lw_49_22 lw_23_5 lw_23_6 lw_1_15 lw_23_7 rfl rfl (by decide +kernel) ⟨Nat.le_of_ble_eq_true rfl, Nat.le_of_ble_eq_true rfl⟩ rfl rfl rfl rfl rfl (Nat.le_of_ble_eq_true rfl) dX2_walkOneDay_48 ?_
      refine aw_if_eq (tgt := 160) C dX2_walkOneDay_51 (by decide) (fun q => ?_) (fun q => ?_)
      · have h := bq_t q h
        refine aw_sub (lv' := [(0, .ref (N.1 11)), (1, .int x1), (2, .ref (N.2.1 x2)), (3, .int x3), (4, .int x4), (5, .int x5)]) [0, 1, 2, 3, 4, 5] rfl ?_
        exact T_X2_walkOneDay_160 C hE hk14 s6 x1 x2 x3 x4 x5 h
      · have h := bq_f q h
        refine aw_aload_n C 0 dX2_walkOneDay_54 rfl ?_
        refine cg_ex_astray C lw_7_15 dX2_walkOneDay_55 ?_
        refine aw_iload C 5 dX2_walkOneDay_58 rfl ?_
        obtain ⟨q8, h⟩ := oA_e h
        refine ca_iald (k := 51) C (by decide) rfl q8 dX2_walkOneDay_60 ?_
        refine aw_aload_n C 0 dX2_walkOneDay_61 rfl ?_
        refine cg_ex_fear C lw_48_11 dX2_walkOneDay_62 ?_
        obtain ⟨⟨v9, s10⟩, cw11, h⟩ := oC_e h
        have h := oL_e (x := s10) rfl (oL_e (x := v9) rfl h)
        refine aw_callSNi (n := 2) (host := "AwardLine") (As := [.int (s6.2.1 51 (Int32.toNatClampNeg x5)), .int (s6.1 40)]) (rest := []) C (c_X11_shareUp l D N s6 s10 (s6.2.1 51 (Int32.toNatClampNeg x5)) (s6.1 40) v9 cw11) (by decide +kernel) lw_28_16 lw_1_2 lw_28_17 rfl rfl (by decide +kernel) ⟨Nat.le_of_ble_eq_true rfl, Nat.le_of_ble_eq_true rfl⟩ rfl rfl (Nat.le_of_ble_eq_true rfl) dX2_walkOneDay_65 ?_
        refine aw_istore (lv' := [(0, .ref (N.1 11)), (1, .int x1), (2, .ref (N.2.1 x2)), (3, .int x3), (4, .int x4), (5, .int x5), (6, .int y3), (7, .int v9)]) C [1, 2, 3, 4, 5, 6, 7, 0] dX2_walkOneDay_68 (by decide) rfl ?_
        refine aw_iload_n C 3 dX2_walkOneDay_70 rfl ?_
        refine aw_iload C 5 dX2_walkOneDay_71 rfl ?_
        refine aw_ishr C dX2_walkOneDay_73 ?_
        refine aw_iconst (v := 1) C dX2_walkOneDay_74 (by decide) ?_
        refine aw_iand C dX2_walkOneDay_75 ?_
        refine aw_if_eq (tgt := 83) C dX2_walkOneDay_76 (by decide) (fun q => ?_) (fun q => ?_)
        · have h := bq_t q h
          refine aw_iload C 7 dX2_walkOneDay_83 rfl ?_
          refine aw_aload_n C 0 dX2_walkOneDay_85 rfl ?_
          refine cg_ex_lose C lw_48_13 dX2_walkOneDay_86 ?_
          obtain ⟨⟨v12, s13⟩, cw14, h⟩ := oC_e h
          have h := oL_e (x := s13) rfl (oL_e (x := v12) rfl h)
          refine aw_callSNi (n := 2) (host := "AwardLine") (As := [.int v9, .int (s10.1 41)]) (rest := []) C (c_X11_shareUp l D N s10 s13 v9 (s10.1 41) v12 cw14) (by decide +kernel) lw_28_16 lw_1_2 lw_28_17 rfl rfl (by decide +kernel) ⟨Nat.le_of_ble_eq_true rfl, Nat.le_of_ble_eq_true rfl⟩ rfl rfl (Nat.le_of_ble_eq_true rfl) dX2_walkOneDay_89 ?_
          refine aw_sub (lv' := [(0, .ref (N.1 11)), (1, .int x1), (2, .ref (N.2.1 x2)), (3, .int x3), (4, .int x4), (5, .int x5), (6, .int y3), (7, .int v9)]) [0, 1, 2, 3, 4, 5, 6, 7] rfl ?_
          exact T_X2_walkOneDay_92 C hE hk14 s13 x1 x2 x3 x4 x5 y3 v9 v12 h
        · have h := bq_f q h
          refine aw_iconst (v := 0) C dX2_walkOneDay_79 (by decide) ?_
          refine aw_goto (tgt := 92) C dX2_walkOneDay_80 (by decide) ?_
          refine aw_sub (lv' := [(0, .ref (N.1 11)), (1, .int x1), (2, .ref (N.2.1 x2)), (3, .int x3), (4, .int x4), (5, .int x5), (6, .int y3), (7, .int v9)]) [0, 1, 2, 3, 4, 5, 6, 7] rfl ?_
          exact T_X2_walkOneDay_92 C hE hk14 s10 x1 x2 x3 x4 x5 y3 v9 (0 : Int32) h
def F_X2_walkOneDay_14 : Nat → St → Int32 → Nat → Int32 → Int32 → Int32 → Option (Int32 × St)
  | 0 => fun _ _ _ _ _ _ => none
  | n + 1 => F_X2_walkOneDay_14_b (F_X2_walkOneDay_14 n)
theorem T_X2_walkOneDay_14 {r : Int32} {z1 : St} (C : Cx p rm_X2_walkOneDay s m args c D A cX2_walkOneDay 9 RX2 rm_X2_walkOneDay N) (hE : En p l e rm_X2_walkOneDay s m args below meth c Q D A cX2_walkOneDay .ireturn (wC N z1) [.int r])  : ∀ (n : Nat) (s0 : St) (x1 : Int32) (x2 : Nat) (x3 : Int32) (x4 : Int32) (x5 : Int32), F_X2_walkOneDay_14 n s0 x1 x2 x3 x4 x5 = some (r, z1) → Aw p l e rm_X2_walkOneDay s m args below meth c Q D A 9 (wC N s0) 14 [(0, .ref (N.1 11)), (1, .int x1), (2, .ref (N.2.1 x2)), (3, .int x3), (4, .int x4), (5, .int x5)] [] := by
  intro n
  induction n with
  | zero => intro s0 x1 x2 x3 x4 x5 h; cases h
  | succ n ih => intro s0 x1 x2 x3 x4 x5 h; exact T_X2_walkOneDay_14_b C hE ih s0 x1 x2 x3 x4 x5 h
def F_X2_walkOneDay_0 (s0 : St) (x1 : Int32) (x2 : Nat) (x3 : Int32) : Option (Int32 × St) :=
  oL (0 : Int32) fun y1 =>
  oC (f_J7_fill_53178 s0 53 (0 : Int32)) fun w4 =>
  oL w4 fun s3 =>
  oL (0 : Int32) fun y5 =>
  F_X2_walkOneDay_14 100000 s3 x1 x2 x3 y1 y5
set_option maxHeartbeats 4000000 in
set_option maxRecDepth 100000 in
theorem T_X2_walkOneDay_0 {r : Int32} {z1 : St} (C : Cx p rm_X2_walkOneDay s m args c D A cX2_walkOneDay 9 RX2 rm_X2_walkOneDay N) (hE : En p l e rm_X2_walkOneDay s m args below meth c Q D A cX2_walkOneDay .ireturn (wC N z1) [.int r])  (s0 : St) (x1 : Int32) (x2 : Nat) (x3 : Int32) (h : F_X2_walkOneDay_0 s0 x1 x2 x3 = some (r, z1)) : Aw p l e rm_X2_walkOneDay s m args below meth c Q D A 9 (wC N s0) 0 [(0, .ref (N.1 11)), (1, .int x1), (2, .ref (N.2.1 x2)), (3, .int x3)] [] := by
  unfold F_X2_walkOneDay_0 at h
  refine aw_iconst (v := 0) C dX2_walkOneDay_0 (by decide) ?_
  refine aw_topi (fun y1 ey1 => ?_)
  have h := oL_e ey1 h
  refine aw_istore (lv' := [(0, .ref (N.1 11)), (1, .int x1), (2, .ref (N.2.1 x2)), (3, .int x3), (4, .int y1)]) C [1, 2, 3, 4, 0] dX2_walkOneDay_1 (by decide) rfl ?_
  refine aw_aload_n C 0 dX2_walkOneDay_3 rfl ?_
  refine cg_ex_arriving C lw_7_17 dX2_walkOneDay_4 ?_
  refine aw_iconst (v := 0) C dX2_walkOneDay_7 (by decide) ?_
  obtain ⟨s3, cw4, h⟩ := oC_e h
  have h := oL_e (x := s3) rfl h
  refine aw_callSv (n := 2) (As := [.ref (N.2.1 53), .int (0 : Int32)]) (rest := []) C (c_J7_fill_53178 l D N s0 s3 53 (0 : Int32) cw4) lw_49_21 lw_4_5 lw_4_6 lw_4_7 rfl rfl (by decide +kernel) ⟨Nat.le_of_ble_eq_true rfl, Nat.le_of_ble_eq_true rfl⟩ rfl rfl (Nat.le_of_ble_eq_true rfl) dX2_walkOneDay_8 ?_
  refine aw_iconst (v := 0) C dX2_walkOneDay_11 (by decide) ?_
  refine aw_topi (fun y5 ey5 => ?_)
  have h := oL_e ey5 h
  refine aw_istore (lv' := [(0, .ref (N.1 11)), (1, .int x1), (2, .ref (N.2.1 x2)), (3, .int x3), (4, .int y1), (5, .int y5)]) C [1, 2, 3, 4, 5, 0] dX2_walkOneDay_12 (by decide) rfl ?_
  refine aw_sub (lv' := [(0, .ref (N.1 11)), (1, .int x1), (2, .ref (N.2.1 x2)), (3, .int x3), (4, .int y1), (5, .int y5)]) [0, 1, 2, 3, 4, 5] rfl ?_
  exact T_X2_walkOneDay_14 C hE 100000 s3 x1 x2 x3 y1 y5 h
def f_X2_walkOneDay (s0 : St) (x1 : Int32) (x2 : Nat) (x3 : Int32) : Option (Int32 × St) := F_X2_walkOneDay_0 s0 x1 x2 x3
theorem c_X2_walkOneDay (l : Launch) (D : va_G) (N : Nm) (s0 z1 : St) (x1 : Int32) (x2 : Nat) (x3 : Int32) (r : Int32) (h : f_X2_walkOneDay s0 x1 x2 x3 = some (r, z1)) : Meti l yX2_walkOneDay (tsU yX2_walkOneDay cX2_walkOneDay 9 (some .int)) rm_X2_walkOneDay D N [.ref (N.1 11), .int x1, .ref (N.2.1 x2), .int x3] (wC N s0) r (wC N z1) :=
  met_i (cc := cX2_walkOneDay) (nL := 9) (own := RX2) (by decide) rfl (Nat.le_of_ble_eq_true rfl) (fun p e s m args below meth c Q A C hE => aw_sub [0, 1, 2, 3] rfl (T_X2_walkOneDay_0 C hE s0 x1 x2 x3 h))
/-! AwardLine$Exodus.walk(I[IIII)I -/
def rm_X2_walk : Room := { frames := 2, cells := 0, slots := 0, locals := 51 }
def F_X2_walk_109 (s0 : St) (x6 : Int32) : Option (Int32 × St) :=
  some (x6, s0)
set_option maxHeartbeats 4000000 in
set_option maxRecDepth 100000 in
theorem T_X2_walk_109 {r : Int32} {z1 : St} (C : Cx p rm_X2_walk s m args c D A cX2_walk 8 RX2 rm_X2_walk N) (hE : En p l e rm_X2_walk s m args below meth c Q D A cX2_walk .ireturn (wC N z1) [.int r])  (s0 : St) (x6 : Int32) (h : F_X2_walk_109 s0 x6 = some (r, z1)) : Aw p l e rm_X2_walk s m args below meth c Q D A 8 (wC N s0) 109 [(6, .int x6)] [] := by
  unfold F_X2_walk_109 at h
  refine aw_iload C 0 dX2_walk_109 rfl ?_
  cases h
  exact aw_ret hE dX2_walk_111
def F_X2_walk_77_b (k77 : St → Int32 → Nat → Int32 → Int32 → Int32 → Int32 → Int32 → Option (Int32 × St)) (s0 : St) (x1 : Int32) (x2 : Nat) (x3 : Int32) (x4 : Int32) (x5 : Int32) (x6 : Int32) (x7 : Int32) : Option (Int32 × St) :=
  if x3 ≤ x7 then (
    F_X2_walk_109 s0 x6)
  else (
    if x5 ≤ x6 then (
      F_X2_walk_109 s0 x6)
    else (
      oC (f_X2_walkOneDay s0 x1 x2 x4) fun w3 =>
      oL w3.1 fun v1 => oL w3.2 fun s2 =>
      oL (x6 + v1) fun y4 =>
      oL (x7 + (1 : Int32)) fun y5 =>
      k77 s2 x1 x2 x3 x4 x5 y4 y5))
set_option maxHeartbeats 4000000 in
set_option maxRecDepth 100000 in
theorem T_X2_walk_77_b {r : Int32} {z1 : St} {k77 : St → Int32 → Nat → Int32 → Int32 → Int32 → Int32 → Int32 → Option (Int32 × St)} (C : Cx p rm_X2_walk s m args c D A cX2_walk 8 RX2 rm_X2_walk N) (hE : En p l e rm_X2_walk s m args below meth c Q D A cX2_walk .ireturn (wC N z1) [.int r]) (hk77 : ∀ (s0 : St) (x1 : Int32) (x2 : Nat) (x3 : Int32) (x4 : Int32) (x5 : Int32) (x6 : Int32) (x7 : Int32), k77 s0 x1 x2 x3 x4 x5 x6 x7 = some (r, z1) → Aw p l e rm_X2_walk s m args below meth c Q D A 8 (wC N s0) 77 [(0, .ref (N.1 11)), (1, .int x1), (2, .ref (N.2.1 x2)), (3, .int x3), (4, .int x4), (5, .int x5), (6, .int x6), (7, .int x7)] []) (s0 : St) (x1 : Int32) (x2 : Nat) (x3 : Int32) (x4 : Int32) (x5 : Int32) (x6 : Int32) (x7 : Int32) (h : F_X2_walk_77_b k77 s0 x1 x2 x3 x4 x5 x6 x7 = some (r, z1)) : Aw p l e rm_X2_walk s m args below meth c Q D A 8 (wC N s0) 77 [(0, .ref (N.1 11)), (1, .int x1), (2, .ref (N.2.1 x2)), (3, .int x3), (4, .int x4), (5, .int x5), (6, .int x6), (7, .int x7)] [] := by
  unfold F_X2_walk_77_b at h
  refine aw_iload C 7 dX2_walk_77 rfl ?_
  refine aw_iload_n C 3 dX2_walk_79 rfl ?_
  refine aw_icmp_ge (tgt := 109) C dX2_walk_80 (by decide) (fun q => ?_) (fun q => ?_)
  · have h := bq_t q h
    refine aw_sub (lv' := [(6, .int x6)]) [6] rfl ?_
    exact T_X2_walk_109 C hE s0 x6 h
  · have h := bq_f q h
    refine aw_iload C 6 dX2_walk_83 rfl ?_
    refine aw_iload C 5 dX2_walk_85 rfl ?_
    refine aw_icmp_ge (tgt := 109) C dX2_walk_87 (by decide) (fun q => ?_) (fun q => ?_)
    · have h := bq_t q h
      refine aw_sub (lv' := [(6, .int x6)]) [6] rfl ?_
      exact T_X2_walk_109 C hE s0 x6 h
    · have h := bq_f q h
      refine aw_iload C 6 dX2_walk_90 rfl ?_
      refine aw_aload_n C 0 dX2_walk_92 rfl ?_
      refine aw_iload_n C 1 dX2_walk_93 rfl ?_
      refine aw_aload_n C 2 dX2_walk_94 rfl ?_
      refine aw_iload C 4 dX2_walk_95 rfl ?_
      obtain ⟨⟨v1, s2⟩, cw3, h⟩ := oC_e h
      have h := oL_e (x := s2) rfl (oL_e (x := v1) rfl h)
      refine aw_callVi (n := 3) (As := [.int x1, .ref (N.2.1 x2), .int x4]) (rest := [.int x6]) (q0 := 11) C (c_X2_walkOneDay l D N s0 s2 x1 x2 x4 v1 cw3) lw_49_17 lw_49_18 lw_49_19 lw_3_5 lw_49_20 rfl rfl (by decide +kernel) ⟨Nat.le_of_ble_eq_true rfl, Nat.le_of_ble_eq_true rfl⟩ rfl rfl rfl rfl rfl (Nat.le_of_ble_eq_true rfl) dX2_walk_97 ?_
      refine aw_iadd C dX2_walk_100 ?_
      refine aw_topi (fun y4 ey4 => ?_)
      have h := oL_e ey4 h
      refine aw_istore (lv' := [(0, .ref (N.1 11)), (1, .int x1), (2, .ref (N.2.1 x2)), (3, .int x3), (4, .int x4), (5, .int x5), (6, .int y4), (7, .int x7)]) C [1, 2, 3, 4, 5, 6, 0, 7] dX2_walk_101 (by decide) rfl ?_
      obtain ⟨y5, ey5⟩ : ∃ q : Int32, q = x7 + (1 : Int32) := ⟨_, rfl⟩
      have h := oL_e ey5 h
      refine aw_iinc (v := y5) (k := 7) (lv' := [(0, .ref (N.1 11)), (1, .int x1), (2, .ref (N.2.1 x2)), (3, .int x3), (4, .int x4), (5, .int x5), (6, .int y4), (7, .int y5)]) C [1, 2, 3, 4, 5, 6, 7, 0] dX2_walk_103 rfl (by rw [ey5]; rfl) (by decide) rfl ?_
      refine aw_goto (tgt := 77) C dX2_walk_106 (by decide) ?_
      refine aw_sub (lv' := [(0, .ref (N.1 11)), (1, .int x1), (2, .ref (N.2.1 x2)), (3, .int x3), (4, .int x4), (5, .int x5), (6, .int y4), (7, .int y5)]) [0, 1, 2, 3, 4, 5, 6, 7] rfl ?_
      exact hk77 s2 x1 x2 x3 x4 x5 y4 y5 h
def F_X2_walk_77 : Nat → St → Int32 → Nat → Int32 → Int32 → Int32 → Int32 → Int32 → Option (Int32 × St)
  | 0 => fun _ _ _ _ _ _ _ _ => none
  | n + 1 => F_X2_walk_77_b (F_X2_walk_77 n)
theorem T_X2_walk_77 {r : Int32} {z1 : St} (C : Cx p rm_X2_walk s m args c D A cX2_walk 8 RX2 rm_X2_walk N) (hE : En p l e rm_X2_walk s m args below meth c Q D A cX2_walk .ireturn (wC N z1) [.int r])  : ∀ (n : Nat) (s0 : St) (x1 : Int32) (x2 : Nat) (x3 : Int32) (x4 : Int32) (x5 : Int32) (x6 : Int32) (x7 : Int32), F_X2_walk_77 n s0 x1 x2 x3 x4 x5 x6 x7 = some (r, z1) → Aw p l e rm_X2_walk s m args below meth c Q D A 8 (wC N s0) 77 [(0, .ref (N.1 11)), (1, .int x1), (2, .ref (N.2.1 x2)), (3, .int x3), (4, .int x4), (5, .int x5), (6, .int x6), (7, .int x7)] [] := by
  intro n
  induction n with
  | zero => intro s0 x1 x2 x3 x4 x5 x6 x7 h; cases h
  | succ n ih => intro s0 x1 x2 x3 x4 x5 x6 x7 h; exact T_X2_walk_77_b C hE ih s0 x1 x2 x3 x4 x5 x6 x7 h
def F_X2_walk_3_b (k3 : St → Int32 → Nat → Int32 → Int32 → Int32 → Int32 → Option (Int32 × St)) (s0 : St) (x1 : Int32) (x2 : Nat) (x3 : Int32) (x4 : Int32) (x5 : Int32) (x6 : Int32) : Option (Int32 × St) :=
  if (s0.1 21) ≤ x6 then (
    oL (0 : Int32) fun y1 =>
    oL (0 : Int32) fun y2 =>
    F_X2_walk_77 100000 s0 x1 x2 x3 x4 x5 y1 y2)
  else (
    oL ((x1 >>> (x6 &&& 31)) &&& (1 : Int32)) fun y3 =>
    oA y3 2 <|
    oX (26 + Int32.toNatClampNeg y3) x6 <|
    oA x6 25 <|
    oL (sA s0 51 (upd (s0.2.1 51) (Int32.toNatClampNeg x6) (s0.2.1 (26 + Int32.toNatClampNeg y3) (Int32.toNatClampNeg x6)))) fun s8 =>
    oA ((1 : Int32) - y3) 2 <|
    oX (26 + Int32.toNatClampNeg ((1 : Int32) - y3)) x6 <|
    oA x6 25 <|
    oL (sA s8 52 (upd (s8.2.1 52) (Int32.toNatClampNeg x6) (s8.2.1 (26 + Int32.toNatClampNeg ((1 : Int32) - y3)) (Int32.toNatClampNeg x6)))) fun s13 =>
    oL (x6 + (1 : Int32)) fun y14 =>
    k3 s13 x1 x2 x3 x4 x5 y14)
set_option maxHeartbeats 4000000 in
set_option maxRecDepth 100000 in
theorem T_X2_walk_3_b {r : Int32} {z1 : St} {k3 : St → Int32 → Nat → Int32 → Int32 → Int32 → Int32 → Option (Int32 × St)} (C : Cx p rm_X2_walk s m args c D A cX2_walk 8 RX2 rm_X2_walk N) (hE : En p l e rm_X2_walk s m args below meth c Q D A cX2_walk .ireturn (wC N z1) [.int r]) (hk3 : ∀ (s0 : St) (x1 : Int32) (x2 : Nat) (x3 : Int32) (x4 : Int32) (x5 : Int32) (x6 : Int32), k3 s0 x1 x2 x3 x4 x5 x6 = some (r, z1) → Aw p l e rm_X2_walk s m args below meth c Q D A 8 (wC N s0) 3 [(0, .ref (N.1 11)), (1, .int x1), (2, .ref (N.2.1 x2)), (3, .int x3), (4, .int x4), (5, .int x5), (6, .int x6)] []) (s0 : St) (x1 : Int32) (x2 : Nat) (x3 : Int32) (x4 : Int32) (x5 : Int32) (x6 : Int32) (h : F_X2_walk_3_b k3 s0 x1 x2 x3 x4 x5 x6 = some (r, z1)) : Aw p l e rm_X2_walk s m args below meth c Q D A 8 (wC N s0) 3 [(0, .ref (N.1 11)), (1, .int x1), (2, .ref (N.2.1 x2)), (3, .int x3), (4, .int x4), (5, .int x5), (6, .int x6)] [] := by
  unfold F_X2_walk_3_b at h
  refine aw_iload C 6 dX2_walk_3 rfl ?_
  refine aw_aload_n C 0 dX2_walk_5 rfl ?_
  refine cg_ex_land C lw_7_18 dX2_walk_6 ?_
  refine cg_ln_size C lw_48_23 dX2_walk_9 ?_
  refine aw_icmp_ge (tgt := 71) C dX2_walk_12 (by decide) (fun q => ?_) (fun q => ?_)
  · have h := bq_t q h
    refine aw_iconst (v := 0) C dX2_walk_71 (by decide) ?_
    refine aw_topi (fun y1 ey1 => ?_)
    have h := oL_e ey1 h
    refine aw_istore (lv' := [(0, .ref (N.1 11)), (1, .int x1), (2, .ref (N.2.1 x2)), (3, .int x3), (4, .int x4), (5, .int x5), (6, .int y1)]) C [1, 2, 3, 4, 5, 6, 0] dX2_walk_72 (by decide) rfl ?_
    refine aw_iconst (v := 0) C dX2_walk_74 (by decide) ?_
    refine aw_topi (fun y2 ey2 => ?_)
    have h := oL_e ey2 h
    refine aw_istore (lv' := [(0, .ref (N.1 11)), (1, .int x1), (2, .ref (N.2.1 x2)), (3, .int x3), (4, .int x4), (5, .int x5), (6, .int y1), (7, .int y2)]) C [1, 2, 3, 4, 5, 6, 7, 0] dX2_walk_75 (by decide) rfl ?_
    refine aw_sub (lv' := [(0, .ref (N.1 11)), (1, .int x1), (2, .ref (N.2.1 x2)), (3, .int x3), (4, .int x4), (5, .int x5), (6, .int y1), (7, .int y2)]) [0, 1, 2, 3, 4, 5, 6, 7] rfl ?_
    exact T_X2_walk_77 C hE 100000 s0 x1 x2 x3 x4 x5 y1 y2 h
  · have h := bq_f q h
    refine aw_iload_n C 1 dX2_walk_15 rfl ?_
    refine aw_iload C 6 dX2_walk_16 rfl ?_
    refine aw_ishr C dX2_walk_18 ?_
    refine aw_iconst (v := 1) C dX2_walk_19 (by decide) ?_
    refine aw_iand C dX2_walk_20 ?_
    refine aw_topi (fun y3 ey3 => ?_)
    have h := oL_e ey3 h
    refine aw_istore (lv' := [(0, .ref (N.1 11)), (1, .int x1), (2, .ref (N.2.1 x2)), (3, .int x3), (4, .int x4), (5, .int x5), (6, .int x6), (7, .int y3)]) C [1, 2, 3, 4, 5, 6, 7, 0] dX2_walk_21 (by decide) rfl ?_
    refine aw_aload_n C 0 dX2_walk_23 rfl ?_
    refine cg_ex_astray C lw_7_15 dX2_walk_24 ?_
    refine aw_iload C 6 dX2_walk_27 rfl ?_
    refine aw_aload_n C 0 dX2_walk_29 rfl ?_
    refine cg_ex_census C lw_7_19 dX2_walk_30 ?_
    refine cg_ce_people C lw_49_16 dX2_walk_33 ?_
    refine aw_iload C 7 dX2_walk_36 rfl ?_
    obtain ⟨q4, h⟩ := oA_e h
    refine ca_rald (k := 25) C (by decide) rfl q4 dX2_walk_38 ?_
    refine aw_iload C 6 dX2_walk_39 rfl ?_
    obtain ⟨q6a, q6b, q6, h⟩ := oX_e h
    refine ca_iald (k := (26 + Int32.toNatClampNeg y3)) C q6a q6b q6 dX2_walk_41 ?_
    obtain ⟨q7, h⟩ := oA_e h
    refine ca_iast (k := 51) C (by decide) rfl q7 dX2_walk_42 ?_
    refine ca_name (fun s8 es8 => ?_)
    have h := oL_e es8 h
    refine aw_aload_n C 0 dX2_walk_43 rfl ?_
    refine cg_ex_settled C lw_7_16 dX2_walk_44 ?_
    refine aw_iload C 6 dX2_walk_47 rfl ?_
    refine aw_aload_n C 0 dX2_walk_49 rfl ?_
    refine cg_ex_census C lw_7_19 dX2_walk_50 ?_
    refine cg_ce_people C lw_49_16 dX2_walk_53 ?_
    refine aw_iconst (v := 1) C dX2_walk_56 (by decide) ?_
    refine aw_iload C 7 dX2_walk_57 rfl ?_
    refine aw_isub C dX2_walk_59 ?_
    obtain ⟨q9, h⟩ := oA_e h
    refine ca_rald (k := 25) C (by decide) rfl q9 dX2_walk_60 ?_
    refine aw_iload C 6 dX2_walk_61 rfl ?_
    obtain ⟨q11a, q11b, q11, h⟩ := oX_e h
    refine ca_iald (k := (26 + Int32.toNatClampNeg ((1 : Int32) - y3))) C q11a q11b q11 dX2_walk_63 ?_
    obtain ⟨q12, h⟩ := oA_e h
    refine ca_iast (k := 52) C (by decide) rfl q12 dX2_walk_64 ?_
    refine ca_name (fun s13 es13 => ?_)
    have h := oL_e es13 h
    obtain ⟨y14, ey14⟩ : ∃ q : Int32, q = x6 + (1 : Int32) := ⟨_, rfl⟩
    have h := oL_e ey14 h
    refine aw_iinc (v := y14) (k := 6) (lv' := [(0, .ref (N.1 11)), (1, .int x1), (2, .ref (N.2.1 x2)), (3, .int x3), (4, .int x4), (5, .int x5), (6, .int y14), (7, .int y3)]) C [1, 2, 3, 4, 5, 6, 0, 7] dX2_walk_65 rfl (by rw [ey14]; rfl) (by decide) rfl ?_
    refine aw_goto (tgt := 3) C dX2_walk_68 (by decide) ?_
    refine aw_sub (lv' := [(0, .ref (N.1 11)), (1, .int x1), (2, .ref (N.2.1 x2)), (3, .int x3), (4, .int x4), (5, .int x5), (6, .int y14)]) [0, 1, 2, 3, 4, 5, 6] rfl ?_
    exact hk3 s13 x1 x2 x3 x4 x5 y14 h
def F_X2_walk_3 : Nat → St → Int32 → Nat → Int32 → Int32 → Int32 → Int32 → Option (Int32 × St)
  | 0 => fun _ _ _ _ _ _ _ => none
  | n + 1 => F_X2_walk_3_b (F_X2_walk_3 n)
theorem T_X2_walk_3 {r : Int32} {z1 : St} (C : Cx p rm_X2_walk s m args c D A cX2_walk 8 RX2 rm_X2_walk N) (hE : En p l e rm_X2_walk s m args below meth c Q D A cX2_walk .ireturn (wC N z1) [.int r])  : ∀ (n : Nat) (s0 : St) (x1 : Int32) (x2 : Nat) (x3 : Int32) (x4 : Int32) (x5 : Int32) (x6 : Int32), F_X2_walk_3 n s0 x1 x2 x3 x4 x5 x6 = some (r, z1) → Aw p l e rm_X2_walk s m args below meth c Q D A 8 (wC N s0) 3 [(0, .ref (N.1 11)), (1, .int x1), (2, .ref (N.2.1 x2)), (3, .int x3), (4, .int x4), (5, .int x5), (6, .int x6)] [] := by
  intro n
  induction n with
  | zero => intro s0 x1 x2 x3 x4 x5 x6 h; cases h
  | succ n ih => intro s0 x1 x2 x3 x4 x5 x6 h; exact T_X2_walk_3_b C hE ih s0 x1 x2 x3 x4 x5 x6 h
def F_X2_walk_0 (s0 : St) (x1 : Int32) (x2 : Nat) (x3 : Int32) (x4 : Int32) (x5 : Int32) : Option (Int32 × St) :=
  oL (0 : Int32) fun y1 =>
  F_X2_walk_3 100000 s0 x1 x2 x3 x4 x5 y1
set_option maxHeartbeats 4000000 in
set_option maxRecDepth 100000 in
theorem T_X2_walk_0 {r : Int32} {z1 : St} (C : Cx p rm_X2_walk s m args c D A cX2_walk 8 RX2 rm_X2_walk N) (hE : En p l e rm_X2_walk s m args below meth c Q D A cX2_walk .ireturn (wC N z1) [.int r])  (s0 : St) (x1 : Int32) (x2 : Nat) (x3 : Int32) (x4 : Int32) (x5 : Int32) (h : F_X2_walk_0 s0 x1 x2 x3 x4 x5 = some (r, z1)) : Aw p l e rm_X2_walk s m args below meth c Q D A 8 (wC N s0) 0 [(0, .ref (N.1 11)), (1, .int x1), (2, .ref (N.2.1 x2)), (3, .int x3), (4, .int x4), (5, .int x5)] [] := by
  unfold F_X2_walk_0 at h
  refine aw_iconst (v := 0) C dX2_walk_0 (by decide) ?_
  refine aw_topi (fun y1 ey1 => ?_)
  have h := oL_e ey1 h
  refine aw_istore (lv' := [(0, .ref (N.1 11)), (1, .int x1), (2, .ref (N.2.1 x2)), (3, .int x3), (4, .int x4), (5, .int x5), (6, .int y1)]) C [1, 2, 3, 4, 5, 6, 0] dX2_walk_1 (by decide) rfl ?_
  refine aw_sub (lv' := [(0, .ref (N.1 11)), (1, .int x1), (2, .ref (N.2.1 x2)), (3, .int x3), (4, .int x4), (5, .int x5), (6, .int y1)]) [0, 1, 2, 3, 4, 5, 6] rfl ?_
  exact T_X2_walk_3 C hE 100000 s0 x1 x2 x3 x4 x5 y1 h
def f_X2_walk (s0 : St) (x1 : Int32) (x2 : Nat) (x3 : Int32) (x4 : Int32) (x5 : Int32) : Option (Int32 × St) := F_X2_walk_0 s0 x1 x2 x3 x4 x5
theorem c_X2_walk (l : Launch) (D : va_G) (N : Nm) (s0 z1 : St) (x1 : Int32) (x2 : Nat) (x3 : Int32) (x4 : Int32) (x5 : Int32) (r : Int32) (h : f_X2_walk s0 x1 x2 x3 x4 x5 = some (r, z1)) : Meti l yX2_walk (tsU yX2_walk cX2_walk 8 (some .int)) rm_X2_walk D N [.ref (N.1 11), .int x1, .ref (N.2.1 x2), .int x3, .int x4, .int x5] (wC N s0) r (wC N z1) :=
  met_i (cc := cX2_walk) (nL := 8) (own := RX2) (by decide) rfl (Nat.le_of_ble_eq_true rfl) (fun p e s m args below meth c Q A C hE => aw_sub [0, 1, 2, 3, 4, 5] rfl (T_X2_walk_0 C hE s0 x1 x2 x3 x4 x5 h))
/-! AwardLine$Exodus.tell(III)I -/
def rm_X2_tell : Room := { frames := 4, cells := 0, slots := 0, locals := 90 }
def F_X2_tell_0 (s0 : St) (x1 : Int32) (x2 : Int32) (x3 : Int32) : Option (Int32 × St) :=
  oA (0 : Int32) 12 <|
  oC (f_X2_aim s0 x1 (39 + Int32.toNatClampNeg (0 : Int32))) fun w5 =>
  oL w5 fun s4 =>
  oA (0 : Int32) 12 <|
  oC (f_X2_guarded s4 x3) fun w10 =>
  oL w10.1 fun v8 => oL w10.2 fun s9 =>
  oC (f_X2_walk s9 x1 (39 + Int32.toNatClampNeg (0 : Int32)) x2 v8 (1000000000 : Int32)) fun w13 =>
  oL w13.1 fun v11 => oL w13.2 fun s12 =>
  some (v11, s12)
set_option maxHeartbeats 4000000 in
set_option maxRecDepth 100000 in
theorem T_X2_tell_0 {r : Int32} {z1 : St} (C : Cx p rm_X2_tell s m args c D A cX2_tell 4 RX2 rm_X2_tell N) (hE : En p l e rm_X2_tell s m args below meth c Q D A cX2_tell .ireturn (wC N z1) [.int r])  (s0 : St) (x1 : Int32) (x2 : Int32) (x3 : Int32) (h : F_X2_tell_0 s0 x1 x2 x3 = some (r, z1)) : Aw p l e rm_X2_tell s m args below meth c Q D A 4 (wC N s0) 0 [(0, .ref (N.1 11)), (1, .int x1), (2, .int x2), (3, .int x3)] [] := by
  unfold F_X2_tell_0 at h
  refine aw_aload_n C 0 dX2_tell_0 rfl ?_
  refine aw_iload_n C 1 dX2_tell_1 rfl ?_
  refine aw_aload_n C 0 dX2_tell_2 rfl ?_
  refine cg_ex_goal C lw_7_14 dX2_tell_3 ?_
  refine aw_iconst (v := 0) C dX2_tell_6 (by decide) ?_
  obtain ⟨q1, h⟩ := oA_e h
  refine ca_rald (k := 38) C (by decide) rfl q1 dX2_tell_7 ?_
  obtain ⟨s4, cw5, h⟩ := oC_e h
  have h := oL_e (x := s4) rfl h
  refine aw_callVv (n := 2) (As := [.int x1, .ref (N.2.1 (39 + Int32.toNatClampNeg (0 : Int32)))]) (rest := []) (q0 := 11) C (c_X2_aim l D N s0 s4 x1 (39 + Int32.toNatClampNeg (0 : Int32)) cw5) lw_48_19 lw_48_20 lw_48_21 lw_3_5 lw_48_22 rfl rfl (by decide +kernel) ⟨Nat.le_of_ble_eq_true rfl, Nat.le_of_ble_eq_true rfl⟩ rfl rfl rfl rfl rfl (Nat.le_of_ble_eq_true rfl) dX2_tell_8 ?_
  refine aw_aload_n C 0 dX2_tell_11 rfl ?_
  refine aw_iload_n C 1 dX2_tell_12 rfl ?_
  refine aw_aload_n C 0 dX2_tell_13 rfl ?_
  refine cg_ex_goal C lw_7_14 dX2_tell_14 ?_
  refine aw_iconst (v := 0) C dX2_tell_17 (by decide) ?_
  obtain ⟨q6, h⟩ := oA_e h
  refine ca_rald (k := 38) C (by decide) rfl q6 dX2_tell_18 ?_
  refine aw_iload_n C 2 dX2_tell_19 rfl ?_
  refine aw_aload_n C 0 dX2_tell_20 rfl ?_
  refine aw_iload_n C 3 dX2_tell_21 rfl ?_
  obtain ⟨⟨v8, s9⟩, cw10, h⟩ := oC_e h
  have h := oL_e (x := s9) rfl (oL_e (x := v8) rfl h)
  refine aw_callVi (n := 1) (As := [.int x3]) (rest := [.int x2, .ref (N.2.1 (39 + Int32.toNatClampNeg (0 : Int32))), .int x1, .ref (N.1 11)]) (q0 := 11) C (c_X2_guarded l D N s4 s9 x3 v8 cw10) lw_49_8 lw_49_9 lw_49_10 lw_3_5 lw_49_11 rfl rfl (by decide +kernel) ⟨Nat.le_of_ble_eq_true rfl, Nat.le_of_ble_eq_true rfl⟩ rfl rfl rfl rfl rfl (Nat.le_of_ble_eq_true rfl) dX2_tell_22 ?_
  refine aw_ldc (v := 1000000000) C lw_48_18 dX2_tell_25 ?_
  obtain ⟨⟨v11, s12⟩, cw13, h⟩ := oC_e h
  have h := oL_e (x := s12) rfl (oL_e (x := v11) rfl h)
  refine aw_callVi (n := 5) (As := [.int x1, .ref (N.2.1 (39 + Int32.toNatClampNeg (0 : Int32))), .int x2, .int v8, .int (1000000000 : Int32)]) (rest := []) (q0 := 11) C (c_X2_walk l D N s9 s12 x1 (39 + Int32.toNatClampNeg (0 : Int32)) x2 v8 (1000000000 : Int32) v11 cw13) lw_49_12 lw_49_13 lw_49_14 lw_3_5 lw_49_15 rfl rfl (by decide +kernel) ⟨Nat.le_of_ble_eq_true rfl, Nat.le_of_ble_eq_true rfl⟩ rfl rfl rfl rfl rfl (Nat.le_of_ble_eq_true rfl) dX2_tell_27 ?_
  cases h
  exact aw_ret hE dX2_tell_30
def f_X2_tell (s0 : St) (x1 : Int32) (x2 : Int32) (x3 : Int32) : Option (Int32 × St) := F_X2_tell_0 s0 x1 x2 x3
theorem c_X2_tell (l : Launch) (D : va_G) (N : Nm) (s0 z1 : St) (x1 : Int32) (x2 : Int32) (x3 : Int32) (r : Int32) (h : f_X2_tell s0 x1 x2 x3 = some (r, z1)) : Meti l yX2_tell (tsU yX2_tell cX2_tell 4 (some .int)) rm_X2_tell D N [.ref (N.1 11), .int x1, .int x2, .int x3] (wC N s0) r (wC N z1) :=
  met_i (cc := cX2_tell) (nL := 4) (own := RX2) (by decide) rfl (Nat.le_of_ble_eq_true rfl) (fun p e s m args below meth c Q A C hE => aw_sub [0, 1, 2, 3] rfl (T_X2_tell_0 C hE s0 x1 x2 x3 h))
/-! AwardLine$Exodus.stillAstray()I -/
def rm_X2_stillAstray : Room := { frames := 0, cells := 0, slots := 0, locals := 0 }
def F_X2_stillAstray_4_b (k4 : St → Int32 → Int32 → Option (Int32 × St)) (s0 : St) (x1 : Int32) (x2 : Int32) : Option (Int32 × St) :=
  if (s0.1 21) ≤ x2 then (
    some (x1, s0))
  else (
    oA x2 25 <|
    oL (x1 + (s0.2.1 51 (Int32.toNatClampNeg x2))) fun y2 =>
    oL (x2 + (1 : Int32)) fun y3 =>
    k4 s0 y2 y3)
set_option maxHeartbeats 4000000 in
set_option maxRecDepth 100000 in
theorem T_X2_stillAstray_4_b {r : Int32} {z1 : St} {k4 : St → Int32 → Int32 → Option (Int32 × St)} (C : Cx p rm_X2_stillAstray s m args c D A cX2_stillAstray 3 RX2 rm_X2_stillAstray N) (hE : En p l e rm_X2_stillAstray s m args below meth c Q D A cX2_stillAstray .ireturn (wC N z1) [.int r]) (hk4 : ∀ (s0 : St) (x1 : Int32) (x2 : Int32), k4 s0 x1 x2 = some (r, z1) → Aw p l e rm_X2_stillAstray s m args below meth c Q D A 3 (wC N s0) 4 [(0, .ref (N.1 11)), (1, .int x1), (2, .int x2)] []) (s0 : St) (x1 : Int32) (x2 : Int32) (h : F_X2_stillAstray_4_b k4 s0 x1 x2 = some (r, z1)) : Aw p l e rm_X2_stillAstray s m args below meth c Q D A 3 (wC N s0) 4 [(0, .ref (N.1 11)), (1, .int x1), (2, .int x2)] [] := by
  unfold F_X2_stillAstray_4_b at h
  refine aw_iload_n C 2 dX2_stillAstray_4 rfl ?_
  refine aw_aload_n C 0 dX2_stillAstray_5 rfl ?_
  refine cg_ex_land C lw_7_18 dX2_stillAstray_6 ?_
  refine cg_ln_size C lw_48_23 dX2_stillAstray_9 ?_
  refine aw_icmp_ge (tgt := 30) C dX2_stillAstray_12 (by decide) (fun q => ?_) (fun q => ?_)
  · have h := bq_t q h
    refine aw_iload_n C 1 dX2_stillAstray_30 rfl ?_
    cases h
    exact aw_ret hE dX2_stillAstray_31
  · have h := bq_f q h
    refine aw_iload_n C 1 dX2_stillAstray_15 rfl ?_
    refine aw_aload_n C 0 dX2_stillAstray_16 rfl ?_
    refine cg_ex_astray C lw_7_15 dX2_stillAstray_17 ?_
    refine aw_iload_n C 2 dX2_stillAstray_20 rfl ?_
    obtain ⟨q1, h⟩ := oA_e h
    refine ca_iald (k := 51) C (by decide) rfl q1 dX2_stillAstray_21 ?_
    refine aw_iadd C dX2_stillAstray_22 ?_
    refine aw_topi (fun y2 ey2 => ?_)
    have h := oL_e ey2 h
    refine aw_istore_n (lv' := [(0, .ref (N.1 11)), (1, .int y2), (2, .int x2)]) C [1, 0, 2] dX2_stillAstray_23 rfl (by decide) rfl ?_
    obtain ⟨y3, ey3⟩ : ∃ q : Int32, q = x2 + (1 : Int32) := ⟨_, rfl⟩
    have h := oL_e ey3 h
    refine aw_iinc (v := y3) (k := 2) (lv' := [(0, .ref (N.1 11)), (1, .int y2), (2, .int y3)]) C [1, 2, 0] dX2_stillAstray_24 rfl (by rw [ey3]; rfl) (by decide) rfl ?_
    refine aw_goto (tgt := 4) C dX2_stillAstray_27 (by decide) ?_
    refine aw_sub (lv' := [(0, .ref (N.1 11)), (1, .int y2), (2, .int y3)]) [0, 1, 2] rfl ?_
    exact hk4 s0 y2 y3 h
def F_X2_stillAstray_4 : Nat → St → Int32 → Int32 → Option (Int32 × St)
  | 0 => fun _ _ _ => none
  | n + 1 => F_X2_stillAstray_4_b (F_X2_stillAstray_4 n)
theorem T_X2_stillAstray_4 {r : Int32} {z1 : St} (C : Cx p rm_X2_stillAstray s m args c D A cX2_stillAstray 3 RX2 rm_X2_stillAstray N) (hE : En p l e rm_X2_stillAstray s m args below meth c Q D A cX2_stillAstray .ireturn (wC N z1) [.int r])  : ∀ (n : Nat) (s0 : St) (x1 : Int32) (x2 : Int32), F_X2_stillAstray_4 n s0 x1 x2 = some (r, z1) → Aw p l e rm_X2_stillAstray s m args below meth c Q D A 3 (wC N s0) 4 [(0, .ref (N.1 11)), (1, .int x1), (2, .int x2)] [] := by
  intro n
  induction n with
  | zero => intro s0 x1 x2 h; cases h
  | succ n ih => intro s0 x1 x2 h; exact T_X2_stillAstray_4_b C hE ih s0 x1 x2 h
def F_X2_stillAstray_0 (s0 : St) : Option (Int32 × St) :=
  oL (0 : Int32) fun y1 =>
  oL (0 : Int32) fun y2 =>
  F_X2_stillAstray_4 100000 s0 y1 y2
set_option maxHeartbeats 4000000 in
set_option maxRecDepth 100000 in
theorem T_X2_stillAstray_0 {r : Int32} {z1 : St} (C : Cx p rm_X2_stillAstray s m args c D A cX2_stillAstray 3 RX2 rm_X2_stillAstray N) (hE : En p l e rm_X2_stillAstray s m args below meth c Q D A cX2_stillAstray .ireturn (wC N z1) [.int r])  (s0 : St) (h : F_X2_stillAstray_0 s0 = some (r, z1)) : Aw p l e rm_X2_stillAstray s m args below meth c Q D A 3 (wC N s0) 0 [(0, .ref (N.1 11))] [] := by
  unfold F_X2_stillAstray_0 at h
  refine aw_iconst (v := 0) C dX2_stillAstray_0 (by decide) ?_
  refine aw_topi (fun y1 ey1 => ?_)
  have h := oL_e ey1 h
  refine aw_istore_n (lv' := [(0, .ref (N.1 11)), (1, .int y1)]) C [1, 0] dX2_stillAstray_1 rfl (by decide) rfl ?_
  refine aw_iconst (v := 0) C dX2_stillAstray_2 (by decide) ?_
  refine aw_topi (fun y2 ey2 => ?_)
  have h := oL_e ey2 h
  refine aw_istore_n (lv' := [(0, .ref (N.1 11)), (1, .int y1), (2, .int y2)]) C [1, 2, 0] dX2_stillAstray_3 rfl (by decide) rfl ?_
  refine aw_sub (lv' := [(0, .ref (N.1 11)), (1, .int y1), (2, .int y2)]) [0, 1, 2] rfl ?_
  exact T_X2_stillAstray_4 C hE 100000 s0 y1 y2 h
def f_X2_stillAstray (s0 : St) : Option (Int32 × St) := F_X2_stillAstray_0 s0
theorem c_X2_stillAstray (l : Launch) (D : va_G) (N : Nm) (s0 z1 : St) (r : Int32) (h : f_X2_stillAstray s0 = some (r, z1)) : Meti l yX2_stillAstray (tsU yX2_stillAstray cX2_stillAstray 3 (some .int)) rm_X2_stillAstray D N [.ref (N.1 11)] (wC N s0) r (wC N z1) :=
  met_i (cc := cX2_stillAstray) (nL := 3) (own := RX2) (by decide) rfl (Nat.le_of_ble_eq_true rfl) (fun p e s m args below meth c Q A C hE => aw_sub [0] rfl (T_X2_stillAstray_0 C hE s0 h))
/-! AwardLine$Exodus.fullest()I -/
def rm_X2_fullest : Room := { frames := 1, cells := 0, slots := 0, locals := 13 }
def F_X2_fullest_4_b (k4 : St → Int32 → Int32 → Option (Int32 × St)) (s0 : St) (x1 : Int32) (x2 : Int32) : Option (Int32 × St) :=
  if (s0.1 21) ≤ x2 then (
    some (x1, s0))
  else (
    oA x2 25 <|
    oA x2 25 <|
    oL (jmax x1 ((s0.2.1 51 (Int32.toNatClampNeg x2)) + (s0.2.1 52 (Int32.toNatClampNeg x2)))) fun y3 =>
    oL (x2 + (1 : Int32)) fun y4 =>
    k4 s0 y3 y4)
set_option maxHeartbeats 4000000 in
set_option maxRecDepth 100000 in
theorem T_X2_fullest_4_b {r : Int32} {z1 : St} {k4 : St → Int32 → Int32 → Option (Int32 × St)} (C : Cx p rm_X2_fullest s m args c D A cX2_fullest 3 RX2 rm_X2_fullest N) (hE : En p l e rm_X2_fullest s m args below meth c Q D A cX2_fullest .ireturn (wC N z1) [.int r]) (hk4 : ∀ (s0 : St) (x1 : Int32) (x2 : Int32), k4 s0 x1 x2 = some (r, z1) → Aw p l e rm_X2_fullest s m args below meth c Q D A 3 (wC N s0) 4 [(0, .ref (N.1 11)), (1, .int x1), (2, .int x2)] []) (s0 : St) (x1 : Int32) (x2 : Int32) (h : F_X2_fullest_4_b k4 s0 x1 x2 = some (r, z1)) : Aw p l e rm_X2_fullest s m args below meth c Q D A 3 (wC N s0) 4 [(0, .ref (N.1 11)), (1, .int x1), (2, .int x2)] [] := by
  unfold F_X2_fullest_4_b at h
  refine aw_iload_n C 2 dX2_fullest_4 rfl ?_
  refine aw_aload_n C 0 dX2_fullest_5 rfl ?_
  refine cg_ex_land C lw_7_18 dX2_fullest_6 ?_
  refine cg_ln_size C lw_48_23 dX2_fullest_9 ?_
  refine aw_icmp_ge (tgt := 39) C dX2_fullest_12 (by decide) (fun q => ?_) (fun q => ?_)
  · have h := bq_t q h
    refine aw_iload_n C 1 dX2_fullest_39 rfl ?_
    cases h
    exact aw_ret hE dX2_fullest_40
  · have h := bq_f q h
    refine aw_iload_n C 1 dX2_fullest_15 rfl ?_
    refine aw_aload_n C 0 dX2_fullest_16 rfl ?_
    refine cg_ex_astray C lw_7_15 dX2_fullest_17 ?_
    refine aw_iload_n C 2 dX2_fullest_20 rfl ?_
    obtain ⟨q1, h⟩ := oA_e h
    refine ca_iald (k := 51) C (by decide) rfl q1 dX2_fullest_21 ?_
    refine aw_aload_n C 0 dX2_fullest_22 rfl ?_
    refine cg_ex_settled C lw_7_16 dX2_fullest_23 ?_
    refine aw_iload_n C 2 dX2_fullest_26 rfl ?_
    obtain ⟨q2, h⟩ := oA_e h
    refine ca_iald (k := 52) C (by decide) rfl q2 dX2_fullest_27 ?_
    refine aw_iadd C dX2_fullest_28 ?_
    refine aw_mmax C lw_50_7 lw_28_13 (by decide +kernel) lw_28_14 (Nat.le_of_ble_eq_true rfl) (Nat.le_of_ble_eq_true rfl) dX2_fullest_29 ?_
    refine aw_topi (fun y3 ey3 => ?_)
    have h := oL_e ey3 h
    refine aw_istore_n (lv' := [(0, .ref (N.1 11)), (1, .int y3), (2, .int x2)]) C [1, 0, 2] dX2_fullest_32 rfl (by decide) rfl ?_
    obtain ⟨y4, ey4⟩ : ∃ q : Int32, q = x2 + (1 : Int32) := ⟨_, rfl⟩
    have h := oL_e ey4 h
    refine aw_iinc (v := y4) (k := 2) (lv' := [(0, .ref (N.1 11)), (1, .int y3), (2, .int y4)]) C [1, 2, 0] dX2_fullest_33 rfl (by rw [ey4]; rfl) (by decide) rfl ?_
    refine aw_goto (tgt := 4) C dX2_fullest_36 (by decide) ?_
    refine aw_sub (lv' := [(0, .ref (N.1 11)), (1, .int y3), (2, .int y4)]) [0, 1, 2] rfl ?_
    exact hk4 s0 y3 y4 h
def F_X2_fullest_4 : Nat → St → Int32 → Int32 → Option (Int32 × St)
  | 0 => fun _ _ _ => none
  | n + 1 => F_X2_fullest_4_b (F_X2_fullest_4 n)
theorem T_X2_fullest_4 {r : Int32} {z1 : St} (C : Cx p rm_X2_fullest s m args c D A cX2_fullest 3 RX2 rm_X2_fullest N) (hE : En p l e rm_X2_fullest s m args below meth c Q D A cX2_fullest .ireturn (wC N z1) [.int r])  : ∀ (n : Nat) (s0 : St) (x1 : Int32) (x2 : Int32), F_X2_fullest_4 n s0 x1 x2 = some (r, z1) → Aw p l e rm_X2_fullest s m args below meth c Q D A 3 (wC N s0) 4 [(0, .ref (N.1 11)), (1, .int x1), (2, .int x2)] [] := by
  intro n
  induction n with
  | zero => intro s0 x1 x2 h; cases h
  | succ n ih => intro s0 x1 x2 h; exact T_X2_fullest_4_b C hE ih s0 x1 x2 h
def F_X2_fullest_0 (s0 : St) : Option (Int32 × St) :=
  oL (0 : Int32) fun y1 =>
  oL (0 : Int32) fun y2 =>
  F_X2_fullest_4 100000 s0 y1 y2
set_option maxHeartbeats 4000000 in
set_option maxRecDepth 100000 in
theorem T_X2_fullest_0 {r : Int32} {z1 : St} (C : Cx p rm_X2_fullest s m args c D A cX2_fullest 3 RX2 rm_X2_fullest N) (hE : En p l e rm_X2_fullest s m args below meth c Q D A cX2_fullest .ireturn (wC N z1) [.int r])  (s0 : St) (h : F_X2_fullest_0 s0 = some (r, z1)) : Aw p l e rm_X2_fullest s m args below meth c Q D A 3 (wC N s0) 0 [(0, .ref (N.1 11))] [] := by
  unfold F_X2_fullest_0 at h
  refine aw_iconst (v := 0) C dX2_fullest_0 (by decide) ?_
  refine aw_topi (fun y1 ey1 => ?_)
  have h := oL_e ey1 h
  refine aw_istore_n (lv' := [(0, .ref (N.1 11)), (1, .int y1)]) C [1, 0] dX2_fullest_1 rfl (by decide) rfl ?_
  refine aw_iconst (v := 0) C dX2_fullest_2 (by decide) ?_
  refine aw_topi (fun y2 ey2 => ?_)
  have h := oL_e ey2 h
  refine aw_istore_n (lv' := [(0, .ref (N.1 11)), (1, .int y1), (2, .int y2)]) C [1, 2, 0] dX2_fullest_3 rfl (by decide) rfl ?_
  refine aw_sub (lv' := [(0, .ref (N.1 11)), (1, .int y1), (2, .int y2)]) [0, 1, 2] rfl ?_
  exact T_X2_fullest_4 C hE 100000 s0 y1 y2 h
def f_X2_fullest (s0 : St) : Option (Int32 × St) := F_X2_fullest_0 s0
theorem c_X2_fullest (l : Launch) (D : va_G) (N : Nm) (s0 z1 : St) (r : Int32) (h : f_X2_fullest s0 = some (r, z1)) : Meti l yX2_fullest (tsU yX2_fullest cX2_fullest 3 (some .int)) rm_X2_fullest D N [.ref (N.1 11)] (wC N s0) r (wC N z1) :=
  met_i (cc := cX2_fullest) (nL := 3) (own := RX2) (by decide) rfl (Nat.le_of_ble_eq_true rfl) (fun p e s m args below meth c Q A C hE => aw_sub [0] rfl (T_X2_fullest_0 C hE s0 h))
/-! AwardLine$Exodus.tryGuards(IILAwardLine$Drafts;I)V -/
def rm_X2_tryGuards : Room := { frames := 3, cells := 0, slots := 0, locals := 78 }
def F_X2_tryGuards_103 (s0 : St) : Option (St) :=
  some s0
set_option maxHeartbeats 4000000 in
set_option maxRecDepth 100000 in
theorem T_X2_tryGuards_103 {z1 : St} (C : Cx p rm_X2_tryGuards s m args c D A cX2_tryGuards 9 RX2 rm_X2_tryGuards N) (hE : En p l e rm_X2_tryGuards s m args below meth c Q D A cX2_tryGuards .return_ (wC N z1) [])  (s0 : St) (h : F_X2_tryGuards_103 s0 = some z1) : Aw p l e rm_X2_tryGuards s m args below meth c Q D A 9 (wC N s0) 103 [] [] := by
  unfold F_X2_tryGuards_103 at h
  cases h
  exact aw_ret hE dX2_tryGuards_103
def F_X2_tryGuards_83 (s0 : St) (x1 : Int32) (x6 : Int32) : Option (St) :=
  if (s0.1 39) ≤ x6 then (
    F_X2_tryGuards_103 s0)
  else (
    oL (sI s0 38 x1) fun s1 =>
    oL (sI s1 39 x6) fun s2 =>
    F_X2_tryGuards_103 s2)
set_option maxHeartbeats 4000000 in
set_option maxRecDepth 100000 in
theorem T_X2_tryGuards_83 {z1 : St} (C : Cx p rm_X2_tryGuards s m args c D A cX2_tryGuards 9 RX2 rm_X2_tryGuards N) (hE : En p l e rm_X2_tryGuards s m args below meth c Q D A cX2_tryGuards .return_ (wC N z1) [])  (s0 : St) (x1 : Int32) (x6 : Int32) (h : F_X2_tryGuards_83 s0 x1 x6 = some z1) : Aw p l e rm_X2_tryGuards s m args below meth c Q D A 9 (wC N s0) 83 [(0, .ref (N.1 11)), (1, .int x1), (6, .int x6)] [] := by
  unfold F_X2_tryGuards_83 at h
  refine aw_iload C 2 dX2_tryGuards_83 rfl ?_
  refine aw_aload_n C 0 dX2_tryGuards_85 rfl ?_
  refine cg_ex_bestLost C lw_52_5 dX2_tryGuards_86 ?_
  refine aw_icmp_ge (tgt := 103) C dX2_tryGuards_89 (by decide) (fun q => ?_) (fun q => ?_)
  · have h := bq_t q h
    refine aw_sub (lv' := []) [] rfl ?_
    exact T_X2_tryGuards_103 C hE s0 h
  · have h := bq_f q h
    refine aw_aload_n C 0 dX2_tryGuards_92 rfl ?_
    refine aw_iload_n C 1 dX2_tryGuards_93 rfl ?_
    refine cp_ex_bestGuards C lw_52_4 dX2_tryGuards_94 ?_
    refine ca_name (fun s1 es1 => ?_)
    have h := oL_e es1 h
    refine aw_aload_n C 0 dX2_tryGuards_97 rfl ?_
    refine aw_iload C 2 dX2_tryGuards_98 rfl ?_
    refine cp_ex_bestLost C lw_52_5 dX2_tryGuards_100 ?_
    refine ca_name (fun s2 es2 => ?_)
    have h := oL_e es2 h
    refine aw_sub (lv' := []) [] rfl ?_
    exact T_X2_tryGuards_103 C hE s2 h
def F_X2_tryGuards_77 (k13 : St → Int32 → Int32 → Int32 → Int32 → Int32 → Int32 → Option (St)) (s0 : St) (x1 : Int32) (x2 : Int32) (x4 : Int32) (x5 : Int32) (x6 : Int32) (x7 : Int32) : Option (St) :=
  oL (x7 + (1 : Int32)) fun y1 =>
  k13 s0 x1 x2 x4 x5 x6 y1
set_option maxHeartbeats 4000000 in
set_option maxRecDepth 100000 in
theorem T_X2_tryGuards_77 {z1 : St} {k13 : St → Int32 → Int32 → Int32 → Int32 → Int32 → Int32 → Option (St)} (C : Cx p rm_X2_tryGuards s m args c D A cX2_tryGuards 9 RX2 rm_X2_tryGuards N) (hE : En p l e rm_X2_tryGuards s m args below meth c Q D A cX2_tryGuards .return_ (wC N z1) []) (hk13 : ∀ (s0 : St) (x1 : Int32) (x2 : Int32) (x4 : Int32) (x5 : Int32) (x6 : Int32) (x7 : Int32), k13 s0 x1 x2 x4 x5 x6 x7 = some z1 → Aw p l e rm_X2_tryGuards s m args below meth c Q D A 9 (wC N s0) 13 [(0, .ref (N.1 11)), (1, .int x1), (2, .int x2), (3, .ref (N.1 7)), (4, .int x4), (5, .int x5), (6, .int x6), (7, .int x7)] []) (s0 : St) (x1 : Int32) (x2 : Int32) (x4 : Int32) (x5 : Int32) (x6 : Int32) (x7 : Int32) (h : F_X2_tryGuards_77 k13 s0 x1 x2 x4 x5 x6 x7 = some z1) : Aw p l e rm_X2_tryGuards s m args below meth c Q D A 9 (wC N s0) 77 [(0, .ref (N.1 11)), (1, .int x1), (2, .int x2), (3, .ref (N.1 7)), (4, .int x4), (5, .int x5), (6, .int x6), (7, .int x7)] [] := by
  unfold F_X2_tryGuards_77 at h
  obtain ⟨y1, ey1⟩ : ∃ q : Int32, q = x7 + (1 : Int32) := ⟨_, rfl⟩
  have h := oL_e ey1 h
  refine aw_iinc (v := y1) (k := 7) (lv' := [(0, .ref (N.1 11)), (1, .int x1), (2, .int x2), (3, .ref (N.1 7)), (4, .int x4), (5, .int x5), (6, .int x6), (7, .int y1)]) C [1, 2, 3, 4, 5, 6, 7, 0] dX2_tryGuards_77 rfl (by rw [ey1]; rfl) (by decide) rfl ?_
  refine aw_goto (tgt := 13) C dX2_tryGuards_80 (by decide) ?_
  refine aw_sub (lv' := [(0, .ref (N.1 11)), (1, .int x1), (2, .int x2), (3, .ref (N.1 7)), (4, .int x4), (5, .int x5), (6, .int x6), (7, .int y1)]) [0, 1, 2, 3, 4, 5, 6, 7] rfl ?_
  exact hk13 s0 x1 x2 x4 x5 x6 y1 h
def F_X2_tryGuards_13_b (k13 : St → Int32 → Int32 → Int32 → Int32 → Int32 → Int32 → Option (St)) (s0 : St) (x1 : Int32) (x2 : Int32) (x4 : Int32) (x5 : Int32) (x6 : Int32) (x7 : Int32) : Option (St) :=
  if (s0.1 30) ≤ x7 then (
    F_X2_tryGuards_83 s0 x1 x6)
  else (
    if (s0.1 39) ≤ x6 then (
      F_X2_tryGuards_83 s0 x1 x6)
    else (
      if (x2 >>> (x7 &&& 31)) &&& (1 : Int32) = 0 then (
        F_X2_tryGuards_77 k13 s0 x1 x2 x4 x5 x6 x7)
      else (
        oA x7 12 <|
        oA x7 12 <|
        oC (f_X2_walk s0 (s0.2.1 28 (Int32.toNatClampNeg x7)) (39 + Int32.toNatClampNeg x7) x4 x5 (s0.1 39)) fun w6 =>
        oL w6.1 fun v4 => oL w6.2 fun s5 =>
        oL (jmax x6 v4) fun y7 =>
        F_X2_tryGuards_77 k13 s5 x1 x2 x4 x5 y7 x7)))
set_option maxHeartbeats 4000000 in
set_option maxRecDepth 100000 in
theorem T_X2_tryGuards_13_b {z1 : St} {k13 : St → Int32 → Int32 → Int32 → Int32 → Int32 → Int32 → Option (St)} (C : Cx p rm_X2_tryGuards s m args c D A cX2_tryGuards 9 RX2 rm_X2_tryGuards N) (hE : En p l e rm_X2_tryGuards s m args below meth c Q D A cX2_tryGuards .return_ (wC N z1) []) (hk13 : ∀ (s0 : St) (x1 : Int32) (x2 : Int32) (x4 : Int32) (x5 : Int32) (x6 : Int32) (x7 : Int32), k13 s0 x1 x2 x4 x5 x6 x7 = some z1 → Aw p l e rm_X2_tryGuards s m args below meth c Q D A 9 (wC N s0) 13 [(0, .ref (N.1 11)), (1, .int x1), (2, .int x2), (3, .ref (N.1 7)), (4, .int x4), (5, .int x5), (6, .int x6), (7, .int x7)] []) (s0 : St) (x1 : Int32) (x2 : Int32) (x4 : Int32) (x5 : Int32) (x6 : Int32) (x7 : Int32) (h : F_X2_tryGuards_13_b k13 s0 x1 x2 x4 x5 x6 x7 = some z1) : Aw p l e rm_X2_tryGuards s m args below meth c Q D A 9 (wC N s0) 13 [(0, .ref (N.1 11)), (1, .int x1), (2, .int x2), (3, .ref (N.1 7)), (4, .int x4), (5, .int x5), (6, .int x6), (7, .int x7)] [] := by
  unfold F_X2_tryGuards_13_b at h
  refine aw_iload C 7 dX2_tryGuards_13 rfl ?_
  refine aw_aload_n C 3 dX2_tryGuards_15 rfl ?_
  refine cg_dr_held C lw_52_2 dX2_tryGuards_16 ?_
  refine aw_icmp_ge (tgt := 83) C dX2_tryGuards_19 (by decide) (fun q => ?_) (fun q => ?_)
  · have h := bq_t q h
    refine aw_sub (lv' := [(0, .ref (N.1 11)), (1, .int x1), (6, .int x6)]) [0, 1, 6] rfl ?_
    exact T_X2_tryGuards_83 C hE s0 x1 x6 h
  · have h := bq_f q h
    refine aw_iload C 6 dX2_tryGuards_22 rfl ?_
    refine aw_aload_n C 0 dX2_tryGuards_24 rfl ?_
    refine cg_ex_bestLost C lw_52_5 dX2_tryGuards_25 ?_
    refine aw_icmp_ge (tgt := 83) C dX2_tryGuards_28 (by decide) (fun q => ?_) (fun q => ?_)
    · have h := bq_t q h
      refine aw_sub (lv' := [(0, .ref (N.1 11)), (1, .int x1), (6, .int x6)]) [0, 1, 6] rfl ?_
      exact T_X2_tryGuards_83 C hE s0 x1 x6 h
    · have h := bq_f q h
      refine aw_iload_n C 2 dX2_tryGuards_31 rfl ?_
      refine aw_iload C 7 dX2_tryGuards_32 rfl ?_
      refine aw_ishr C dX2_tryGuards_34 ?_
      refine aw_iconst (v := 1) C dX2_tryGuards_35 (by decide) ?_
      refine aw_iand C dX2_tryGuards_36 ?_
      refine aw_if_eq (tgt := 77) C dX2_tryGuards_37 (by decide) (fun q => ?_) (fun q => ?_)
      · have h := bq_t q h
        refine aw_sub (lv' := [(0, .ref (N.1 11)), (1, .int x1), (2, .int x2), (3, .ref (N.1 7)), (4, .int x4), (5, .int x5), (6, .int x6), (7, .int x7)]) [0, 1, 2, 3, 4, 5, 6, 7] rfl ?_
        exact T_X2_tryGuards_77 C hE hk13 s0 x1 x2 x4 x5 x6 x7 h
      · have h := bq_f q h
        refine aw_aload_n C 0 dX2_tryGuards_40 rfl ?_
        refine aw_aload_n C 3 dX2_tryGuards_41 rfl ?_
        refine cg_dr_line C lw_52_3 dX2_tryGuards_42 ?_
        refine aw_iload C 7 dX2_tryGuards_45 rfl ?_
        obtain ⟨q1, h⟩ := oA_e h
        refine ca_iald (k := 28) C (by decide) rfl q1 dX2_tryGuards_47 ?_
        refine aw_aload_n C 0 dX2_tryGuards_48 rfl ?_
        refine cg_ex_goal C lw_7_14 dX2_tryGuards_49 ?_
        refine aw_iload C 7 dX2_tryGuards_52 rfl ?_
        obtain ⟨q2, h⟩ := oA_e h
        refine ca_rald (k := 38) C (by decide) rfl q2 dX2_tryGuards_54 ?_
        refine aw_iload C 4 dX2_tryGuards_55 rfl ?_
        refine aw_iload C 5 dX2_tryGuards_57 rfl ?_
        refine aw_aload_n C 0 dX2_tryGuards_59 rfl ?_
        refine cg_ex_bestLost C lw_52_5 dX2_tryGuards_60 ?_
        obtain ⟨⟨v4, s5⟩, cw6, h⟩ := oC_e h
        have h := oL_e (x := s5) rfl (oL_e (x := v4) rfl h)
        refine aw_callVi (n := 5) (As := [.int (s0.2.1 28 (Int32.toNatClampNeg x7)), .ref (N.2.1 (39 + Int32.toNatClampNeg x7)), .int x4, .int x5, .int (s0.1 39)]) (rest := []) (q0 := 11) C (c_X2_walk l D N s0 s5 (s0.2.1 28 (Int32.toNatClampNeg x7)) (39 + Int32.toNatClampNeg x7) x4 x5 (s0.1 39) v4 cw6) lw_49_12 lw_49_13 lw_49_14 lw_3_5 lw_49_15 rfl rfl (by decide +kernel) ⟨Nat.le_of_ble_eq_true rfl, Nat.le_of_ble_eq_true rfl⟩ rfl rfl rfl rfl rfl (Nat.le_of_ble_eq_true rfl) dX2_tryGuards_63 ?_
        refine aw_istore (lv' := [(0, .ref (N.1 11)), (1, .int x1), (2, .int x2), (3, .ref (N.1 7)), (4, .int x4), (5, .int x5), (6, .int x6), (7, .int x7), (8, .int v4)]) C [1, 2, 3, 4, 5, 6, 7, 8, 0] dX2_tryGuards_66 (by decide) rfl ?_
        refine aw_iload C 6 dX2_tryGuards_68 rfl ?_
        refine aw_iload C 8 dX2_tryGuards_70 rfl ?_
        refine aw_mmax C lw_50_7 lw_28_13 (by decide +kernel) lw_28_14 (Nat.le_of_ble_eq_true rfl) (Nat.le_of_ble_eq_true rfl) dX2_tryGuards_72 ?_
        refine aw_topi (fun y7 ey7 => ?_)
        have h := oL_e ey7 h
        refine aw_istore (lv' := [(0, .ref (N.1 11)), (1, .int x1), (2, .int x2), (3, .ref (N.1 7)), (4, .int x4), (5, .int x5), (6, .int y7), (7, .int x7), (8, .int v4)]) C [1, 2, 3, 4, 5, 6, 0, 7, 8] dX2_tryGuards_75 (by decide) rfl ?_
        refine aw_sub (lv' := [(0, .ref (N.1 11)), (1, .int x1), (2, .int x2), (3, .ref (N.1 7)), (4, .int x4), (5, .int x5), (6, .int y7), (7, .int x7)]) [0, 1, 2, 3, 4, 5, 6, 7] rfl ?_
        exact T_X2_tryGuards_77 C hE hk13 s5 x1 x2 x4 x5 y7 x7 h
def F_X2_tryGuards_13 : Nat → St → Int32 → Int32 → Int32 → Int32 → Int32 → Int32 → Option (St)
  | 0 => fun _ _ _ _ _ _ _ => none
  | n + 1 => F_X2_tryGuards_13_b (F_X2_tryGuards_13 n)
theorem T_X2_tryGuards_13 {z1 : St} (C : Cx p rm_X2_tryGuards s m args c D A cX2_tryGuards 9 RX2 rm_X2_tryGuards N) (hE : En p l e rm_X2_tryGuards s m args below meth c Q D A cX2_tryGuards .return_ (wC N z1) [])  : ∀ (n : Nat) (s0 : St) (x1 : Int32) (x2 : Int32) (x4 : Int32) (x5 : Int32) (x6 : Int32) (x7 : Int32), F_X2_tryGuards_13 n s0 x1 x2 x4 x5 x6 x7 = some z1 → Aw p l e rm_X2_tryGuards s m args below meth c Q D A 9 (wC N s0) 13 [(0, .ref (N.1 11)), (1, .int x1), (2, .int x2), (3, .ref (N.1 7)), (4, .int x4), (5, .int x5), (6, .int x6), (7, .int x7)] [] := by
  intro n
  induction n with
  | zero => intro s0 x1 x2 x4 x5 x6 x7 h; cases h
  | succ n ih => intro s0 x1 x2 x4 x5 x6 x7 h; exact T_X2_tryGuards_13_b C hE ih s0 x1 x2 x4 x5 x6 x7 h
def F_X2_tryGuards_0 (s0 : St) (x1 : Int32) (x2 : Int32) (x4 : Int32) : Option (St) :=
  oC (f_X2_guarded s0 x1) fun w3 =>
  oL w3.1 fun v1 => oL w3.2 fun s2 =>
  oL (0 : Int32) fun y4 =>
  oL (0 : Int32) fun y5 =>
  F_X2_tryGuards_13 100000 s2 x1 x2 x4 v1 y4 y5
set_option maxHeartbeats 4000000 in
set_option maxRecDepth 100000 in
theorem T_X2_tryGuards_0 {z1 : St} (C : Cx p rm_X2_tryGuards s m args c D A cX2_tryGuards 9 RX2 rm_X2_tryGuards N) (hE : En p l e rm_X2_tryGuards s m args below meth c Q D A cX2_tryGuards .return_ (wC N z1) [])  (s0 : St) (x1 : Int32) (x2 : Int32) (x4 : Int32) (h : F_X2_tryGuards_0 s0 x1 x2 x4 = some z1) : Aw p l e rm_X2_tryGuards s m args below meth c Q D A 9 (wC N s0) 0 [(0, .ref (N.1 11)), (1, .int x1), (2, .int x2), (3, .ref (N.1 7)), (4, .int x4)] [] := by
  unfold F_X2_tryGuards_0 at h
  refine aw_aload_n C 0 dX2_tryGuards_0 rfl ?_
  refine aw_iload_n C 1 dX2_tryGuards_1 rfl ?_
  obtain ⟨⟨v1, s2⟩, cw3, h⟩ := oC_e h
  have h := oL_e (x := s2) rfl (oL_e (x := v1) rfl h)
  refine aw_callVi (n := 1) (As := [.int x1]) (rest := []) (q0 := 11) C (c_X2_guarded l D N s0 s2 x1 v1 cw3) lw_49_8 lw_49_9 lw_49_10 lw_3_5 lw_49_11 rfl rfl (by decide +kernel) ⟨Nat.le_of_ble_eq_true rfl, Nat.le_of_ble_eq_true rfl⟩ rfl rfl rfl rfl rfl (Nat.le_of_ble_eq_true rfl) dX2_tryGuards_2 ?_
  refine aw_istore (lv' := [(0, .ref (N.1 11)), (1, .int x1), (2, .int x2), (3, .ref (N.1 7)), (4, .int x4), (5, .int v1)]) C [1, 2, 3, 4, 5, 0] dX2_tryGuards_5 (by decide) rfl ?_
  refine aw_iconst (v := 0) C dX2_tryGuards_7 (by decide) ?_
  refine aw_topi (fun y4 ey4 => ?_)
  have h := oL_e ey4 h
  refine aw_istore (lv' := [(0, .ref (N.1 11)), (1, .int x1), (2, .int x2), (3, .ref (N.1 7)), (4, .int x4), (5, .int v1), (6, .int y4)]) C [1, 2, 3, 4, 5, 6, 0] dX2_tryGuards_8 (by decide) rfl ?_
  refine aw_iconst (v := 0) C dX2_tryGuards_10 (by decide) ?_
  refine aw_topi (fun y5 ey5 => ?_)
  have h := oL_e ey5 h
  refine aw_istore (lv' := [(0, .ref (N.1 11)), (1, .int x1), (2, .int x2), (3, .ref (N.1 7)), (4, .int x4), (5, .int v1), (6, .int y4), (7, .int y5)]) C [1, 2, 3, 4, 5, 6, 7, 0] dX2_tryGuards_11 (by decide) rfl ?_
  refine aw_sub (lv' := [(0, .ref (N.1 11)), (1, .int x1), (2, .int x2), (3, .ref (N.1 7)), (4, .int x4), (5, .int v1), (6, .int y4), (7, .int y5)]) [0, 1, 2, 3, 4, 5, 6, 7] rfl ?_
  exact T_X2_tryGuards_13 C hE 100000 s2 x1 x2 x4 v1 y4 y5 h
def f_X2_tryGuards (s0 : St) (x1 : Int32) (x2 : Int32) (x4 : Int32) : Option (St) := F_X2_tryGuards_0 s0 x1 x2 x4
theorem c_X2_tryGuards (l : Launch) (D : va_G) (N : Nm) (s0 z1 : St) (x1 : Int32) (x2 : Int32) (x4 : Int32) (h : f_X2_tryGuards s0 x1 x2 x4 = some z1) : Metv l yX2_tryGuards (tsU yX2_tryGuards cX2_tryGuards 9 none) rm_X2_tryGuards D N [.ref (N.1 11), .int x1, .int x2, .ref (N.1 7), .int x4] (wC N s0) (wC N z1) :=
  met_v (cc := cX2_tryGuards) (nL := 9) (own := RX2) (by decide) rfl (Nat.le_of_ble_eq_true rfl) (fun p e s m args below meth c Q A C hE => aw_sub [0, 1, 2, 3, 4] rfl (T_X2_tryGuards_0 C hE s0 x1 x2 x4 h))
/-! AwardLine$Exodus.place(IILAwardLine$Drafts;I)V -/
def rm_X2_place : Room := { frames := 4, cells := 0, slots := 0, locals := 106 }
def F_X2_place_111 (s0 : St) : Option (St) :=
  some s0
set_option maxHeartbeats 4000000 in
set_option maxRecDepth 100000 in
theorem T_X2_place_111 {z1 : St} (C : Cx p rm_X2_place s m args c D A cX2_place 7 RX2 rm_X2_place N) (hE : En p l e rm_X2_place s m args below meth c Q D A cX2_place .return_ (wC N z1) [])  (s0 : St) (h : F_X2_place_111 s0 = some z1) : Aw p l e rm_X2_place s m args below meth c Q D A 7 (wC N s0) 111 [] [] := by
  unfold F_X2_place_111 at h
  cases h
  exact aw_ret hE dX2_place_111
def F_X2_place_99 (k50 : St → Int32 → Int32 → Int32 → Int32 → Option (St)) (k68 : St → Int32 → Int32 → Int32 → Int32 → Int32 → Option (St)) (s0 : St) (x1 : Int32) (x2 : Int32) (x4 : Int32) (x5 : Int32) (x6 : Int32) : Option (St) :=
  oL (x6 + (1 : Int32)) fun y1 =>
  k68 s0 x1 x2 x4 x5 y1
set_option maxHeartbeats 4000000 in
set_option maxRecDepth 100000 in
theorem T_X2_place_99 {z1 : St} {k50 : St → Int32 → Int32 → Int32 → Int32 → Option (St)} {k68 : St → Int32 → Int32 → Int32 → Int32 → Int32 → Option (St)} (C : Cx p rm_X2_place s m args c D A cX2_place 7 RX2 rm_X2_place N) (hE : En p l e rm_X2_place s m args below meth c Q D A cX2_place .return_ (wC N z1) []) (hk50 : ∀ (s0 : St) (x1 : Int32) (x2 : Int32) (x4 : Int32) (x5 : Int32), k50 s0 x1 x2 x4 x5 = some z1 → Aw p l e rm_X2_place s m args below meth c Q D A 7 (wC N s0) 50 [(0, .ref (N.1 11)), (1, .int x1), (2, .int x2), (3, .ref (N.1 7)), (4, .int x4), (5, .int x5)] []) (hk68 : ∀ (s0 : St) (x1 : Int32) (x2 : Int32) (x4 : Int32) (x5 : Int32) (x6 : Int32), k68 s0 x1 x2 x4 x5 x6 = some z1 → Aw p l e rm_X2_place s m args below meth c Q D A 7 (wC N s0) 68 [(0, .ref (N.1 11)), (1, .int x1), (2, .int x2), (3, .ref (N.1 7)), (4, .int x4), (5, .int x5), (6, .int x6)] []) (s0 : St) (x1 : Int32) (x2 : Int32) (x4 : Int32) (x5 : Int32) (x6 : Int32) (h : F_X2_place_99 k50 k68 s0 x1 x2 x4 x5 x6 = some z1) : Aw p l e rm_X2_place s m args below meth c Q D A 7 (wC N s0) 99 [(0, .ref (N.1 11)), (1, .int x1), (2, .int x2), (3, .ref (N.1 7)), (4, .int x4), (5, .int x5), (6, .int x6)] [] := by
  unfold F_X2_place_99 at h
  obtain ⟨y1, ey1⟩ : ∃ q : Int32, q = x6 + (1 : Int32) := ⟨_, rfl⟩
  have h := oL_e ey1 h
  refine aw_iinc (v := y1) (k := 6) (lv' := [(0, .ref (N.1 11)), (1, .int x1), (2, .int x2), (3, .ref (N.1 7)), (4, .int x4), (5, .int x5), (6, .int y1)]) C [1, 2, 3, 4, 5, 6, 0] dX2_place_99 rfl (by rw [ey1]; rfl) (by decide) rfl ?_
  refine aw_goto (tgt := 68) C dX2_place_102 (by decide) ?_
  refine aw_sub (lv' := [(0, .ref (N.1 11)), (1, .int x1), (2, .int x2), (3, .ref (N.1 7)), (4, .int x4), (5, .int x5), (6, .int y1)]) [0, 1, 2, 3, 4, 5, 6] rfl ?_
  exact hk68 s0 x1 x2 x4 x5 y1 h
def F_X2_place_68_b (k50 : St → Int32 → Int32 → Int32 → Int32 → Option (St)) (k68 : St → Int32 → Int32 → Int32 → Int32 → Int32 → Option (St)) (s0 : St) (x1 : Int32) (x2 : Int32) (x4 : Int32) (x5 : Int32) (x6 : Int32) : Option (St) :=
  if (1 : Int32) <<< ((s0.1 37) &&& 31) ≤ x6 then (
    oL (x5 + (1 : Int32)) fun y1 =>
    k50 s0 x1 x2 x4 y1)
  else (
    oC (f_J6_bitCount_0f7a4 s0 x6) fun w4 =>
    oL w4.1 fun v2 => oL w4.2 fun s3 =>
    if v2 = x5 then (
      oC (f_X2_tryGuards s3 x6 x2 x4) fun w7 =>
      oL w7 fun s6 =>
      F_X2_place_99 k50 k68 s6 x1 x2 x4 x5 x6)
    else (
      F_X2_place_99 k50 k68 s3 x1 x2 x4 x5 x6))
set_option maxHeartbeats 4000000 in
set_option maxRecDepth 100000 in
theorem T_X2_place_68_b {z1 : St} {k50 : St → Int32 → Int32 → Int32 → Int32 → Option (St)} {k68 : St → Int32 → Int32 → Int32 → Int32 → Int32 → Option (St)} (C : Cx p rm_X2_place s m args c D A cX2_place 7 RX2 rm_X2_place N) (hE : En p l e rm_X2_place s m args below meth c Q D A cX2_place .return_ (wC N z1) []) (hk50 : ∀ (s0 : St) (x1 : Int32) (x2 : Int32) (x4 : Int32) (x5 : Int32), k50 s0 x1 x2 x4 x5 = some z1 → Aw p l e rm_X2_place s m args below meth c Q D A 7 (wC N s0) 50 [(0, .ref (N.1 11)), (1, .int x1), (2, .int x2), (3, .ref (N.1 7)), (4, .int x4), (5, .int x5)] []) (hk68 : ∀ (s0 : St) (x1 : Int32) (x2 : Int32) (x4 : Int32) (x5 : Int32) (x6 : Int32), k68 s0 x1 x2 x4 x5 x6 = some z1 → Aw p l e rm_X2_place s m args below meth c Q D A 7 (wC N s0) 68 [(0, .ref (N.1 11)), (1, .int x1), (2, .int x2), (3, .ref (N.1 7)), (4, .int x4), (5, .int x5), (6, .int x6)] []) (s0 : St) (x1 : Int32) (x2 : Int32) (x4 : Int32) (x5 : Int32) (x6 : Int32) (h : F_X2_place_68_b k50 k68 s0 x1 x2 x4 x5 x6 = some z1) : Aw p l e rm_X2_place s m args below meth c Q D A 7 (wC N s0) 68 [(0, .ref (N.1 11)), (1, .int x1), (2, .int x2), (3, .ref (N.1 7)), (4, .int x4), (5, .int x5), (6, .int x6)] [] := by
  unfold F_X2_place_68_b at h
  refine aw_iload C 6 dX2_place_68 rfl ?_
  refine aw_iconst (v := 1) C dX2_place_70 (by decide) ?_
  refine aw_aload_n C 0 dX2_place_71 rfl ?_
  refine cg_ex_candidates C lw_47_21 dX2_place_72 ?_
  refine aw_ishl C dX2_place_75 ?_
  refine aw_icmp_ge (tgt := 105) C dX2_place_76 (by decide) (fun q => ?_) (fun q => ?_)
  · have h := bq_t q h
    obtain ⟨y1, ey1⟩ : ∃ q : Int32, q = x5 + (1 : Int32) := ⟨_, rfl⟩
    have h := oL_e ey1 h
    refine aw_iinc (v := y1) (k := 5) (lv' := [(0, .ref (N.1 11)), (1, .int x1), (2, .int x2), (3, .ref (N.1 7)), (4, .int x4), (5, .int y1), (6, .int x6)]) C [1, 2, 3, 4, 5, 0, 6] dX2_place_105 rfl (by rw [ey1]; rfl) (by decide) rfl ?_
    refine aw_goto (tgt := 50) C dX2_place_108 (by decide) ?_
    refine aw_sub (lv' := [(0, .ref (N.1 11)), (1, .int x1), (2, .int x2), (3, .ref (N.1 7)), (4, .int x4), (5, .int y1)]) [0, 1, 2, 3, 4, 5] rfl ?_
    exact hk50 s0 x1 x2 x4 y1 h
  · have h := bq_f q h
    refine aw_iload C 6 dX2_place_79 rfl ?_
    obtain ⟨⟨v2, s3⟩, cw4, h⟩ := oC_e h
    have h := oL_e (x := s3) rfl (oL_e (x := v2) rfl h)
    refine aw_callSi (n := 1) (As := [.int x6]) (rest := []) C (c_J6_bitCount_0f7a4 l D N s0 s3 x6 v2 cw4) lw_52_6 lw_30_15 lw_30_16 lw_30_17 rfl rfl (by decide +kernel) ⟨Nat.le_of_ble_eq_true rfl, Nat.le_of_ble_eq_true rfl⟩ rfl rfl (Nat.le_of_ble_eq_true rfl) dX2_place_81 ?_
    refine aw_iload C 5 dX2_place_84 rfl ?_
    refine aw_icmp_ne (tgt := 99) C dX2_place_86 (by decide) (fun q => ?_) (fun q => ?_)
    · have h := bq_f q h
      refine aw_sub (lv' := [(0, .ref (N.1 11)), (1, .int x1), (2, .int x2), (3, .ref (N.1 7)), (4, .int x4), (5, .int x5), (6, .int x6)]) [0, 1, 2, 3, 4, 5, 6] rfl ?_
      exact T_X2_place_99 C hE hk50 hk68 s3 x1 x2 x4 x5 x6 h
    · have h := bq_t q h
      refine aw_aload_n C 0 dX2_place_89 rfl ?_
      refine aw_iload C 6 dX2_place_90 rfl ?_
      refine aw_iload_n C 2 dX2_place_92 rfl ?_
      refine aw_aload_n C 3 dX2_place_93 rfl ?_
      refine aw_iload C 4 dX2_place_94 rfl ?_
      obtain ⟨s6, cw7, h⟩ := oC_e h
      have h := oL_e (x := s6) rfl h
      refine aw_callVv (n := 4) (As := [.int x6, .int x2, .ref (N.1 7), .int x4]) (rest := []) (q0 := 11) C (c_X2_tryGuards l D N s3 s6 x6 x2 x4 cw7) lw_52_7 lw_52_8 lw_52_9 lw_3_5 lw_52_10 rfl rfl (by decide +kernel) ⟨Nat.le_of_ble_eq_true rfl, Nat.le_of_ble_eq_true rfl⟩ rfl rfl rfl rfl rfl (Nat.le_of_ble_eq_true rfl) dX2_place_96 ?_
      refine aw_sub (lv' := [(0, .ref (N.1 11)), (1, .int x1), (2, .int x2), (3, .ref (N.1 7)), (4, .int x4), (5, .int x5), (6, .int x6)]) [0, 1, 2, 3, 4, 5, 6] rfl ?_
      exact T_X2_place_99 C hE hk50 hk68 s6 x1 x2 x4 x5 x6 h
def F_X2_place_68 (k50 : St → Int32 → Int32 → Int32 → Int32 → Option (St)) : Nat → St → Int32 → Int32 → Int32 → Int32 → Int32 → Option (St)
  | 0 => fun _ _ _ _ _ _ => none
  | n + 1 => F_X2_place_68_b k50 (F_X2_place_68 k50 n)
theorem T_X2_place_68 {z1 : St} {k50 : St → Int32 → Int32 → Int32 → Int32 → Option (St)} (C : Cx p rm_X2_place s m args c D A cX2_place 7 RX2 rm_X2_place N) (hE : En p l e rm_X2_place s m args below meth c Q D A cX2_place .return_ (wC N z1) []) (hk50 : ∀ (s0 : St) (x1 : Int32) (x2 : Int32) (x4 : Int32) (x5 : Int32), k50 s0 x1 x2 x4 x5 = some z1 → Aw p l e rm_X2_place s m args below meth c Q D A 7 (wC N s0) 50 [(0, .ref (N.1 11)), (1, .int x1), (2, .int x2), (3, .ref (N.1 7)), (4, .int x4), (5, .int x5)] []) : ∀ (n : Nat) (s0 : St) (x1 : Int32) (x2 : Int32) (x4 : Int32) (x5 : Int32) (x6 : Int32), F_X2_place_68 k50 n s0 x1 x2 x4 x5 x6 = some z1 → Aw p l e rm_X2_place s m args below meth c Q D A 7 (wC N s0) 68 [(0, .ref (N.1 11)), (1, .int x1), (2, .int x2), (3, .ref (N.1 7)), (4, .int x4), (5, .int x5), (6, .int x6)] [] := by
  intro n
  induction n with
  | zero => intro s0 x1 x2 x4 x5 x6 h; cases h
  | succ n ih => intro s0 x1 x2 x4 x5 x6 h; exact T_X2_place_68_b C hE hk50 ih s0 x1 x2 x4 x5 x6 h
def F_X2_place_50_b (k50 : St → Int32 → Int32 → Int32 → Int32 → Option (St)) (s0 : St) (x1 : Int32) (x2 : Int32) (x4 : Int32) (x5 : Int32) : Option (St) :=
  if x1 < x5 then (
    F_X2_place_111 s0)
  else (
    if (s0.1 37) < x5 then (
      F_X2_place_111 s0)
    else (
      oL (0 : Int32) fun y1 =>
      F_X2_place_68 k50 100000 s0 x1 x2 x4 x5 y1))
set_option maxHeartbeats 4000000 in
set_option maxRecDepth 100000 in
theorem T_X2_place_50_b {z1 : St} {k50 : St → Int32 → Int32 → Int32 → Int32 → Option (St)} (C : Cx p rm_X2_place s m args c D A cX2_place 7 RX2 rm_X2_place N) (hE : En p l e rm_X2_place s m args below meth c Q D A cX2_place .return_ (wC N z1) []) (hk50 : ∀ (s0 : St) (x1 : Int32) (x2 : Int32) (x4 : Int32) (x5 : Int32), k50 s0 x1 x2 x4 x5 = some z1 → Aw p l e rm_X2_place s m args below meth c Q D A 7 (wC N s0) 50 [(0, .ref (N.1 11)), (1, .int x1), (2, .int x2), (3, .ref (N.1 7)), (4, .int x4), (5, .int x5)] []) (s0 : St) (x1 : Int32) (x2 : Int32) (x4 : Int32) (x5 : Int32) (h : F_X2_place_50_b k50 s0 x1 x2 x4 x5 = some z1) : Aw p l e rm_X2_place s m args below meth c Q D A 7 (wC N s0) 50 [(0, .ref (N.1 11)), (1, .int x1), (2, .int x2), (3, .ref (N.1 7)), (4, .int x4), (5, .int x5)] [] := by
  unfold F_X2_place_50_b at h
  refine aw_iload C 5 dX2_place_50 rfl ?_
  refine aw_iload_n C 1 dX2_place_52 rfl ?_
  refine aw_icmp_gt (tgt := 111) C dX2_place_53 (by decide) (fun q => ?_) (fun q => ?_)
  · have h := bq_t q h
    refine aw_sub (lv' := []) [] rfl ?_
    exact T_X2_place_111 C hE s0 h
  · have h := bq_f q h
    refine aw_iload C 5 dX2_place_56 rfl ?_
    refine aw_aload_n C 0 dX2_place_58 rfl ?_
    refine cg_ex_candidates C lw_47_21 dX2_place_59 ?_
    refine aw_icmp_gt (tgt := 111) C dX2_place_62 (by decide) (fun q => ?_) (fun q => ?_)
    · have h := bq_t q h
      refine aw_sub (lv' := []) [] rfl ?_
      exact T_X2_place_111 C hE s0 h
    · have h := bq_f q h
      refine aw_iconst (v := 0) C dX2_place_65 (by decide) ?_
      refine aw_topi (fun y1 ey1 => ?_)
      have h := oL_e ey1 h
      refine aw_istore (lv' := [(0, .ref (N.1 11)), (1, .int x1), (2, .int x2), (3, .ref (N.1 7)), (4, .int x4), (5, .int x5), (6, .int y1)]) C [1, 2, 3, 4, 5, 6, 0] dX2_place_66 (by decide) rfl ?_
      refine aw_sub (lv' := [(0, .ref (N.1 11)), (1, .int x1), (2, .int x2), (3, .ref (N.1 7)), (4, .int x4), (5, .int x5), (6, .int y1)]) [0, 1, 2, 3, 4, 5, 6] rfl ?_
      exact T_X2_place_68 C hE hk50 100000 s0 x1 x2 x4 x5 y1 h
def F_X2_place_50 : Nat → St → Int32 → Int32 → Int32 → Int32 → Option (St)
  | 0 => fun _ _ _ _ _ => none
  | n + 1 => F_X2_place_50_b (F_X2_place_50 n)
theorem T_X2_place_50 {z1 : St} (C : Cx p rm_X2_place s m args c D A cX2_place 7 RX2 rm_X2_place N) (hE : En p l e rm_X2_place s m args below meth c Q D A cX2_place .return_ (wC N z1) [])  : ∀ (n : Nat) (s0 : St) (x1 : Int32) (x2 : Int32) (x4 : Int32) (x5 : Int32), F_X2_place_50 n s0 x1 x2 x4 x5 = some z1 → Aw p l e rm_X2_place s m args below meth c Q D A 7 (wC N s0) 50 [(0, .ref (N.1 11)), (1, .int x1), (2, .int x2), (3, .ref (N.1 7)), (4, .int x4), (5, .int x5)] [] := by
  intro n
  induction n with
  | zero => intro s0 x1 x2 x4 x5 h; cases h
  | succ n ih => intro s0 x1 x2 x4 x5 h; exact T_X2_place_50_b C hE ih s0 x1 x2 x4 x5 h
def F_X2_place_3_b (k3 : St → Int32 → Int32 → Int32 → Int32 → Option (St)) (s0 : St) (x1 : Int32) (x2 : Int32) (x4 : Int32) (x5 : Int32) : Option (St) :=
  if (s0.1 30) ≤ x5 then (
    oL (sI s0 38 (0 : Int32)) fun s1 =>
    oL (sI s1 39 (1000000000 : Int32)) fun s2 =>
    oL (0 : Int32) fun y3 =>
    F_X2_place_50 100000 s2 x1 x2 x4 y3)
  else (
    oA x5 12 <|
    oA x5 12 <|
    oC (f_X2_aim s0 (s0.2.1 28 (Int32.toNatClampNeg x5)) (39 + Int32.toNatClampNeg x5)) fun w9 =>
    oL w9 fun s8 =>
    oL (x5 + (1 : Int32)) fun y10 =>
    k3 s8 x1 x2 x4 y10)
set_option maxHeartbeats 4000000 in
set_option maxRecDepth 100000 in
theorem T_X2_place_3_b {z1 : St} {k3 : St → Int32 → Int32 → Int32 → Int32 → Option (St)} (C : Cx p rm_X2_place s m args c D A cX2_place 7 RX2 rm_X2_place N) (hE : En p l e rm_X2_place s m args below meth c Q D A cX2_place .return_ (wC N z1) []) (hk3 : ∀ (s0 : St) (x1 : Int32) (x2 : Int32) (x4 : Int32) (x5 : Int32), k3 s0 x1 x2 x4 x5 = some z1 → Aw p l e rm_X2_place s m args below meth c Q D A 7 (wC N s0) 3 [(0, .ref (N.1 11)), (1, .int x1), (2, .int x2), (3, .ref (N.1 7)), (4, .int x4), (5, .int x5)] []) (s0 : St) (x1 : Int32) (x2 : Int32) (x4 : Int32) (x5 : Int32) (h : F_X2_place_3_b k3 s0 x1 x2 x4 x5 = some z1) : Aw p l e rm_X2_place s m args below meth c Q D A 7 (wC N s0) 3 [(0, .ref (N.1 11)), (1, .int x1), (2, .int x2), (3, .ref (N.1 7)), (4, .int x4), (5, .int x5)] [] := by
  unfold F_X2_place_3_b at h
  refine aw_iload C 5 dX2_place_3 rfl ?_
  refine aw_aload_n C 3 dX2_place_5 rfl ?_
  refine cg_dr_held C lw_52_2 dX2_place_6 ?_
  refine aw_icmp_ge (tgt := 36) C dX2_place_9 (by decide) (fun q => ?_) (fun q => ?_)
  · have h := bq_t q h
    refine aw_aload_n C 0 dX2_place_36 rfl ?_
    refine aw_iconst (v := 0) C dX2_place_37 (by decide) ?_
    refine cp_ex_bestGuards C lw_52_4 dX2_place_38 ?_
    refine ca_name (fun s1 es1 => ?_)
    have h := oL_e es1 h
    refine aw_aload_n C 0 dX2_place_41 rfl ?_
    refine aw_ldc (v := 1000000000) C lw_48_18 dX2_place_42 ?_
    refine cp_ex_bestLost C lw_52_5 dX2_place_44 ?_
    refine ca_name (fun s2 es2 => ?_)
    have h := oL_e es2 h
    refine aw_iconst (v := 0) C dX2_place_47 (by decide) ?_
    refine aw_topi (fun y3 ey3 => ?_)
    have h := oL_e ey3 h
    refine aw_istore (lv' := [(0, .ref (N.1 11)), (1, .int x1), (2, .int x2), (3, .ref (N.1 7)), (4, .int x4), (5, .int y3)]) C [1, 2, 3, 4, 5, 0] dX2_place_48 (by decide) rfl ?_
    refine aw_sub (lv' := [(0, .ref (N.1 11)), (1, .int x1), (2, .int x2), (3, .ref (N.1 7)), (4, .int x4), (5, .int y3)]) [0, 1, 2, 3, 4, 5] rfl ?_
    exact T_X2_place_50 C hE 100000 s2 x1 x2 x4 y3 h
  · have h := bq_f q h
    refine aw_aload_n C 0 dX2_place_12 rfl ?_
    refine aw_aload_n C 3 dX2_place_13 rfl ?_
    refine cg_dr_line C lw_52_3 dX2_place_14 ?_
    refine aw_iload C 5 dX2_place_17 rfl ?_
    obtain ⟨q4, h⟩ := oA_e h
    refine ca_iald (k := 28) C (by decide) rfl q4 dX2_place_19 ?_
    refine aw_aload_n C 0 dX2_place_20 rfl ?_
    refine cg_ex_goal C lw_7_14 dX2_place_21 ?_
    refine aw_iload C 5 dX2_place_24 rfl ?_
    obtain ⟨q5, h⟩ := oA_e h
    refine ca_rald (k := 38) C (by decide) rfl q5 dX2_place_26 ?_
    obtain ⟨s8, cw9, h⟩ := oC_e h
    have h := oL_e (x := s8) rfl h
    refine aw_callVv (n := 2) (As := [.int (s0.2.1 28 (Int32.toNatClampNeg x5)), .ref (N.2.1 (39 + Int32.toNatClampNeg x5))]) (rest := []) (q0 := 11) C (c_X2_aim l D N s0 s8 (s0.2.1 28 (Int32.toNatClampNeg x5)) (39 + Int32.toNatClampNeg x5) cw9) lw_48_19 lw_48_20 lw_48_21 lw_3_5 lw_48_22 rfl rfl (by decide +kernel) ⟨Nat.le_of_ble_eq_true rfl, Nat.le_of_ble_eq_true rfl⟩ rfl rfl rfl rfl rfl (Nat.le_of_ble_eq_true rfl) dX2_place_27 ?_
    obtain ⟨y10, ey10⟩ : ∃ q : Int32, q = x5 + (1 : Int32) := ⟨_, rfl⟩
    have h := oL_e ey10 h
    refine aw_iinc (v := y10) (k := 5) (lv' := [(0, .ref (N.1 11)), (1, .int x1), (2, .int x2), (3, .ref (N.1 7)), (4, .int x4), (5, .int y10)]) C [1, 2, 3, 4, 5, 0] dX2_place_30 rfl (by rw [ey10]; rfl) (by decide) rfl ?_
    refine aw_goto (tgt := 3) C dX2_place_33 (by decide) ?_
    refine aw_sub (lv' := [(0, .ref (N.1 11)), (1, .int x1), (2, .int x2), (3, .ref (N.1 7)), (4, .int x4), (5, .int y10)]) [0, 1, 2, 3, 4, 5] rfl ?_
    exact hk3 s8 x1 x2 x4 y10 h
def F_X2_place_3 : Nat → St → Int32 → Int32 → Int32 → Int32 → Option (St)
  | 0 => fun _ _ _ _ _ => none
  | n + 1 => F_X2_place_3_b (F_X2_place_3 n)
theorem T_X2_place_3 {z1 : St} (C : Cx p rm_X2_place s m args c D A cX2_place 7 RX2 rm_X2_place N) (hE : En p l e rm_X2_place s m args below meth c Q D A cX2_place .return_ (wC N z1) [])  : ∀ (n : Nat) (s0 : St) (x1 : Int32) (x2 : Int32) (x4 : Int32) (x5 : Int32), F_X2_place_3 n s0 x1 x2 x4 x5 = some z1 → Aw p l e rm_X2_place s m args below meth c Q D A 7 (wC N s0) 3 [(0, .ref (N.1 11)), (1, .int x1), (2, .int x2), (3, .ref (N.1 7)), (4, .int x4), (5, .int x5)] [] := by
  intro n
  induction n with
  | zero => intro s0 x1 x2 x4 x5 h; cases h
  | succ n ih => intro s0 x1 x2 x4 x5 h; exact T_X2_place_3_b C hE ih s0 x1 x2 x4 x5 h
def F_X2_place_0 (s0 : St) (x1 : Int32) (x2 : Int32) (x4 : Int32) : Option (St) :=
  oL (0 : Int32) fun y1 =>
  F_X2_place_3 100000 s0 x1 x2 x4 y1
set_option maxHeartbeats 4000000 in
set_option maxRecDepth 100000 in
theorem T_X2_place_0 {z1 : St} (C : Cx p rm_X2_place s m args c D A cX2_place 7 RX2 rm_X2_place N) (hE : En p l e rm_X2_place s m args below meth c Q D A cX2_place .return_ (wC N z1) [])  (s0 : St) (x1 : Int32) (x2 : Int32) (x4 : Int32) (h : F_X2_place_0 s0 x1 x2 x4 = some z1) : Aw p l e rm_X2_place s m args below meth c Q D A 7 (wC N s0) 0 [(0, .ref (N.1 11)), (1, .int x1), (2, .int x2), (3, .ref (N.1 7)), (4, .int x4)] [] := by
  unfold F_X2_place_0 at h
  refine aw_iconst (v := 0) C dX2_place_0 (by decide) ?_
  refine aw_topi (fun y1 ey1 => ?_)
  have h := oL_e ey1 h
  refine aw_istore (lv' := [(0, .ref (N.1 11)), (1, .int x1), (2, .int x2), (3, .ref (N.1 7)), (4, .int x4), (5, .int y1)]) C [1, 2, 3, 4, 5, 0] dX2_place_1 (by decide) rfl ?_
  refine aw_sub (lv' := [(0, .ref (N.1 11)), (1, .int x1), (2, .int x2), (3, .ref (N.1 7)), (4, .int x4), (5, .int y1)]) [0, 1, 2, 3, 4, 5] rfl ?_
  exact T_X2_place_3 C hE 100000 s0 x1 x2 x4 y1 h
def f_X2_place (s0 : St) (x1 : Int32) (x2 : Int32) (x4 : Int32) : Option (St) := F_X2_place_0 s0 x1 x2 x4
theorem c_X2_place (l : Launch) (D : va_G) (N : Nm) (s0 z1 : St) (x1 : Int32) (x2 : Int32) (x4 : Int32) (h : f_X2_place s0 x1 x2 x4 = some z1) : Metv l yX2_place (tsU yX2_place cX2_place 7 none) rm_X2_place D N [.ref (N.1 11), .int x1, .int x2, .ref (N.1 7), .int x4] (wC N s0) (wC N z1) :=
  met_v (cc := cX2_place) (nL := 7) (own := RX2) (by decide) rfl (Nat.le_of_ble_eq_true rfl) (fun p e s m args below meth c Q A C hE => aw_sub [0, 1, 2, 3, 4] rfl (T_X2_place_0 C hE s0 x1 x2 x4 h))
end WK
