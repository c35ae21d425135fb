section WK
variable {p : Program} {l : Launch} {e : Env} {s : State} {m : MethodId} {args : Array Value} {below : List Frame} {meth : Method} {c : Code} {Q : State → Prop} {D : va_G} {A : Nat → Prop} {N : Nm}
/-! AwardLine$Judge.isOperand(I)Z -/
def rm_X3_isOperand : Room := { frames := 0, cells := 0, slots := 0, locals := 0 }
def F_X3_isOperand_23 (s0 : St) (t0 : Int32) : Option (Int32 × St) :=
  some (t0, s0)
set_option maxHeartbeats 4000000 in
set_option maxRecDepth 100000 in
theorem T_X3_isOperand_23 {r : Int32} {z1 : St} (C : Cx p rm_X3_isOperand s m args c D A cX3_isOperand 1 RX3 rm_X3_isOperand N) (hE : En p l e rm_X3_isOperand s m args below meth c Q D A cX3_isOperand .ireturn (wC N z1) [.int r])  (s0 : St) (t0 : Int32) (h : F_X3_isOperand_23 s0 t0 = some (r, z1)) : Aw p l e rm_X3_isOperand s m args below meth c Q D A 1 (wC N s0) 23 [] [.int t0] := by
  unfold F_X3_isOperand_23 at h
  cases h
  exact aw_ret hE dX3_isOperand_23
def F_X3_isOperand_18 (s0 : St) : Option (Int32 × St) :=
  F_X3_isOperand_23 s0 (1 : Int32)
set_option maxHeartbeats 4000000 in
set_option maxRecDepth 100000 in
theorem T_X3_isOperand_18 {r : Int32} {z1 : St} (C : Cx p rm_X3_isOperand s m args c D A cX3_isOperand 1 RX3 rm_X3_isOperand N) (hE : En p l e rm_X3_isOperand s m args below meth c Q D A cX3_isOperand .ireturn (wC N z1) [.int r])  (s0 : St) (h : F_X3_isOperand_18 s0 = some (r, z1)) : Aw p l e rm_X3_isOperand s m args below meth c Q D A 1 (wC N s0) 18 [] [] := by
  unfold F_X3_isOperand_18 at h
  refine aw_iconst (v := 1) C dX3_isOperand_18 (by decide) ?_
  refine aw_goto (tgt := 23) C dX3_isOperand_19 (by decide) ?_
  refine aw_sub (lv' := []) [] rfl ?_
  exact T_X3_isOperand_23 C hE s0 (1 : Int32) h
def F_X3_isOperand_22 (s0 : St) : Option (Int32 × St) :=
  F_X3_isOperand_23 s0 (0 : Int32)
set_option maxHeartbeats 4000000 in
set_option maxRecDepth 100000 in
theorem T_X3_isOperand_22 {r : Int32} {z1 : St} (C : Cx p rm_X3_isOperand s m args c D A cX3_isOperand 1 RX3 rm_X3_isOperand N) (hE : En p l e rm_X3_isOperand s m args below meth c Q D A cX3_isOperand .ireturn (wC N z1) [.int r])  (s0 : St) (h : F_X3_isOperand_22 s0 = some (r, z1)) : Aw p l e rm_X3_isOperand s m args below meth c Q D A 1 (wC N s0) 22 [] [] := by
  unfold F_X3_isOperand_22 at h
  refine aw_iconst (v := 0) C dX3_isOperand_22 (by decide) ?_
  refine aw_sub (lv' := []) [] rfl ?_
  exact T_X3_isOperand_23 C hE s0 (0 : Int32) h
def F_X3_isOperand_0 (s0 : St) (x0 : Int32) : Option (Int32 × St) :=
  if x0 = (20 : Int32) then (
    F_X3_isOperand_18 s0)
  else (
    if x0 < (11 : Int32) then (
      F_X3_isOperand_22 s0)
    else (
      if (16 : Int32) < x0 then (
        F_X3_isOperand_22 s0)
      else (
        F_X3_isOperand_18 s0)))
set_option maxHeartbeats 4000000 in
set_option maxRecDepth 100000 in
theorem T_X3_isOperand_0 {r : Int32} {z1 : St} (C : Cx p rm_X3_isOperand s m args c D A cX3_isOperand 1 RX3 rm_X3_isOperand N) (hE : En p l e rm_X3_isOperand s m args below meth c Q D A cX3_isOperand .ireturn (wC N z1) [.int r])  (s0 : St) (x0 : Int32) (h : F_X3_isOperand_0 s0 x0 = some (r, z1)) : Aw p l e rm_X3_isOperand s m args below meth c Q D A 1 (wC N s0) 0 [(0, .int x0)] [] := by
  unfold F_X3_isOperand_0 at h
  refine aw_iload_n C 0 dX3_isOperand_0 rfl ?_
  refine aw_bipush (v := 20) C dX3_isOperand_1 (by decide) ?_
  refine aw_icmp_eq (tgt := 18) C dX3_isOperand_3 (by decide) (fun q => ?_) (fun q => ?_)
  · have h := bq_t q h
    refine aw_sub (lv' := []) [] rfl ?_
    exact T_X3_isOperand_18 C hE s0 h
  · have h := bq_f q h
    refine aw_iload_n C 0 dX3_isOperand_6 rfl ?_
    refine aw_bipush (v := 11) C dX3_isOperand_7 (by decide) ?_
    refine aw_icmp_lt (tgt := 22) C dX3_isOperand_9 (by decide) (fun q => ?_) (fun q => ?_)
    · have h := bq_t q h
      refine aw_sub (lv' := []) [] rfl ?_
      exact T_X3_isOperand_22 C hE s0 h
    · have h := bq_f q h
      refine aw_iload_n C 0 dX3_isOperand_12 rfl ?_
      refine aw_bipush (v := 16) C dX3_isOperand_13 (by decide) ?_
      refine aw_icmp_gt (tgt := 22) C dX3_isOperand_15 (by decide) (fun q => ?_) (fun q => ?_)
      · have h := bq_t q h
        refine aw_sub (lv' := []) [] rfl ?_
        exact T_X3_isOperand_22 C hE s0 h
      · have h := bq_f q h
        refine aw_sub (lv' := []) [] rfl ?_
        exact T_X3_isOperand_18 C hE s0 h
def f_X3_isOperand (s0 : St) (x0 : Int32) : Option (Int32 × St) := oC (F_X3_isOperand_0 s0 x0) fun w => oZ w.1 (some w)
theorem c_X3_isOperand (l : Launch) (D : va_G) (N : Nm) (s0 z1 : St) (x0 : Int32) (r : Int32) (h : f_X3_isOperand s0 x0 = some (r, z1)) : Meti l yX3_isOperand (tsU yX3_isOperand cX3_isOperand 1 (some .boolean)) rm_X3_isOperand D N [.int x0] (wC N s0) r (wC N z1) := by
  obtain ⟨w, h1, h2⟩ := oC_e h
  obtain ⟨hz, h2⟩ := oZ_e h2
  cases h2
  exact met_z (cc := cX3_isOperand) (nL := 1) (own := RX3) (by decide) rfl (Nat.le_of_ble_eq_true rfl) (zN hz) (fun p e s m args below meth c Q A C hE => aw_sub [0] rfl (T_X3_isOperand_0 C hE s0 x0 h1))
/-! AwardLine$Judge.truth(Z)J -/
def rm_X3_truth : Room := { frames := 0, cells := 0, slots := 0, locals := 0 }
def F_X3_truth_9 (s0 : St) (t0 : Int64) : Option (Int64 × St) :=
  some (t0, s0)
set_option maxHeartbeats 4000000 in
set_option maxRecDepth 100000 in
theorem T_X3_truth_9 {r : Int64} {z1 : St} (C : Cx p rm_X3_truth s m args c D A cX3_truth 1 RX3 rm_X3_truth N) (hE : En p l e rm_X3_truth s m args below meth c Q D A cX3_truth .lreturn (wC N z1) [.long r])  (s0 : St) (t0 : Int64) (h : F_X3_truth_9 s0 t0 = some (r, z1)) : Aw p l e rm_X3_truth s m args below meth c Q D A 1 (wC N s0) 9 [] [.long t0] := by
  unfold F_X3_truth_9 at h
  cases h
  exact aw_ret hE dX3_truth_9
def F_X3_truth_0 (s0 : St) (x0 : Int32) : Option (Int64 × St) :=
  if x0 = 0 then (
    F_X3_truth_9 s0 (0 : Int64))
  else (
    F_X3_truth_9 s0 (1 : Int64))
set_option maxHeartbeats 4000000 in
set_option maxRecDepth 100000 in
theorem T_X3_truth_0 {r : Int64} {z1 : St} (C : Cx p rm_X3_truth s m args c D A cX3_truth 1 RX3 rm_X3_truth N) (hE : En p l e rm_X3_truth s m args below meth c Q D A cX3_truth .lreturn (wC N z1) [.long r])  (s0 : St) (x0 : Int32) (h : F_X3_truth_0 s0 x0 = some (r, z1)) : Aw p l e rm_X3_truth s m args below meth c Q D A 1 (wC N s0) 0 [(0, .int x0)] [] := by
  unfold F_X3_truth_0 at h
  refine aw_iload_n C 0 dX3_truth_0 rfl ?_
  refine aw_if_eq (tgt := 8) C dX3_truth_1 (by decide) (fun q => ?_) (fun q => ?_)
  · have h := bq_t q h
    refine aw_lconst (v := 0) C dX3_truth_8 (by decide) ?_
    refine aw_sub (lv' := []) [] rfl ?_
    exact T_X3_truth_9 C hE s0 (0 : Int64) h
  · have h := bq_f q h
    refine aw_lconst (v := 1) C dX3_truth_4 (by decide) ?_
    refine aw_goto (tgt := 9) C dX3_truth_5 (by decide) ?_
    refine aw_sub (lv' := []) [] rfl ?_
    exact T_X3_truth_9 C hE s0 (1 : Int64) h
def f_X3_truth (s0 : St) (x0 : Int32) : Option (Int64 × St) := F_X3_truth_0 s0 x0
theorem c_X3_truth (l : Launch) (D : va_G) (N : Nm) (s0 z1 : St) (x0 : Int32) (r : Int64) (h : f_X3_truth s0 x0 = some (r, z1)) : Metl l yX3_truth (tsU yX3_truth cX3_truth 1 (some .long)) rm_X3_truth D N [.int x0] (wC N s0) r (wC N z1) :=
  met_l (cc := cX3_truth) (nL := 1) (own := RX3) (by decide) rfl (Nat.le_of_ble_eq_true rfl) (fun p e s m args below meth c Q A C hE => aw_sub [0] rfl (T_X3_truth_0 C hE s0 x0 h))
/-! AwardLine$Judge.peopleIn(II)J -/
def rm_X3_peopleIn : Room := { frames := 0, cells := 0, slots := 0, locals := 0 }
def F_X3_peopleIn_42 (k5 : St → Int32 → Int32 → Int64 → Int32 → Option (Int64 × St)) (s0 : St) (x1 : Int32) (x2 : Int32) (x3 : Int64) (x5 : Int32) : Option (Int64 × St) :=
  oL (x5 + (1 : Int32)) fun y1 =>
  k5 s0 x1 x2 x3 y1
set_option maxHeartbeats 4000000 in
set_option maxRecDepth 100000 in
theorem T_X3_peopleIn_42 {r : Int64} {z1 : St} {k5 : St → Int32 → Int32 → Int64 → Int32 → Option (Int64 × St)} (C : Cx p rm_X3_peopleIn s m args c D A cX3_peopleIn 6 RX3 rm_X3_peopleIn N) (hE : En p l e rm_X3_peopleIn s m args below meth c Q D A cX3_peopleIn .lreturn (wC N z1) [.long r]) (hk5 : ∀ (s0 : St) (x1 : Int32) (x2 : Int32) (x3 : Int64) (x5 : Int32), k5 s0 x1 x2 x3 x5 = some (r, z1) → Aw p l e rm_X3_peopleIn s m args below meth c Q D A 6 (wC N s0) 5 [(0, .ref (N.1 8)), (1, .int x1), (2, .int x2), (3, .long x3), (5, .int x5)] []) (s0 : St) (x1 : Int32) (x2 : Int32) (x3 : Int64) (x5 : Int32) (h : F_X3_peopleIn_42 k5 s0 x1 x2 x3 x5 = some (r, z1)) : Aw p l e rm_X3_peopleIn s m args below meth c Q D A 6 (wC N s0) 42 [(0, .ref (N.1 8)), (1, .int x1), (2, .int x2), (3, .long x3), (5, .int x5)] [] := by
  unfold F_X3_peopleIn_42 at h
  obtain ⟨y1, ey1⟩ : ∃ q : Int32, q = x5 + (1 : Int32) := ⟨_, rfl⟩
  have h := oL_e ey1 h
  refine aw_iinc (v := y1) (k := 4) (lv' := [(0, .ref (N.1 8)), (1, .int x1), (2, .int x2), (3, .long x3), (5, .int y1)]) C [1, 2, 3, 4, 0] dX3_peopleIn_42 rfl (by rw [ey1]; rfl) (by decide) rfl ?_
  refine aw_goto (tgt := 5) C dX3_peopleIn_45 (by decide) ?_
  refine aw_sub (lv' := [(0, .ref (N.1 8)), (1, .int x1), (2, .int x2), (3, .long x3), (5, .int y1)]) [0, 1, 2, 3, 4] rfl ?_
  exact hk5 s0 x1 x2 x3 y1 h
def F_X3_peopleIn_5_b (k5 : St → Int32 → Int32 → Int64 → Int32 → Option (Int64 × St)) (s0 : St) (x1 : Int32) (x2 : Int32) (x3 : Int64) (x5 : Int32) : Option (Int64 × St) :=
  if (s0.1 21) ≤ x5 then (
    some (x3, s0))
  else (
    if (x2 >>> (x5 &&& 31)) &&& (1 : Int32) = 0 then (
      F_X3_peopleIn_42 k5 s0 x1 x2 x3 x5)
    else (
      oA x1 2 <|
      oX (26 + Int32.toNatClampNeg x1) x5 <|
      oL (x3 + (Int32.toInt64 (s0.2.1 (26 + Int32.toNatClampNeg x1) (Int32.toNatClampNeg x5)))) fun y4 =>
      F_X3_peopleIn_42 k5 s0 x1 x2 y4 x5))
set_option maxHeartbeats 4000000 in
set_option maxRecDepth 100000 in
theorem T_X3_peopleIn_5_b {r : Int64} {z1 : St} {k5 : St → Int32 → Int32 → Int64 → Int32 → Option (Int64 × St)} (C : Cx p rm_X3_peopleIn s m args c D A cX3_peopleIn 6 RX3 rm_X3_peopleIn N) (hE : En p l e rm_X3_peopleIn s m args below meth c Q D A cX3_peopleIn .lreturn (wC N z1) [.long r]) (hk5 : ∀ (s0 : St) (x1 : Int32) (x2 : Int32) (x3 : Int64) (x5 : Int32), k5 s0 x1 x2 x3 x5 = some (r, z1) → Aw p l e rm_X3_peopleIn s m args below meth c Q D A 6 (wC N s0) 5 [(0, .ref (N.1 8)), (1, .int x1), (2, .int x2), (3, .long x3), (5, .int x5)] []) (s0 : St) (x1 : Int32) (x2 : Int32) (x3 : Int64) (x5 : Int32) (h : F_X3_peopleIn_5_b k5 s0 x1 x2 x3 x5 = some (r, z1)) : Aw p l e rm_X3_peopleIn s m args below meth c Q D A 6 (wC N s0) 5 [(0, .ref (N.1 8)), (1, .int x1), (2, .int x2), (3, .long x3), (5, .int x5)] [] := by
  unfold F_X3_peopleIn_5_b at h
  refine aw_iload C 4 dX3_peopleIn_5 rfl ?_
  refine aw_aload_n C 0 dX3_peopleIn_7 rfl ?_
  refine cg_ju_land C lw_6_13 dX3_peopleIn_8 ?_
  refine cg_ln_size C lw_31_11 dX3_peopleIn_11 ?_
  refine aw_icmp_ge (tgt := 48) C dX3_peopleIn_14 (by decide) (fun q => ?_) (fun q => ?_)
  · have h := bq_t q h
    refine aw_lload_n C 3 dX3_peopleIn_48 rfl ?_
    cases h
    exact aw_ret hE dX3_peopleIn_49
  · have h := bq_f q h
    refine aw_iload_n C 2 dX3_peopleIn_17 rfl ?_
    refine aw_iload C 4 dX3_peopleIn_18 rfl ?_
    refine aw_ishr C dX3_peopleIn_20 ?_
    refine aw_iconst (v := 1) C dX3_peopleIn_21 (by decide) ?_
    refine aw_iand C dX3_peopleIn_22 ?_
    refine aw_if_eq (tgt := 42) C dX3_peopleIn_23 (by decide) (fun q => ?_) (fun q => ?_)
    · have h := bq_t q h
      refine aw_sub (lv' := [(0, .ref (N.1 8)), (1, .int x1), (2, .int x2), (3, .long x3), (5, .int x5)]) [0, 1, 2, 3, 4] rfl ?_
      exact T_X3_peopleIn_42 C hE hk5 s0 x1 x2 x3 x5 h
    · have h := bq_f q h
      refine aw_lload_n C 3 dX3_peopleIn_26 rfl ?_
      refine aw_aload_n C 0 dX3_peopleIn_27 rfl ?_
      refine cg_ju_census C lw_6_14 dX3_peopleIn_28 ?_
      refine cg_ce_people C lw_32_1 dX3_peopleIn_31 ?_
      refine aw_iload_n C 1 dX3_peopleIn_34 rfl ?_
      obtain ⟨q1, h⟩ := oA_e h
      refine ca_rald (k := 25) C (by decide) rfl q1 dX3_peopleIn_35 ?_
      refine aw_iload C 4 dX3_peopleIn_36 rfl ?_
      obtain ⟨q3a, q3b, q3, h⟩ := oX_e h
      refine ca_iald (k := (26 + Int32.toNatClampNeg x1)) C q3a q3b q3 dX3_peopleIn_38 ?_
      refine aw_i2l C dX3_peopleIn_39 ?_
      refine aw_ladd C dX3_peopleIn_40 ?_
      refine aw_topl (fun y4 ey4 => ?_)
      have h := oL_e ey4 h
      refine aw_lstore_n (lv' := [(0, .ref (N.1 8)), (1, .int x1), (2, .int x2), (3, .long y4), (5, .int x5)]) C [1, 2, 3, 0, 4] dX3_peopleIn_41 rfl (by decide) rfl ?_
      refine aw_sub (lv' := [(0, .ref (N.1 8)), (1, .int x1), (2, .int x2), (3, .long y4), (5, .int x5)]) [0, 1, 2, 3, 4] rfl ?_
      exact T_X3_peopleIn_42 C hE hk5 s0 x1 x2 y4 x5 h
def F_X3_peopleIn_5 : Nat → St → Int32 → Int32 → Int64 → Int32 → Option (Int64 × St)
  | 0 => fun _ _ _ _ _ => none
  | n + 1 => F_X3_peopleIn_5_b (F_X3_peopleIn_5 n)
theorem T_X3_peopleIn_5 {r : Int64} {z1 : St} (C : Cx p rm_X3_peopleIn s m args c D A cX3_peopleIn 6 RX3 rm_X3_peopleIn N) (hE : En p l e rm_X3_peopleIn s m args below meth c Q D A cX3_peopleIn .lreturn (wC N z1) [.long r])  : ∀ (n : Nat) (s0 : St) (x1 : Int32) (x2 : Int32) (x3 : Int64) (x5 : Int32), F_X3_peopleIn_5 n s0 x1 x2 x3 x5 = some (r, z1) → Aw p l e rm_X3_peopleIn s m args below meth c Q D A 6 (wC N s0) 5 [(0, .ref (N.1 8)), (1, .int x1), (2, .int x2), (3, .long x3), (5, .int x5)] [] := by
  intro n
  induction n with
  | zero => intro s0 x1 x2 x3 x5 h; cases h
  | succ n ih => intro s0 x1 x2 x3 x5 h; exact T_X3_peopleIn_5_b C hE ih s0 x1 x2 x3 x5 h
def F_X3_peopleIn_0 (s0 : St) (x1 : Int32) (x2 : Int32) : Option (Int64 × St) :=
  oL (0 : Int64) fun y1 =>
  oL (0 : Int32) fun y2 =>
  F_X3_peopleIn_5 100000 s0 x1 x2 y1 y2
set_option maxHeartbeats 4000000 in
set_option maxRecDepth 100000 in
theorem T_X3_peopleIn_0 {r : Int64} {z1 : St} (C : Cx p rm_X3_peopleIn s m args c D A cX3_peopleIn 6 RX3 rm_X3_peopleIn N) (hE : En p l e rm_X3_peopleIn s m args below meth c Q D A cX3_peopleIn .lreturn (wC N z1) [.long r])  (s0 : St) (x1 : Int32) (x2 : Int32) (h : F_X3_peopleIn_0 s0 x1 x2 = some (r, z1)) : Aw p l e rm_X3_peopleIn s m args below meth c Q D A 6 (wC N s0) 0 [(0, .ref (N.1 8)), (1, .int x1), (2, .int x2)] [] := by
  unfold F_X3_peopleIn_0 at h
  refine aw_lconst (v := 0) C dX3_peopleIn_0 (by decide) ?_
  refine aw_topl (fun y1 ey1 => ?_)
  have h := oL_e ey1 h
  refine aw_lstore_n (lv' := [(0, .ref (N.1 8)), (1, .int x1), (2, .int x2), (3, .long y1)]) C [1, 2, 3, 0] dX3_peopleIn_1 rfl (by decide) rfl ?_
  refine aw_iconst (v := 0) C dX3_peopleIn_2 (by decide) ?_
  refine aw_topi (fun y2 ey2 => ?_)
  have h := oL_e ey2 h
  refine aw_istore (lv' := [(0, .ref (N.1 8)), (1, .int x1), (2, .int x2), (3, .long y1), (5, .int y2)]) C [1, 2, 3, 4, 0] dX3_peopleIn_3 (by decide) rfl ?_
  refine aw_sub (lv' := [(0, .ref (N.1 8)), (1, .int x1), (2, .int x2), (3, .long y1), (5, .int y2)]) [0, 1, 2, 3, 4] rfl ?_
  exact T_X3_peopleIn_5 C hE 100000 s0 x1 x2 y1 y2 h
def f_X3_peopleIn (s0 : St) (x1 : Int32) (x2 : Int32) : Option (Int64 × St) := F_X3_peopleIn_0 s0 x1 x2
theorem c_X3_peopleIn (l : Launch) (D : va_G) (N : Nm) (s0 z1 : St) (x1 : Int32) (x2 : Int32) (r : Int64) (h : f_X3_peopleIn s0 x1 x2 = some (r, z1)) : Metl l yX3_peopleIn (tsU yX3_peopleIn cX3_peopleIn 6 (some .long)) rm_X3_peopleIn D N [.ref (N.1 8), .int x1, .int x2] (wC N s0) r (wC N z1) :=
  met_l (cc := cX3_peopleIn) (nL := 6) (own := RX3) (by decide) rfl (Nat.le_of_ble_eq_true rfl) (fun p e s m args below meth c Q A C hE => aw_sub [0, 1, 2] rfl (T_X3_peopleIn_0 C hE s0 x1 x2 h))
/-! AwardLine$Judge.named(II)J -/
def rm_X3_named : Room := { frames := 1, cells := 0, slots := 0, locals := 25 }
def F_X3_named_0 (s0 : St) (x1 : Int32) (x2 : Int32) : Option (Int64 × St) :=
  if x1 = 11 then (
    oC (f_X3_peopleIn s0 (0 : Int32) x2) fun w3 =>
    oL w3.1 fun v1 => oL w3.2 fun s2 =>
    some (v1, s2))
  else (
  if x1 = 12 then (
    oC (f_X3_peopleIn s0 (1 : Int32) x2) fun w6 =>
    oL w6.1 fun v4 => oL w6.2 fun s5 =>
    some (v4, s5))
  else (
  if x1 = 13 then (
    oA (0 : Int32) 2 <|
    oC (f_J6_bitCount_0f7a4 s0 ((s0.2.1 8 (Int32.toNatClampNeg (0 : Int32))) &&& x2)) fun w10 =>
    oL w10.1 fun v8 => oL w10.2 fun s9 =>
    oA (1 : Int32) 2 <|
    oC (f_J6_bitCount_0f7a4 s9 ((s9.2.1 8 (Int32.toNatClampNeg (1 : Int32))) &&& x2)) fun w14 =>
    oL w14.1 fun v12 => oL w14.2 fun s13 =>
    some (Int32.toInt64 (v8 - v12), s13))
  else (
  if x1 = 14 then (
    oC (f_J6_bitCount_0f7a4 s0 ((s0.1 23) &&& x2)) fun w17 =>
    oL w17.1 fun v15 => oL w17.2 fun s16 =>
    some (Int32.toInt64 v15, s16))
  else (
  if x1 = 15 then (
    oC (f_J6_bitCount_0f7a4 s0 ((s0.1 24) &&& x2)) fun w20 =>
    oL w20.1 fun v18 => oL w20.2 fun s19 =>
    some (Int32.toInt64 v18, s19))
  else (
    oC (f_J6_bitCount_0f7a4 s0 x2) fun w23 =>
    oL w23.1 fun v21 => oL w23.2 fun s22 =>
    some (Int32.toInt64 v21, s22))))))
set_option maxHeartbeats 4000000 in
set_option maxRecDepth 100000 in
theorem T_X3_named_0 {r : Int64} {z1 : St} (C : Cx p rm_X3_named s m args c D A cX3_named 3 RX3 rm_X3_named N) (hE : En p l e rm_X3_named s m args below meth c Q D A cX3_named .lreturn (wC N z1) [.long r])  (s0 : St) (x1 : Int32) (x2 : Int32) (h : F_X3_named_0 s0 x1 x2 = some (r, z1)) : Aw p l e rm_X3_named s m args below meth c Q D A 3 (wC N s0) 0 [(0, .ref (N.1 8)), (1, .int x1), (2, .int x2)] [] := by
  unfold F_X3_named_0 at h
  refine aw_iload_n C 1 dX3_named_0 rfl ?_
  by_cases q0 : x1 = (11 : Int32)
  · have h := bq_t q0 h
    refine aw_table (tgt := 36) C 35 dX3_named_1 (by rw [q0]; decide) (by rw [q0]; decide) (by rw [q0]; decide) (by decide) ?_
    refine aw_aload_n C 0 dX3_named_36 rfl ?_
    refine aw_iconst (v := 0) C dX3_named_37 (by decide) ?_
    refine aw_iload_n C 2 dX3_named_38 rfl ?_
    obtain ⟨⟨v1, s2⟩, cw3, h⟩ := oC_e h
    have h := oL_e (x := s2) rfl (oL_e (x := v1) rfl h)
    refine aw_callVl (n := 2) (As := [.int (0 : Int32), .int x2]) (rest := []) (q0 := 8) C (c_X3_peopleIn l D N s0 s2 (0 : Int32) x2 v1 cw3) lw_31_21 lw_31_22 lw_31_23 lw_2_17 lw_32_0 rfl rfl (by decide +kernel) ⟨Nat.le_of_ble_eq_true rfl, Nat.le_of_ble_eq_true rfl⟩ rfl rfl rfl rfl rfl (Nat.le_of_ble_eq_true rfl) dX3_named_39 ?_
    cases h
    exact aw_ret hE dX3_named_42
  have h := bq_f q0 h
  by_cases q1 : x1 = (12 : Int32)
  · have h := bq_t q1 h
    refine aw_table (tgt := 43) C 42 dX3_named_1 (by rw [q1]; decide) (by rw [q1]; decide) (by rw [q1]; decide) (by decide) ?_
    refine aw_aload_n C 0 dX3_named_43 rfl ?_
    refine aw_iconst (v := 1) C dX3_named_44 (by decide) ?_
    refine aw_iload_n C 2 dX3_named_45 rfl ?_
    obtain ⟨⟨v4, s5⟩, cw6, h⟩ := oC_e h
    have h := oL_e (x := s5) rfl (oL_e (x := v4) rfl h)
    refine aw_callVl (n := 2) (As := [.int (1 : Int32), .int x2]) (rest := []) (q0 := 8) C (c_X3_peopleIn l D N s0 s5 (1 : Int32) x2 v4 cw6) lw_31_21 lw_31_22 lw_31_23 lw_2_17 lw_32_0 rfl rfl (by decide +kernel) ⟨Nat.le_of_ble_eq_true rfl, Nat.le_of_ble_eq_true rfl⟩ rfl rfl rfl rfl rfl (Nat.le_of_ble_eq_true rfl) dX3_named_46 ?_
    cases h
    exact aw_ret hE dX3_named_49
  have h := bq_f q1 h
  by_cases q2 : x1 = (13 : Int32)
  · have h := bq_t q2 h
    refine aw_table (tgt := 50) C 49 dX3_named_1 (by rw [q2]; decide) (by rw [q2]; decide) (by rw [q2]; decide) (by decide) ?_
    refine aw_aload_n C 0 dX3_named_50 rfl ?_
    refine cg_ju_land C lw_6_13 dX3_named_51 ?_
    refine cg_ln_shrines C lw_32_12 dX3_named_54 ?_
    refine aw_iconst (v := 0) C dX3_named_57 (by decide) ?_
    obtain ⟨q7, h⟩ := oA_e h
    refine ca_iald (k := 8) C (by decide) rfl q7 dX3_named_58 ?_
    refine aw_iload_n C 2 dX3_named_59 rfl ?_
    refine aw_iand C dX3_named_60 ?_
    obtain ⟨⟨v8, s9⟩, cw10, h⟩ := oC_e h
    have h := oL_e (x := s9) rfl (oL_e (x := v8) rfl h)
    refine aw_callSi (n := 1) (As := [.int ((s0.2.1 8 (Int32.toNatClampNeg (0 : Int32))) &&& x2)]) (rest := []) C (c_J6_bitCount_0f7a4 l D N s0 s9 ((s0.2.1 8 (Int32.toNatClampNeg (0 : Int32))) &&& x2) v8 cw10) lw_32_15 lw_30_15 lw_30_16 lw_30_17 rfl rfl (by decide +kernel) ⟨Nat.le_of_ble_eq_true rfl, Nat.le_of_ble_eq_true rfl⟩ rfl rfl (Nat.le_of_ble_eq_true rfl) dX3_named_61 ?_
    refine aw_aload_n C 0 dX3_named_64 rfl ?_
    refine cg_ju_land C lw_6_13 dX3_named_65 ?_
    refine cg_ln_shrines C lw_32_12 dX3_named_68 ?_
    refine aw_iconst (v := 1) C dX3_named_71 (by decide) ?_
    obtain ⟨q11, h⟩ := oA_e h
    refine ca_iald (k := 8) C (by decide) rfl q11 dX3_named_72 ?_
    refine aw_iload_n C 2 dX3_named_73 rfl ?_
    refine aw_iand C dX3_named_74 ?_
    obtain ⟨⟨v12, s13⟩, cw14, h⟩ := oC_e h
    have h := oL_e (x := s13) rfl (oL_e (x := v12) rfl h)
    refine aw_callSi (n := 1) (As := [.int ((s9.2.1 8 (Int32.toNatClampNeg (1 : Int32))) &&& x2)]) (rest := [.int v8]) C (c_J6_bitCount_0f7a4 l D N s9 s13 ((s9.2.1 8 (Int32.toNatClampNeg (1 : Int32))) &&& x2) v12 cw14) lw_32_15 lw_30_15 lw_30_16 lw_30_17 rfl rfl (by decide +kernel) ⟨Nat.le_of_ble_eq_true rfl, Nat.le_of_ble_eq_true rfl⟩ rfl rfl (Nat.le_of_ble_eq_true rfl) dX3_named_75 ?_
    refine aw_isub C dX3_named_78 ?_
    refine aw_i2l C dX3_named_79 ?_
    cases h
    exact aw_ret hE dX3_named_80
  have h := bq_f q2 h
  by_cases q3 : x1 = (14 : Int32)
  · have h := bq_t q3 h
    refine aw_table (tgt := 81) C 80 dX3_named_1 (by rw [q3]; decide) (by rw [q3]; decide) (by rw [q3]; decide) (by decide) ?_
    refine aw_aload_n C 0 dX3_named_81 rfl ?_
    refine cg_ju_land C lw_6_13 dX3_named_82 ?_
    refine cg_ln_rails C lw_32_13 dX3_named_85 ?_
    refine aw_iload_n C 2 dX3_named_88 rfl ?_
    refine aw_iand C dX3_named_89 ?_
    obtain ⟨⟨v15, s16⟩, cw17, h⟩ := oC_e h
    have h := oL_e (x := s16) rfl (oL_e (x := v15) rfl h)
    refine aw_callSi (n := 1) (As := [.int ((s0.1 23) &&& x2)]) (rest := []) C (c_J6_bitCount_0f7a4 l D N s0 s16 ((s0.1 23) &&& x2) v15 cw17) lw_32_15 lw_30_15 lw_30_16 lw_30_17 rfl rfl (by decide +kernel) ⟨Nat.le_of_ble_eq_true rfl, Nat.le_of_ble_eq_true rfl⟩ rfl rfl (Nat.le_of_ble_eq_true rfl) dX3_named_90 ?_
    refine aw_i2l C dX3_named_93 ?_
    cases h
    exact aw_ret hE dX3_named_94
  have h := bq_f q3 h
  by_cases q4 : x1 = (15 : Int32)
  · have h := bq_t q4 h
    refine aw_table (tgt := 95) C 94 dX3_named_1 (by rw [q4]; decide) (by rw [q4]; decide) (by rw [q4]; decide) (by decide) ?_
    refine aw_aload_n C 0 dX3_named_95 rfl ?_
    refine cg_ju_land C lw_6_13 dX3_named_96 ?_
    refine cg_ln_heads C lw_32_14 dX3_named_99 ?_
    refine aw_iload_n C 2 dX3_named_102 rfl ?_
    refine aw_iand C dX3_named_103 ?_
    obtain ⟨⟨v18, s19⟩, cw20, h⟩ := oC_e h
    have h := oL_e (x := s19) rfl (oL_e (x := v18) rfl h)
    refine aw_callSi (n := 1) (As := [.int ((s0.1 24) &&& x2)]) (rest := []) C (c_J6_bitCount_0f7a4 l D N s0 s19 ((s0.1 24) &&& x2) v18 cw20) lw_32_15 lw_30_15 lw_30_16 lw_30_17 rfl rfl (by decide +kernel) ⟨Nat.le_of_ble_eq_true rfl, Nat.le_of_ble_eq_true rfl⟩ rfl rfl (Nat.le_of_ble_eq_true rfl) dX3_named_104 ?_
    refine aw_i2l C dX3_named_107 ?_
    cases h
    exact aw_ret hE dX3_named_108
  have h := bq_f q4 h
  refine aw_tableO (tgt := 109) C dX3_named_1 (by have n0 := sw_ne (k := 11) (by decide) q0; have n1 := sw_ne (k := 12) (by decide) q1; have n2 := sw_ne (k := 13) (by decide) q2; have n3 := sw_ne (k := 14) (by decide) q3; have n4 := sw_ne (k := 15) (by decide) q4; omega) (by decide) ?_
  refine aw_iload_n C 2 dX3_named_109 rfl ?_
  obtain ⟨⟨v21, s22⟩, cw23, h⟩ := oC_e h
  have h := oL_e (x := s22) rfl (oL_e (x := v21) rfl h)
  refine aw_callSi (n := 1) (As := [.int x2]) (rest := []) C (c_J6_bitCount_0f7a4 l D N s0 s22 x2 v21 cw23) lw_32_15 lw_30_15 lw_30_16 lw_30_17 rfl rfl (by decide +kernel) ⟨Nat.le_of_ble_eq_true rfl, Nat.le_of_ble_eq_true rfl⟩ rfl rfl (Nat.le_of_ble_eq_true rfl) dX3_named_110 ?_
  refine aw_i2l C dX3_named_113 ?_
  cases h
  exact aw_ret hE dX3_named_114
def f_X3_named (s0 : St) (x1 : Int32) (x2 : Int32) : Option (Int64 × St) := F_X3_named_0 s0 x1 x2
theorem c_X3_named (l : Launch) (D : va_G) (N : Nm) (s0 z1 : St) (x1 : Int32) (x2 : Int32) (r : Int64) (h : f_X3_named s0 x1 x2 = some (r, z1)) : Metl l yX3_named (tsU yX3_named cX3_named 3 (some .long)) rm_X3_named D N [.ref (N.1 8), .int x1, .int x2] (wC N s0) r (wC N z1) :=
  met_l (cc := cX3_named) (nL := 3) (own := RX3) (by decide) rfl (Nat.le_of_ble_eq_true rfl) (fun p e s m args below meth c Q A C hE => aw_sub [0, 1, 2] rfl (T_X3_named_0 C hE s0 x1 x2 h))
/-! AwardLine$Judge.bounded(J)J -/
def rm_X3_bounded : Room := { frames := 0, cells := 0, slots := 0, locals := 0 }
def F_X3_bounded_29 (s0 : St) (x1 : Int64) (t0 : Int32) : Option (Int64 × St) :=
  oZ t0 <|
  oL (sI s0 31 t0) fun s2 =>
  some (x1, s2)
set_option maxHeartbeats 4000000 in
set_option maxRecDepth 100000 in
theorem T_X3_bounded_29 {r : Int64} {z1 : St} (C : Cx p rm_X3_bounded s m args c D A cX3_bounded 3 RX3 rm_X3_bounded N) (hE : En p l e rm_X3_bounded s m args below meth c Q D A cX3_bounded .lreturn (wC N z1) [.long r])  (s0 : St) (x1 : Int64) (t0 : Int32) (h : F_X3_bounded_29 s0 x1 t0 = some (r, z1)) : Aw p l e rm_X3_bounded s m args below meth c Q D A 3 (wC N s0) 29 [(1, .long x1)] [.int t0, .ref (N.1 8)] := by
  unfold F_X3_bounded_29 at h
  obtain ⟨q1, h⟩ := oZ_e h
  refine cp_ju_error C lw_31_18 q1 dX3_bounded_29 ?_
  refine ca_name (fun s2 es2 => ?_)
  have h := oL_e es2 h
  refine aw_lload_n C 0 dX3_bounded_32 rfl ?_
  cases h
  exact aw_ret hE dX3_bounded_33
def F_X3_bounded_24 (s0 : St) (x1 : Int64) : Option (Int64 × St) :=
  F_X3_bounded_29 s0 x1 (1 : Int32)
set_option maxHeartbeats 4000000 in
set_option maxRecDepth 100000 in
theorem T_X3_bounded_24 {r : Int64} {z1 : St} (C : Cx p rm_X3_bounded s m args c D A cX3_bounded 3 RX3 rm_X3_bounded N) (hE : En p l e rm_X3_bounded s m args below meth c Q D A cX3_bounded .lreturn (wC N z1) [.long r])  (s0 : St) (x1 : Int64) (h : F_X3_bounded_24 s0 x1 = some (r, z1)) : Aw p l e rm_X3_bounded s m args below meth c Q D A 3 (wC N s0) 24 [(1, .long x1)] [.ref (N.1 8)] := by
  unfold F_X3_bounded_24 at h
  refine aw_iconst (v := 1) C dX3_bounded_24 (by decide) ?_
  refine aw_goto (tgt := 29) C dX3_bounded_25 (by decide) ?_
  refine aw_sub (lv' := [(1, .long x1)]) [0] rfl ?_
  exact T_X3_bounded_29 C hE s0 x1 (1 : Int32) h
def F_X3_bounded_0 (s0 : St) (x1 : Int64) : Option (Int64 × St) :=
  if (s0.1 31) = 0 then (
    if 0 < lg_cmp x1 (1000000000000 : Int64) then (
      F_X3_bounded_24 s0 x1)
    else (
      if 0 ≤ lg_cmp x1 (-1000000000000 : Int64) then (
        F_X3_bounded_29 s0 x1 (0 : Int32))
      else (
        F_X3_bounded_24 s0 x1)))
  else (
    F_X3_bounded_24 s0 x1)
set_option maxHeartbeats 4000000 in
set_option maxRecDepth 100000 in
theorem T_X3_bounded_0 {r : Int64} {z1 : St} (C : Cx p rm_X3_bounded s m args c D A cX3_bounded 3 RX3 rm_X3_bounded N) (hE : En p l e rm_X3_bounded s m args below meth c Q D A cX3_bounded .lreturn (wC N z1) [.long r])  (s0 : St) (x1 : Int64) (h : F_X3_bounded_0 s0 x1 = some (r, z1)) : Aw p l e rm_X3_bounded s m args below meth c Q D A 3 (wC N s0) 0 [(0, .ref (N.1 8)), (1, .long x1)] [] := by
  unfold F_X3_bounded_0 at h
  refine aw_aload_n C 0 dX3_bounded_0 rfl ?_
  refine aw_aload_n C 0 dX3_bounded_1 rfl ?_
  refine cg_ju_error C lw_31_18 dX3_bounded_2 ?_
  refine aw_if_ne (tgt := 24) C dX3_bounded_5 (by decide) (fun q => ?_) (fun q => ?_)
  · have h := bq_f q h
    refine aw_sub (lv' := [(1, .long x1)]) [1] rfl ?_
    exact T_X3_bounded_24 C hE s0 x1 h
  · have h := bq_t q h
    refine aw_lload_n C 1 dX3_bounded_8 rfl ?_
    refine aw_ldc2 (v := 1000000000000) C lw_33_0 dX3_bounded_9 ?_
    refine aw_lcmp C dX3_bounded_12 ?_
    refine aw_if_gt (tgt := 24) C dX3_bounded_13 (by decide) (fun q => ?_) (fun q => ?_)
    · have h := bq_t q h
      refine aw_sub (lv' := [(1, .long x1)]) [1] rfl ?_
      exact T_X3_bounded_24 C hE s0 x1 h
    · have h := bq_f q h
      refine aw_lload_n C 1 dX3_bounded_16 rfl ?_
      refine aw_ldc2 (v := -1000000000000) C lw_33_1 dX3_bounded_17 ?_
      refine aw_lcmp C dX3_bounded_20 ?_
      refine aw_if_ge (tgt := 28) C dX3_bounded_21 (by decide) (fun q => ?_) (fun q => ?_)
      · have h := bq_t q h
        refine aw_iconst (v := 0) C dX3_bounded_28 (by decide) ?_
        refine aw_sub (lv' := [(1, .long x1)]) [1] rfl ?_
        exact T_X3_bounded_29 C hE s0 x1 (0 : Int32) h
      · have h := bq_f q h
        refine aw_sub (lv' := [(1, .long x1)]) [1] rfl ?_
        exact T_X3_bounded_24 C hE s0 x1 h
def f_X3_bounded (s0 : St) (x1 : Int64) : Option (Int64 × St) := F_X3_bounded_0 s0 x1
theorem c_X3_bounded (l : Launch) (D : va_G) (N : Nm) (s0 z1 : St) (x1 : Int64) (r : Int64) (h : f_X3_bounded s0 x1 = some (r, z1)) : Metl l yX3_bounded (tsU yX3_bounded cX3_bounded 3 (some .long)) rm_X3_bounded D N [.ref (N.1 8), .long x1] (wC N s0) r (wC N z1) :=
  met_l (cc := cX3_bounded) (nL := 3) (own := RX3) (by decide) rfl (Nat.le_of_ble_eq_true rfl) (fun p e s m args below meth c Q A C hE => aw_sub [0, 1] rfl (T_X3_bounded_0 C hE s0 x1 h))
/-! AwardLine$Judge.product(JJ)J -/
def rm_X3_product : Room := { frames := 1, cells := 0, slots := 0, locals := 17 }
def F_X3_product_29 (s0 : St) (x1 : Int64) (x3 : Int64) : Option (Int64 × St) :=
  some (x1 * x3, s0)
set_option maxHeartbeats 4000000 in
set_option maxRecDepth 100000 in
theorem T_X3_product_29 {r : Int64} {z1 : St} (C : Cx p rm_X3_product s m args c D A cX3_product 5 RX3 rm_X3_product N) (hE : En p l e rm_X3_product s m args below meth c Q D A cX3_product .lreturn (wC N z1) [.long r])  (s0 : St) (x1 : Int64) (x3 : Int64) (h : F_X3_product_29 s0 x1 x3 = some (r, z1)) : Aw p l e rm_X3_product s m args below meth c Q D A 5 (wC N s0) 29 [(1, .long x1), (3, .long x3)] [] := by
  unfold F_X3_product_29 at h
  refine aw_lload_n C 0 dX3_product_29 rfl ?_
  refine aw_lload_n C 1 dX3_product_30 rfl ?_
  refine aw_lmul C dX3_product_31 ?_
  cases h
  exact aw_ret hE dX3_product_32
def F_X3_product_0 (s0 : St) (x1 : Int64) (x3 : Int64) : Option (Int64 × St) :=
  if lg_cmp x1 (0 : Int64) = 0 then (
    F_X3_product_29 s0 x1 x3)
  else (
    oDl (jabs x1) <|
    if lg_cmp (jabs x3) ((1000000000000 : Int64) / (jabs x1)) ≤ 0 then (
      F_X3_product_29 s0 x1 x3)
    else (
      oZ (1 : Int32) <|
      oL (sI s0 31 (1 : Int32)) fun s3 =>
      some ((0 : Int64), s3)))
set_option maxHeartbeats 4000000 in
set_option maxRecDepth 100000 in
theorem T_X3_product_0 {r : Int64} {z1 : St} (C : Cx p rm_X3_product s m args c D A cX3_product 5 RX3 rm_X3_product N) (hE : En p l e rm_X3_product s m args below meth c Q D A cX3_product .lreturn (wC N z1) [.long r])  (s0 : St) (x1 : Int64) (x3 : Int64) (h : F_X3_product_0 s0 x1 x3 = some (r, z1)) : Aw p l e rm_X3_product s m args below meth c Q D A 5 (wC N s0) 0 [(0, .ref (N.1 8)), (1, .long x1), (3, .long x3)] [] := by
  unfold F_X3_product_0 at h
  refine aw_lload_n C 1 dX3_product_0 rfl ?_
  refine aw_lconst (v := 0) C dX3_product_1 (by decide) ?_
  refine aw_lcmp C dX3_product_2 ?_
  refine aw_if_eq (tgt := 29) C dX3_product_3 (by decide) (fun q => ?_) (fun q => ?_)
  · have h := bq_t q h
    refine aw_sub (lv' := [(1, .long x1), (3, .long x3)]) [1, 2] rfl ?_
    exact T_X3_product_29 C hE s0 x1 x3 h
  · have h := bq_f q h
    refine aw_lload_n C 2 dX3_product_6 rfl ?_
    refine aw_mabsl C lw_33_6 lw_33_7 (by decide +kernel) lw_33_8 (Nat.le_of_ble_eq_true rfl) (Nat.le_of_ble_eq_true rfl) dX3_product_7 ?_
    refine aw_ldc2 (v := 1000000000000) C lw_33_0 dX3_product_10 ?_
    refine aw_lload_n C 1 dX3_product_13 rfl ?_
    refine aw_mabsl C lw_33_6 lw_33_7 (by decide +kernel) lw_33_8 (Nat.le_of_ble_eq_true rfl) (Nat.le_of_ble_eq_true rfl) dX3_product_14 ?_
    obtain ⟨q1, h⟩ := oDl_e h
    refine aw_ldiv C dX3_product_17 q1 ?_
    refine aw_lcmp C dX3_product_18 ?_
    refine aw_if_le (tgt := 29) C dX3_product_19 (by decide) (fun q => ?_) (fun q => ?_)
    · have h := bq_t q h
      refine aw_sub (lv' := [(1, .long x1), (3, .long x3)]) [1, 2] rfl ?_
      exact T_X3_product_29 C hE s0 x1 x3 h
    · have h := bq_f q h
      refine aw_aload_n C 0 dX3_product_22 rfl ?_
      refine aw_iconst (v := 1) C dX3_product_23 (by decide) ?_
      obtain ⟨q2, h⟩ := oZ_e h
      refine cp_ju_error C lw_31_18 q2 dX3_product_24 ?_
      refine ca_name (fun s3 es3 => ?_)
      have h := oL_e es3 h
      refine aw_lconst (v := 0) C dX3_product_27 (by decide) ?_
      cases h
      exact aw_ret hE dX3_product_28
def f_X3_product (s0 : St) (x1 : Int64) (x3 : Int64) : Option (Int64 × St) := F_X3_product_0 s0 x1 x3
theorem c_X3_product (l : Launch) (D : va_G) (N : Nm) (s0 z1 : St) (x1 : Int64) (x3 : Int64) (r : Int64) (h : f_X3_product s0 x1 x3 = some (r, z1)) : Metl l yX3_product (tsU yX3_product cX3_product 5 (some .long)) rm_X3_product D N [.ref (N.1 8), .long x1, .long x3] (wC N s0) r (wC N z1) :=
  met_l (cc := cX3_product) (nL := 5) (own := RX3) (by decide) rfl (Nat.le_of_ble_eq_true rfl) (fun p e s m args below meth c Q A C hE => aw_sub [0, 1, 2] rfl (T_X3_product_0 C hE s0 x1 x3 h))
/-! AwardLine$Judge.quotient(JJ)J -/
def rm_X3_quotient : Room := { frames := 0, cells := 0, slots := 0, locals := 0 }
def F_X3_quotient_0 (s0 : St) (x1 : Int64) (x3 : Int64) : Option (Int64 × St) :=
  if lg_cmp x3 (0 : Int64) = 0 then (
    oZ (1 : Int32) <|
    oL (sI s0 31 (1 : Int32)) fun s3 =>
    some ((0 : Int64), s3))
  else (
    oDl x3 <|
    some (x1 / x3, s0))
set_option maxHeartbeats 4000000 in
set_option maxRecDepth 100000 in
theorem T_X3_quotient_0 {r : Int64} {z1 : St} (C : Cx p rm_X3_quotient s m args c D A cX3_quotient 5 RX3 rm_X3_quotient N) (hE : En p l e rm_X3_quotient s m args below meth c Q D A cX3_quotient .lreturn (wC N z1) [.long r])  (s0 : St) (x1 : Int64) (x3 : Int64) (h : F_X3_quotient_0 s0 x1 x3 = some (r, z1)) : Aw p l e rm_X3_quotient s m args below meth c Q D A 5 (wC N s0) 0 [(0, .ref (N.1 8)), (1, .long x1), (3, .long x3)] [] := by
  unfold F_X3_quotient_0 at h
  refine aw_lload_n C 2 dX3_quotient_0 rfl ?_
  refine aw_lconst (v := 0) C dX3_quotient_1 (by decide) ?_
  refine aw_lcmp C dX3_quotient_2 ?_
  refine aw_if_ne (tgt := 13) C dX3_quotient_3 (by decide) (fun q => ?_) (fun q => ?_)
  · have h := bq_f q h
    refine aw_lload_n C 1 dX3_quotient_13 rfl ?_
    refine aw_lload_n C 2 dX3_quotient_14 rfl ?_
    obtain ⟨q1, h⟩ := oDl_e h
    refine aw_ldiv C dX3_quotient_15 q1 ?_
    cases h
    exact aw_ret hE dX3_quotient_16
  · have h := bq_t q h
    refine aw_aload_n C 0 dX3_quotient_6 rfl ?_
    refine aw_iconst (v := 1) C dX3_quotient_7 (by decide) ?_
    obtain ⟨q2, h⟩ := oZ_e h
    refine cp_ju_error C lw_31_18 q2 dX3_quotient_8 ?_
    refine ca_name (fun s3 es3 => ?_)
    have h := oL_e es3 h
    refine aw_lconst (v := 0) C dX3_quotient_11 (by decide) ?_
    cases h
    exact aw_ret hE dX3_quotient_12
def f_X3_quotient (s0 : St) (x1 : Int64) (x3 : Int64) : Option (Int64 × St) := F_X3_quotient_0 s0 x1 x3
theorem c_X3_quotient (l : Launch) (D : va_G) (N : Nm) (s0 z1 : St) (x1 : Int64) (x3 : Int64) (r : Int64) (h : f_X3_quotient s0 x1 x3 = some (r, z1)) : Metl l yX3_quotient (tsU yX3_quotient cX3_quotient 5 (some .long)) rm_X3_quotient D N [.ref (N.1 8), .long x1, .long x3] (wC N s0) r (wC N z1) :=
  met_l (cc := cX3_quotient) (nL := 5) (own := RX3) (by decide) rfl (Nat.le_of_ble_eq_true rfl) (fun p e s m args below meth c Q A C hE => aw_sub [0, 1, 2] rfl (T_X3_quotient_0 C hE s0 x1 x3 h))
/-! AwardLine$Judge.worked(IJJ)J -/
def rm_X3_worked : Room := { frames := 2, cells := 0, slots := 0, locals := 41 }
def F_X3_worked_108 (s0 : St) (t0 : Int32) : Option (Int64 × St) :=
  oC (f_X3_truth s0 t0) fun w3 =>
  oL w3.1 fun v1 => oL w3.2 fun s2 =>
  some (v1, s2)
set_option maxHeartbeats 4000000 in
set_option maxRecDepth 100000 in
theorem T_X3_worked_108 {r : Int64} {z1 : St} (C : Cx p rm_X3_worked s m args c D A cX3_worked 6 RX3 rm_X3_worked N) (hE : En p l e rm_X3_worked s m args below meth c Q D A cX3_worked .lreturn (wC N z1) [.long r])  (s0 : St) (t0 : Int32) (h : F_X3_worked_108 s0 t0 = some (r, z1)) : Aw p l e rm_X3_worked s m args below meth c Q D A 6 (wC N s0) 108 [] [.int t0] := by
  unfold F_X3_worked_108 at h
  obtain ⟨⟨v1, s2⟩, cw3, h⟩ := oC_e h
  have h := oL_e (x := s2) rfl (oL_e (x := v1) rfl h)
  refine aw_callSl (n := 1) (As := [.int t0]) (rest := []) C (c_X3_truth l D N s0 s2 t0 v1 cw3) lw_32_2 lw_32_3 lw_2_17 lw_32_4 rfl rfl (by decide +kernel) ⟨Nat.le_of_ble_eq_true rfl, Nat.le_of_ble_eq_true rfl⟩ rfl rfl (Nat.le_of_ble_eq_true rfl) dX3_worked_108 ?_
  cases h
  exact aw_ret hE dX3_worked_111
def F_X3_worked_107 (s0 : St) : Option (Int64 × St) :=
  F_X3_worked_108 s0 (0 : Int32)
set_option maxHeartbeats 4000000 in
set_option maxRecDepth 100000 in
theorem T_X3_worked_107 {r : Int64} {z1 : St} (C : Cx p rm_X3_worked s m args c D A cX3_worked 6 RX3 rm_X3_worked N) (hE : En p l e rm_X3_worked s m args below meth c Q D A cX3_worked .lreturn (wC N z1) [.long r])  (s0 : St) (h : F_X3_worked_107 s0 = some (r, z1)) : Aw p l e rm_X3_worked s m args below meth c Q D A 6 (wC N s0) 107 [] [] := by
  unfold F_X3_worked_107 at h
  refine aw_iconst (v := 0) C dX3_worked_107 (by decide) ?_
  refine aw_sub (lv' := []) [] rfl ?_
  exact T_X3_worked_108 C hE s0 (0 : Int32) h
def F_X3_worked_86 (s0 : St) (t0 : Int32) : Option (Int64 × St) :=
  oC (f_X3_truth s0 t0) fun w3 =>
  oL w3.1 fun v1 => oL w3.2 fun s2 =>
  some (v1, s2)
set_option maxHeartbeats 4000000 in
set_option maxRecDepth 100000 in
theorem T_X3_worked_86 {r : Int64} {z1 : St} (C : Cx p rm_X3_worked s m args c D A cX3_worked 6 RX3 rm_X3_worked N) (hE : En p l e rm_X3_worked s m args below meth c Q D A cX3_worked .lreturn (wC N z1) [.long r])  (s0 : St) (t0 : Int32) (h : F_X3_worked_86 s0 t0 = some (r, z1)) : Aw p l e rm_X3_worked s m args below meth c Q D A 6 (wC N s0) 86 [] [.int t0] := by
  unfold F_X3_worked_86 at h
  obtain ⟨⟨v1, s2⟩, cw3, h⟩ := oC_e h
  have h := oL_e (x := s2) rfl (oL_e (x := v1) rfl h)
  refine aw_callSl (n := 1) (As := [.int t0]) (rest := []) C (c_X3_truth l D N s0 s2 t0 v1 cw3) lw_32_2 lw_32_3 lw_2_17 lw_32_4 rfl rfl (by decide +kernel) ⟨Nat.le_of_ble_eq_true rfl, Nat.le_of_ble_eq_true rfl⟩ rfl rfl (Nat.le_of_ble_eq_true rfl) dX3_worked_86 ?_
  cases h
  exact aw_ret hE dX3_worked_89
def F_X3_worked_81 (s0 : St) : Option (Int64 × St) :=
  F_X3_worked_86 s0 (1 : Int32)
set_option maxHeartbeats 4000000 in
set_option maxRecDepth 100000 in
theorem T_X3_worked_81 {r : Int64} {z1 : St} (C : Cx p rm_X3_worked s m args c D A cX3_worked 6 RX3 rm_X3_worked N) (hE : En p l e rm_X3_worked s m args below meth c Q D A cX3_worked .lreturn (wC N z1) [.long r])  (s0 : St) (h : F_X3_worked_81 s0 = some (r, z1)) : Aw p l e rm_X3_worked s m args below meth c Q D A 6 (wC N s0) 81 [] [] := by
  unfold F_X3_worked_81 at h
  refine aw_iconst (v := 1) C dX3_worked_81 (by decide) ?_
  refine aw_goto (tgt := 86) C dX3_worked_82 (by decide) ?_
  refine aw_sub (lv' := []) [] rfl ?_
  exact T_X3_worked_86 C hE s0 (1 : Int32) h
def F_X3_worked_234 (s0 : St) (x2 : Int64) (x4 : Int64) : Option (Int64 × St) :=
  oC (f_X3_quotient s0 x2 x4) fun w3 =>
  oL w3.1 fun v1 => oL w3.2 fun s2 =>
  some (v1, s2)
set_option maxHeartbeats 4000000 in
set_option maxRecDepth 100000 in
theorem T_X3_worked_234 {r : Int64} {z1 : St} (C : Cx p rm_X3_worked s m args c D A cX3_worked 6 RX3 rm_X3_worked N) (hE : En p l e rm_X3_worked s m args below meth c Q D A cX3_worked .lreturn (wC N z1) [.long r])  (s0 : St) (x2 : Int64) (x4 : Int64) (h : F_X3_worked_234 s0 x2 x4 = some (r, z1)) : Aw p l e rm_X3_worked s m args below meth c Q D A 6 (wC N s0) 234 [(0, .ref (N.1 8)), (2, .long x2), (4, .long x4)] [] := by
  unfold F_X3_worked_234 at h
  refine aw_aload_n C 0 dX3_worked_234 rfl ?_
  refine aw_lload_n C 1 dX3_worked_235 rfl ?_
  refine aw_lload C 2 dX3_worked_236 rfl ?_
  obtain ⟨⟨v1, s2⟩, cw3, h⟩ := oC_e h
  have h := oL_e (x := s2) rfl (oL_e (x := v1) rfl h)
  refine aw_callVl (n := 2) (As := [.long x2, .long x4]) (rest := []) (q0 := 8) C (c_X3_quotient l D N s0 s2 x2 x4 v1 cw3) lw_33_9 lw_33_10 lw_33_11 lw_2_17 lw_33_12 rfl rfl (by decide +kernel) ⟨Nat.le_of_ble_eq_true rfl, Nat.le_of_ble_eq_true rfl⟩ rfl rfl rfl rfl rfl (Nat.le_of_ble_eq_true rfl) dX3_worked_238 ?_
  cases h
  exact aw_ret hE dX3_worked_241
def F_X3_worked_124 (s0 : St) (t0 : Int32) : Option (Int64 × St) :=
  oC (f_X3_truth s0 t0) fun w3 =>
  oL w3.1 fun v1 => oL w3.2 fun s2 =>
  some (v1, s2)
set_option maxHeartbeats 4000000 in
set_option maxRecDepth 100000 in
theorem T_X3_worked_124 {r : Int64} {z1 : St} (C : Cx p rm_X3_worked s m args c D A cX3_worked 6 RX3 rm_X3_worked N) (hE : En p l e rm_X3_worked s m args below meth c Q D A cX3_worked .lreturn (wC N z1) [.long r])  (s0 : St) (t0 : Int32) (h : F_X3_worked_124 s0 t0 = some (r, z1)) : Aw p l e rm_X3_worked s m args below meth c Q D A 6 (wC N s0) 124 [] [.int t0] := by
  unfold F_X3_worked_124 at h
  obtain ⟨⟨v1, s2⟩, cw3, h⟩ := oC_e h
  have h := oL_e (x := s2) rfl (oL_e (x := v1) rfl h)
  refine aw_callSl (n := 1) (As := [.int t0]) (rest := []) C (c_X3_truth l D N s0 s2 t0 v1 cw3) lw_32_2 lw_32_3 lw_2_17 lw_32_4 rfl rfl (by decide +kernel) ⟨Nat.le_of_ble_eq_true rfl, Nat.le_of_ble_eq_true rfl⟩ rfl rfl (Nat.le_of_ble_eq_true rfl) dX3_worked_124 ?_
  cases h
  exact aw_ret hE dX3_worked_127
def F_X3_worked_140 (s0 : St) (t0 : Int32) : Option (Int64 × St) :=
  oC (f_X3_truth s0 t0) fun w3 =>
  oL w3.1 fun v1 => oL w3.2 fun s2 =>
  some (v1, s2)
set_option maxHeartbeats 4000000 in
set_option maxRecDepth 100000 in
theorem T_X3_worked_140 {r : Int64} {z1 : St} (C : Cx p rm_X3_worked s m args c D A cX3_worked 6 RX3 rm_X3_worked N) (hE : En p l e rm_X3_worked s m args below meth c Q D A cX3_worked .lreturn (wC N z1) [.long r])  (s0 : St) (t0 : Int32) (h : F_X3_worked_140 s0 t0 = some (r, z1)) : Aw p l e rm_X3_worked s m args below meth c Q D A 6 (wC N s0) 140 [] [.int t0] := by
  unfold F_X3_worked_140 at h
  obtain ⟨⟨v1, s2⟩, cw3, h⟩ := oC_e h
  have h := oL_e (x := s2) rfl (oL_e (x := v1) rfl h)
  refine aw_callSl (n := 1) (As := [.int t0]) (rest := []) C (c_X3_truth l D N s0 s2 t0 v1 cw3) lw_32_2 lw_32_3 lw_2_17 lw_32_4 rfl rfl (by decide +kernel) ⟨Nat.le_of_ble_eq_true rfl, Nat.le_of_ble_eq_true rfl⟩ rfl rfl (Nat.le_of_ble_eq_true rfl) dX3_worked_140 ?_
  cases h
  exact aw_ret hE dX3_worked_143
def F_X3_worked_156 (s0 : St) (t0 : Int32) : Option (Int64 × St) :=
  oC (f_X3_truth s0 t0) fun w3 =>
  oL w3.1 fun v1 => oL w3.2 fun s2 =>
  some (v1, s2)
set_option maxHeartbeats 4000000 in
set_option maxRecDepth 100000 in
theorem T_X3_worked_156 {r : Int64} {z1 : St} (C : Cx p rm_X3_worked s m args c D A cX3_worked 6 RX3 rm_X3_worked N) (hE : En p l e rm_X3_worked s m args below meth c Q D A cX3_worked .lreturn (wC N z1) [.long r])  (s0 : St) (t0 : Int32) (h : F_X3_worked_156 s0 t0 = some (r, z1)) : Aw p l e rm_X3_worked s m args below meth c Q D A 6 (wC N s0) 156 [] [.int t0] := by
  unfold F_X3_worked_156 at h
  obtain ⟨⟨v1, s2⟩, cw3, h⟩ := oC_e h
  have h := oL_e (x := s2) rfl (oL_e (x := v1) rfl h)
  refine aw_callSl (n := 1) (As := [.int t0]) (rest := []) C (c_X3_truth l D N s0 s2 t0 v1 cw3) lw_32_2 lw_32_3 lw_2_17 lw_32_4 rfl rfl (by decide +kernel) ⟨Nat.le_of_ble_eq_true rfl, Nat.le_of_ble_eq_true rfl⟩ rfl rfl (Nat.le_of_ble_eq_true rfl) dX3_worked_156 ?_
  cases h
  exact aw_ret hE dX3_worked_159
def F_X3_worked_172 (s0 : St) (t0 : Int32) : Option (Int64 × St) :=
  oC (f_X3_truth s0 t0) fun w3 =>
  oL w3.1 fun v1 => oL w3.2 fun s2 =>
  some (v1, s2)
set_option maxHeartbeats 4000000 in
set_option maxRecDepth 100000 in
theorem T_X3_worked_172 {r : Int64} {z1 : St} (C : Cx p rm_X3_worked s m args c D A cX3_worked 6 RX3 rm_X3_worked N) (hE : En p l e rm_X3_worked s m args below meth c Q D A cX3_worked .lreturn (wC N z1) [.long r])  (s0 : St) (t0 : Int32) (h : F_X3_worked_172 s0 t0 = some (r, z1)) : Aw p l e rm_X3_worked s m args below meth c Q D A 6 (wC N s0) 172 [] [.int t0] := by
  unfold F_X3_worked_172 at h
  obtain ⟨⟨v1, s2⟩, cw3, h⟩ := oC_e h
  have h := oL_e (x := s2) rfl (oL_e (x := v1) rfl h)
  refine aw_callSl (n := 1) (As := [.int t0]) (rest := []) C (c_X3_truth l D N s0 s2 t0 v1 cw3) lw_32_2 lw_32_3 lw_2_17 lw_32_4 rfl rfl (by decide +kernel) ⟨Nat.le_of_ble_eq_true rfl, Nat.le_of_ble_eq_true rfl⟩ rfl rfl (Nat.le_of_ble_eq_true rfl) dX3_worked_172 ?_
  cases h
  exact aw_ret hE dX3_worked_175
def F_X3_worked_188 (s0 : St) (t0 : Int32) : Option (Int64 × St) :=
  oC (f_X3_truth s0 t0) fun w3 =>
  oL w3.1 fun v1 => oL w3.2 fun s2 =>
  some (v1, s2)
set_option maxHeartbeats 4000000 in
set_option maxRecDepth 100000 in
theorem T_X3_worked_188 {r : Int64} {z1 : St} (C : Cx p rm_X3_worked s m args c D A cX3_worked 6 RX3 rm_X3_worked N) (hE : En p l e rm_X3_worked s m args below meth c Q D A cX3_worked .lreturn (wC N z1) [.long r])  (s0 : St) (t0 : Int32) (h : F_X3_worked_188 s0 t0 = some (r, z1)) : Aw p l e rm_X3_worked s m args below meth c Q D A 6 (wC N s0) 188 [] [.int t0] := by
  unfold F_X3_worked_188 at h
  obtain ⟨⟨v1, s2⟩, cw3, h⟩ := oC_e h
  have h := oL_e (x := s2) rfl (oL_e (x := v1) rfl h)
  refine aw_callSl (n := 1) (As := [.int t0]) (rest := []) C (c_X3_truth l D N s0 s2 t0 v1 cw3) lw_32_2 lw_32_3 lw_2_17 lw_32_4 rfl rfl (by decide +kernel) ⟨Nat.le_of_ble_eq_true rfl, Nat.le_of_ble_eq_true rfl⟩ rfl rfl (Nat.le_of_ble_eq_true rfl) dX3_worked_188 ?_
  cases h
  exact aw_ret hE dX3_worked_191
def F_X3_worked_204 (s0 : St) (t0 : Int32) : Option (Int64 × St) :=
  oC (f_X3_truth s0 t0) fun w3 =>
  oL w3.1 fun v1 => oL w3.2 fun s2 =>
  some (v1, s2)
set_option maxHeartbeats 4000000 in
set_option maxRecDepth 100000 in
theorem T_X3_worked_204 {r : Int64} {z1 : St} (C : Cx p rm_X3_worked s m args c D A cX3_worked 6 RX3 rm_X3_worked N) (hE : En p l e rm_X3_worked s m args below meth c Q D A cX3_worked .lreturn (wC N z1) [.long r])  (s0 : St) (t0 : Int32) (h : F_X3_worked_204 s0 t0 = some (r, z1)) : Aw p l e rm_X3_worked s m args below meth c Q D A 6 (wC N s0) 204 [] [.int t0] := by
  unfold F_X3_worked_204 at h
  obtain ⟨⟨v1, s2⟩, cw3, h⟩ := oC_e h
  have h := oL_e (x := s2) rfl (oL_e (x := v1) rfl h)
  refine aw_callSl (n := 1) (As := [.int t0]) (rest := []) C (c_X3_truth l D N s0 s2 t0 v1 cw3) lw_32_2 lw_32_3 lw_2_17 lw_32_4 rfl rfl (by decide +kernel) ⟨Nat.le_of_ble_eq_true rfl, Nat.le_of_ble_eq_true rfl⟩ rfl rfl (Nat.le_of_ble_eq_true rfl) dX3_worked_204 ?_
  cases h
  exact aw_ret hE dX3_worked_207
def F_X3_worked_0 (s0 : St) (x1 : Int32) (x2 : Int64) (x4 : Int64) : Option (Int64 × St) :=
  if x1 = 18 then (
    if lg_cmp x2 (0 : Int64) = 0 then (
      F_X3_worked_107 s0)
    else (
      if lg_cmp x4 (0 : Int64) = 0 then (
        F_X3_worked_107 s0)
      else (
        F_X3_worked_108 s0 (1 : Int32))))
  else (
  if x1 = 19 then (
    if lg_cmp x2 (0 : Int64) = 0 then (
      if lg_cmp x4 (0 : Int64) = 0 then (
        F_X3_worked_86 s0 (0 : Int32))
      else (
        F_X3_worked_81 s0))
    else (
      F_X3_worked_81 s0))
  else (
  if x1 = 20 then (
    F_X3_worked_234 s0 x2 x4)
  else (
  if x1 = 21 then (
    oC (f_X3_bounded s0 (x2 + x4)) fun w3 =>
    oL w3.1 fun v1 => oL w3.2 fun s2 =>
    some (v1, s2))
  else (
  if x1 = 22 then (
    oC (f_X3_bounded s0 (x2 - x4)) fun w6 =>
    oL w6.1 fun v4 => oL w6.2 fun s5 =>
    some (v4, s5))
  else (
  if x1 = 23 then (
    oC (f_X3_product s0 x2 x4) fun w9 =>
    oL w9.1 fun v7 => oL w9.2 fun s8 =>
    some (v7, s8))
  else (
  if x1 = 24 then (
    F_X3_worked_234 s0 x2 x4)
  else (
  if x1 = 25 then (
    if 0 ≤ lg_cmp x2 x4 then (
      F_X3_worked_124 s0 (0 : Int32))
    else (
      F_X3_worked_124 s0 (1 : Int32)))
  else (
  if x1 = 26 then (
    if 0 < lg_cmp x2 x4 then (
      F_X3_worked_140 s0 (0 : Int32))
    else (
      F_X3_worked_140 s0 (1 : Int32)))
  else (
  if x1 = 27 then (
    if lg_cmp x2 x4 = 0 then (
      F_X3_worked_156 s0 (1 : Int32))
    else (
      F_X3_worked_156 s0 (0 : Int32)))
  else (
  if x1 = 28 then (
    if lg_cmp x2 x4 = 0 then (
      F_X3_worked_172 s0 (0 : Int32))
    else (
      F_X3_worked_172 s0 (1 : Int32)))
  else (
  if x1 = 29 then (
    if lg_cmp x2 x4 < 0 then (
      F_X3_worked_188 s0 (0 : Int32))
    else (
      F_X3_worked_188 s0 (1 : Int32)))
  else (
  if x1 = 30 then (
    if lg_cmp x2 x4 ≤ 0 then (
      F_X3_worked_204 s0 (0 : Int32))
    else (
      F_X3_worked_204 s0 (1 : Int32)))
  else (
    F_X3_worked_234 s0 x2 x4)))))))))))))
set_option maxHeartbeats 4000000 in
set_option maxRecDepth 100000 in
theorem T_X3_worked_0 {r : Int64} {z1 : St} (C : Cx p rm_X3_worked s m args c D A cX3_worked 6 RX3 rm_X3_worked N) (hE : En p l e rm_X3_worked s m args below meth c Q D A cX3_worked .lreturn (wC N z1) [.long r])  (s0 : St) (x1 : Int32) (x2 : Int64) (x4 : Int64) (h : F_X3_worked_0 s0 x1 x2 x4 = some (r, z1)) : Aw p l e rm_X3_worked s m args below meth c Q D A 6 (wC N s0) 0 [(0, .ref (N.1 8)), (1, .int x1), (2, .long x2), (4, .long x4)] [] := by
  unfold F_X3_worked_0 at h
  refine aw_iload_n C 1 dX3_worked_0 rfl ?_
  by_cases q0 : x1 = (18 : Int32)
  · have h := bq_t q0 h
    refine aw_table (tgt := 90) C 89 dX3_worked_1 (by rw [q0]; decide) (by rw [q0]; decide) (by rw [q0]; decide) (by decide) ?_
    refine aw_lload_n C 2 dX3_worked_90 rfl ?_
    refine aw_lconst (v := 0) C dX3_worked_91 (by decide) ?_
    refine aw_lcmp C dX3_worked_92 ?_
    refine aw_if_eq (tgt := 107) C dX3_worked_93 (by decide) (fun q => ?_) (fun q => ?_)
    · have h := bq_t q h
      refine aw_sub (lv' := []) [] rfl ?_
      exact T_X3_worked_107 C hE s0 h
    · have h := bq_f q h
      refine aw_lload C 3 dX3_worked_96 rfl ?_
      refine aw_lconst (v := 0) C dX3_worked_98 (by decide) ?_
      refine aw_lcmp C dX3_worked_99 ?_
      refine aw_if_eq (tgt := 107) C dX3_worked_100 (by decide) (fun q => ?_) (fun q => ?_)
      · have h := bq_t q h
        refine aw_sub (lv' := []) [] rfl ?_
        exact T_X3_worked_107 C hE s0 h
      · have h := bq_f q h
        refine aw_iconst (v := 1) C dX3_worked_103 (by decide) ?_
        refine aw_goto (tgt := 108) C dX3_worked_104 (by decide) ?_
        refine aw_sub (lv' := []) [] rfl ?_
        exact T_X3_worked_108 C hE s0 (1 : Int32) h
  have h := bq_f q0 h
  by_cases q1 : x1 = (19 : Int32)
  · have h := bq_t q1 h
    refine aw_table (tgt := 68) C 67 dX3_worked_1 (by rw [q1]; decide) (by rw [q1]; decide) (by rw [q1]; decide) (by decide) ?_
    refine aw_lload_n C 2 dX3_worked_68 rfl ?_
    refine aw_lconst (v := 0) C dX3_worked_69 (by decide) ?_
    refine aw_lcmp C dX3_worked_70 ?_
    refine aw_if_ne (tgt := 81) C dX3_worked_71 (by decide) (fun q => ?_) (fun q => ?_)
    · have h := bq_f q h
      refine aw_sub (lv' := []) [] rfl ?_
      exact T_X3_worked_81 C hE s0 h
    · have h := bq_t q h
      refine aw_lload C 3 dX3_worked_74 rfl ?_
      refine aw_lconst (v := 0) C dX3_worked_76 (by decide) ?_
      refine aw_lcmp C dX3_worked_77 ?_
      refine aw_if_eq (tgt := 85) C dX3_worked_78 (by decide) (fun q => ?_) (fun q => ?_)
      · have h := bq_t q h
        refine aw_iconst (v := 0) C dX3_worked_85 (by decide) ?_
        refine aw_sub (lv' := []) [] rfl ?_
        exact T_X3_worked_86 C hE s0 (0 : Int32) h
      · have h := bq_f q h
        refine aw_sub (lv' := []) [] rfl ?_
        exact T_X3_worked_81 C hE s0 h
  have h := bq_f q1 h
  by_cases q2 : x1 = (20 : Int32)
  · have h := bq_t q2 h
    refine aw_table (tgt := 234) C 233 dX3_worked_1 (by rw [q2]; decide) (by rw [q2]; decide) (by rw [q2]; decide) (by decide) ?_
    refine aw_sub (lv' := [(0, .ref (N.1 8)), (2, .long x2), (4, .long x4)]) [0, 2, 3] rfl ?_
    exact T_X3_worked_234 C hE s0 x2 x4 h
  have h := bq_f q2 h
  by_cases q3 : x1 = (21 : Int32)
  · have h := bq_t q3 h
    refine aw_table (tgt := 208) C 207 dX3_worked_1 (by rw [q3]; decide) (by rw [q3]; decide) (by rw [q3]; decide) (by decide) ?_
    refine aw_aload_n C 0 dX3_worked_208 rfl ?_
    refine aw_lload_n C 2 dX3_worked_209 rfl ?_
    refine aw_lload C 3 dX3_worked_210 rfl ?_
    refine aw_ladd C dX3_worked_212 ?_
    obtain ⟨⟨v1, s2⟩, cw3, h⟩ := oC_e h
    have h := oL_e (x := s2) rfl (oL_e (x := v1) rfl h)
    refine aw_callVl (n := 1) (As := [.long (x2 + x4)]) (rest := []) (q0 := 8) C (c_X3_bounded l D N s0 s2 (x2 + x4) v1 cw3) lw_32_20 lw_32_21 lw_32_22 lw_2_17 lw_32_23 rfl rfl (by decide +kernel) ⟨Nat.le_of_ble_eq_true rfl, Nat.le_of_ble_eq_true rfl⟩ rfl rfl rfl rfl rfl (Nat.le_of_ble_eq_true rfl) dX3_worked_213 ?_
    cases h
    exact aw_ret hE dX3_worked_216
  have h := bq_f q3 h
  by_cases q4 : x1 = (22 : Int32)
  · have h := bq_t q4 h
    refine aw_table (tgt := 217) C 216 dX3_worked_1 (by rw [q4]; decide) (by rw [q4]; decide) (by rw [q4]; decide) (by decide) ?_
    refine aw_aload_n C 0 dX3_worked_217 rfl ?_
    refine aw_lload_n C 2 dX3_worked_218 rfl ?_
    refine aw_lload C 3 dX3_worked_219 rfl ?_
    refine aw_lsub C dX3_worked_221 ?_
    obtain ⟨⟨v4, s5⟩, cw6, h⟩ := oC_e h
    have h := oL_e (x := s5) rfl (oL_e (x := v4) rfl h)
    refine aw_callVl (n := 1) (As := [.long (x2 - x4)]) (rest := []) (q0 := 8) C (c_X3_bounded l D N s0 s5 (x2 - x4) v4 cw6) lw_32_20 lw_32_21 lw_32_22 lw_2_17 lw_32_23 rfl rfl (by decide +kernel) ⟨Nat.le_of_ble_eq_true rfl, Nat.le_of_ble_eq_true rfl⟩ rfl rfl rfl rfl rfl (Nat.le_of_ble_eq_true rfl) dX3_worked_222 ?_
    cases h
    exact aw_ret hE dX3_worked_225
  have h := bq_f q4 h
  by_cases q5 : x1 = (23 : Int32)
  · have h := bq_t q5 h
    refine aw_table (tgt := 226) C 225 dX3_worked_1 (by rw [q5]; decide) (by rw [q5]; decide) (by rw [q5]; decide) (by decide) ?_
    refine aw_aload_n C 0 dX3_worked_226 rfl ?_
    refine aw_lload_n C 2 dX3_worked_227 rfl ?_
    refine aw_lload C 3 dX3_worked_228 rfl ?_
    obtain ⟨⟨v7, s8⟩, cw9, h⟩ := oC_e h
    have h := oL_e (x := s8) rfl (oL_e (x := v7) rfl h)
    refine aw_callVl (n := 2) (As := [.long x2, .long x4]) (rest := []) (q0 := 8) C (c_X3_product l D N s0 s8 x2 x4 v7 cw9) lw_33_2 lw_33_3 lw_33_4 lw_2_17 lw_33_5 rfl rfl (by decide +kernel) ⟨Nat.le_of_ble_eq_true rfl, Nat.le_of_ble_eq_true rfl⟩ rfl rfl rfl rfl rfl (Nat.le_of_ble_eq_true rfl) dX3_worked_230 ?_
    cases h
    exact aw_ret hE dX3_worked_233
  have h := bq_f q5 h
  by_cases q6 : x1 = (24 : Int32)
  · have h := bq_t q6 h
    refine aw_table (tgt := 234) C 233 dX3_worked_1 (by rw [q6]; decide) (by rw [q6]; decide) (by rw [q6]; decide) (by decide) ?_
    refine aw_sub (lv' := [(0, .ref (N.1 8)), (2, .long x2), (4, .long x4)]) [0, 2, 3] rfl ?_
    exact T_X3_worked_234 C hE s0 x2 x4 h
  have h := bq_f q6 h
  by_cases q7 : x1 = (25 : Int32)
  · have h := bq_t q7 h
    refine aw_table (tgt := 112) C 111 dX3_worked_1 (by rw [q7]; decide) (by rw [q7]; decide) (by rw [q7]; decide) (by decide) ?_
    refine aw_lload_n C 2 dX3_worked_112 rfl ?_
    refine aw_lload C 3 dX3_worked_113 rfl ?_
    refine aw_lcmp C dX3_worked_115 ?_
    refine aw_if_ge (tgt := 123) C dX3_worked_116 (by decide) (fun q => ?_) (fun q => ?_)
    · have h := bq_t q h
      refine aw_iconst (v := 0) C dX3_worked_123 (by decide) ?_
      refine aw_sub (lv' := []) [] rfl ?_
      exact T_X3_worked_124 C hE s0 (0 : Int32) h
    · have h := bq_f q h
      refine aw_iconst (v := 1) C dX3_worked_119 (by decide) ?_
      refine aw_goto (tgt := 124) C dX3_worked_120 (by decide) ?_
      refine aw_sub (lv' := []) [] rfl ?_
      exact T_X3_worked_124 C hE s0 (1 : Int32) h
  have h := bq_f q7 h
  by_cases q8 : x1 = (26 : Int32)
  · have h := bq_t q8 h
    refine aw_table (tgt := 128) C 127 dX3_worked_1 (by rw [q8]; decide) (by rw [q8]; decide) (by rw [q8]; decide) (by decide) ?_
    refine aw_lload_n C 2 dX3_worked_128 rfl ?_
    refine aw_lload C 3 dX3_worked_129 rfl ?_
    refine aw_lcmp C dX3_worked_131 ?_
    refine aw_if_gt (tgt := 139) C dX3_worked_132 (by decide) (fun q => ?_) (fun q => ?_)
    · have h := bq_t q h
      refine aw_iconst (v := 0) C dX3_worked_139 (by decide) ?_
      refine aw_sub (lv' := []) [] rfl ?_
      exact T_X3_worked_140 C hE s0 (0 : Int32) h
    · have h := bq_f q h
      refine aw_iconst (v := 1) C dX3_worked_135 (by decide) ?_
      refine aw_goto (tgt := 140) C dX3_worked_136 (by decide) ?_
      refine aw_sub (lv' := []) [] rfl ?_
      exact T_X3_worked_140 C hE s0 (1 : Int32) h
  have h := bq_f q8 h
  by_cases q9 : x1 = (27 : Int32)
  · have h := bq_t q9 h
    refine aw_table (tgt := 144) C 143 dX3_worked_1 (by rw [q9]; decide) (by rw [q9]; decide) (by rw [q9]; decide) (by decide) ?_
    refine aw_lload_n C 2 dX3_worked_144 rfl ?_
    refine aw_lload C 3 dX3_worked_145 rfl ?_
    refine aw_lcmp C dX3_worked_147 ?_
    refine aw_if_ne (tgt := 155) C dX3_worked_148 (by decide) (fun q => ?_) (fun q => ?_)
    · have h := bq_f q h
      refine aw_iconst (v := 0) C dX3_worked_155 (by decide) ?_
      refine aw_sub (lv' := []) [] rfl ?_
      exact T_X3_worked_156 C hE s0 (0 : Int32) h
    · have h := bq_t q h
      refine aw_iconst (v := 1) C dX3_worked_151 (by decide) ?_
      refine aw_goto (tgt := 156) C dX3_worked_152 (by decide) ?_
      refine aw_sub (lv' := []) [] rfl ?_
      exact T_X3_worked_156 C hE s0 (1 : Int32) h
  have h := bq_f q9 h
  by_cases q10 : x1 = (28 : Int32)
  · have h := bq_t q10 h
    refine aw_table (tgt := 160) C 159 dX3_worked_1 (by rw [q10]; decide) (by rw [q10]; decide) (by rw [q10]; decide) (by decide) ?_
    refine aw_lload_n C 2 dX3_worked_160 rfl ?_
    refine aw_lload C 3 dX3_worked_161 rfl ?_
    refine aw_lcmp C dX3_worked_163 ?_
    refine aw_if_eq (tgt := 171) C dX3_worked_164 (by decide) (fun q => ?_) (fun q => ?_)
    · have h := bq_t q h
      refine aw_iconst (v := 0) C dX3_worked_171 (by decide) ?_
      refine aw_sub (lv' := []) [] rfl ?_
      exact T_X3_worked_172 C hE s0 (0 : Int32) h
    · have h := bq_f q h
      refine aw_iconst (v := 1) C dX3_worked_167 (by decide) ?_
      refine aw_goto (tgt := 172) C dX3_worked_168 (by decide) ?_
      refine aw_sub (lv' := []) [] rfl ?_
      exact T_X3_worked_172 C hE s0 (1 : Int32) h
  have h := bq_f q10 h
  by_cases q11 : x1 = (29 : Int32)
  · have h := bq_t q11 h
    refine aw_table (tgt := 176) C 175 dX3_worked_1 (by rw [q11]; decide) (by rw [q11]; decide) (by rw [q11]; decide) (by decide) ?_
    refine aw_lload_n C 2 dX3_worked_176 rfl ?_
    refine aw_lload C 3 dX3_worked_177 rfl ?_
    refine aw_lcmp C dX3_worked_179 ?_
    refine aw_if_lt (tgt := 187) C dX3_worked_180 (by decide) (fun q => ?_) (fun q => ?_)
    · have h := bq_t q h
      refine aw_iconst (v := 0) C dX3_worked_187 (by decide) ?_
      refine aw_sub (lv' := []) [] rfl ?_
      exact T_X3_worked_188 C hE s0 (0 : Int32) h
    · have h := bq_f q h
      refine aw_iconst (v := 1) C dX3_worked_183 (by decide) ?_
      refine aw_goto (tgt := 188) C dX3_worked_184 (by decide) ?_
      refine aw_sub (lv' := []) [] rfl ?_
      exact T_X3_worked_188 C hE s0 (1 : Int32) h
  have h := bq_f q11 h
  by_cases q12 : x1 = (30 : Int32)
  · have h := bq_t q12 h
    refine aw_table (tgt := 192) C 191 dX3_worked_1 (by rw [q12]; decide) (by rw [q12]; decide) (by rw [q12]; decide) (by decide) ?_
    refine aw_lload_n C 2 dX3_worked_192 rfl ?_
    refine aw_lload C 3 dX3_worked_193 rfl ?_
    refine aw_lcmp C dX3_worked_195 ?_
    refine aw_if_le (tgt := 203) C dX3_worked_196 (by decide) (fun q => ?_) (fun q => ?_)
    · have h := bq_t q h
      refine aw_iconst (v := 0) C dX3_worked_203 (by decide) ?_
      refine aw_sub (lv' := []) [] rfl ?_
      exact T_X3_worked_204 C hE s0 (0 : Int32) h
    · have h := bq_f q h
      refine aw_iconst (v := 1) C dX3_worked_199 (by decide) ?_
      refine aw_goto (tgt := 204) C dX3_worked_200 (by decide) ?_
      refine aw_sub (lv' := []) [] rfl ?_
      exact T_X3_worked_204 C hE s0 (1 : Int32) h
  have h := bq_f q12 h
  refine aw_tableO (tgt := 234) C dX3_worked_1 (by have n0 := sw_ne (k := 18) (by decide) q0; have n1 := sw_ne (k := 19) (by decide) q1; have n2 := sw_ne (k := 20) (by decide) q2; have n3 := sw_ne (k := 21) (by decide) q3; have n4 := sw_ne (k := 22) (by decide) q4; have n5 := sw_ne (k := 23) (by decide) q5; have n6 := sw_ne (k := 24) (by decide) q6; have n7 := sw_ne (k := 25) (by decide) q7; have n8 := sw_ne (k := 26) (by decide) q8; have n9 := sw_ne (k := 27) (by decide) q9; have n10 := sw_ne (k := 28) (by decide) q10; have n11 := sw_ne (k := 29) (by decide) q11; have n12 := sw_ne (k := 30) (by decide) q12; omega) (by decide) ?_
  refine aw_sub (lv' := [(0, .ref (N.1 8)), (2, .long x2), (4, .long x4)]) [0, 2, 3] rfl ?_
  exact T_X3_worked_234 C hE s0 x2 x4 h
def f_X3_worked (s0 : St) (x1 : Int32) (x2 : Int64) (x4 : Int64) : Option (Int64 × St) := F_X3_worked_0 s0 x1 x2 x4
theorem c_X3_worked (l : Launch) (D : va_G) (N : Nm) (s0 z1 : St) (x1 : Int32) (x2 : Int64) (x4 : Int64) (r : Int64) (h : f_X3_worked s0 x1 x2 x4 = some (r, z1)) : Metl l yX3_worked (tsU yX3_worked cX3_worked 6 (some .long)) rm_X3_worked D N [.ref (N.1 8), .int x1, .long x2, .long x4] (wC N s0) r (wC N z1) :=
  met_l (cc := cX3_worked) (nL := 6) (own := RX3) (by decide) rfl (Nat.le_of_ble_eq_true rfl) (fun p e s m args below meth c Q A C hE => aw_sub [0, 1, 2, 3] rfl (T_X3_worked_0 C hE s0 x1 x2 x4 h))
/-! AwardLine$Judge.holds(LAwardLine$Terms;I)Z -/
def rm_X3_holds : Room := { frames := 3, cells := 0, slots := 0, locals := 66 }
def F_X3_holds_226 (s0 : St) (t0 : Int32) : Option (Int32 × St) :=
  some (t0, s0)
set_option maxHeartbeats 4000000 in
set_option maxRecDepth 100000 in
theorem T_X3_holds_226 {r : Int32} {z1 : St} (C : Cx p rm_X3_holds s m args c D A cX3_holds 6 RX3 rm_X3_holds N) (hE : En p l e rm_X3_holds s m args below meth c Q D A cX3_holds .ireturn (wC N z1) [.int r])  (s0 : St) (t0 : Int32) (h : F_X3_holds_226 s0 t0 = some (r, z1)) : Aw p l e rm_X3_holds s m args below meth c Q D A 6 (wC N s0) 226 [] [.int t0] := by
  unfold F_X3_holds_226 at h
  cases h
  exact aw_ret hE dX3_holds_226
def F_X3_holds_225 (s0 : St) : Option (Int32 × St) :=
  F_X3_holds_226 s0 (0 : Int32)
set_option maxHeartbeats 4000000 in
set_option maxRecDepth 100000 in
theorem T_X3_holds_225 {r : Int32} {z1 : St} (C : Cx p rm_X3_holds s m args c D A cX3_holds 6 RX3 rm_X3_holds N) (hE : En p l e rm_X3_holds s m args below meth c Q D A cX3_holds .ireturn (wC N z1) [.int r])  (s0 : St) (h : F_X3_holds_225 s0 = some (r, z1)) : Aw p l e rm_X3_holds s m args below meth c Q D A 6 (wC N s0) 225 [] [] := by
  unfold F_X3_holds_225 at h
  refine aw_iconst (v := 0) C dX3_holds_225 (by decide) ?_
  refine aw_sub (lv' := []) [] rfl ?_
  exact T_X3_holds_226 C hE s0 (0 : Int32) h
def F_X3_holds_203 (s0 : St) : Option (Int32 × St) :=
  if (s0.1 31) = 0 then (
    oA (0 : Int32) 64 <|
    if lg_cmp (s0.2.2 30 (Int32.toNatClampNeg (0 : Int32))) (0 : Int64) = 0 then (
      F_X3_holds_225 s0)
    else (
      F_X3_holds_226 s0 (1 : Int32)))
  else (
    F_X3_holds_225 s0)
set_option maxHeartbeats 4000000 in
set_option maxRecDepth 100000 in
theorem T_X3_holds_203 {r : Int32} {z1 : St} (C : Cx p rm_X3_holds s m args c D A cX3_holds 6 RX3 rm_X3_holds N) (hE : En p l e rm_X3_holds s m args below meth c Q D A cX3_holds .ireturn (wC N z1) [.int r])  (s0 : St) (h : F_X3_holds_203 s0 = some (r, z1)) : Aw p l e rm_X3_holds s m args below meth c Q D A 6 (wC N s0) 203 [(0, .ref (N.1 8))] [] := by
  unfold F_X3_holds_203 at h
  refine aw_aload_n C 0 dX3_holds_203 rfl ?_
  refine cg_ju_error C lw_31_18 dX3_holds_204 ?_
  refine aw_if_ne (tgt := 225) C dX3_holds_207 (by decide) (fun q => ?_) (fun q => ?_)
  · have h := bq_f q h
    refine aw_sub (lv' := []) [] rfl ?_
    exact T_X3_holds_225 C hE s0 h
  · have h := bq_t q h
    refine aw_aload_n C 0 dX3_holds_210 rfl ?_
    refine cg_ju_stack C lw_6_12 dX3_holds_211 ?_
    refine aw_iconst (v := 0) C dX3_holds_214 (by decide) ?_
    obtain ⟨q1, h⟩ := oA_e h
    refine ca_lald (k := 30) C (by decide) rfl q1 dX3_holds_215 ?_
    refine aw_lconst (v := 0) C dX3_holds_216 (by decide) ?_
    refine aw_lcmp C dX3_holds_217 ?_
    refine aw_if_eq (tgt := 225) C dX3_holds_218 (by decide) (fun q => ?_) (fun q => ?_)
    · have h := bq_t q h
      refine aw_sub (lv' := []) [] rfl ?_
      exact T_X3_holds_225 C hE s0 h
    · have h := bq_f q h
      refine aw_iconst (v := 1) C dX3_holds_221 (by decide) ?_
      refine aw_goto (tgt := 226) C dX3_holds_222 (by decide) ?_
      refine aw_sub (lv' := []) [] rfl ?_
      exact T_X3_holds_226 C hE s0 (1 : Int32) h
def F_X3_holds_197 (k39 : St → Int32 → Int32 → Int32 → Option (Int32 × St)) (s0 : St) (x2 : Int32) (x3 : Int32) (x4 : Int32) : Option (Int32 × St) :=
  oL (x4 + (1 : Int32)) fun y1 =>
  k39 s0 x2 x3 y1
set_option maxHeartbeats 4000000 in
set_option maxRecDepth 100000 in
theorem T_X3_holds_197 {r : Int32} {z1 : St} {k39 : St → Int32 → Int32 → Int32 → Option (Int32 × St)} (C : Cx p rm_X3_holds s m args c D A cX3_holds 6 RX3 rm_X3_holds N) (hE : En p l e rm_X3_holds s m args below meth c Q D A cX3_holds .ireturn (wC N z1) [.int r]) (hk39 : ∀ (s0 : St) (x2 : Int32) (x3 : Int32) (x4 : Int32), k39 s0 x2 x3 x4 = some (r, z1) → Aw p l e rm_X3_holds s m args below meth c Q D A 6 (wC N s0) 39 [(0, .ref (N.1 8)), (1, .ref (N.1 2)), (2, .int x2), (3, .int x3), (4, .int x4)] []) (s0 : St) (x2 : Int32) (x3 : Int32) (x4 : Int32) (h : F_X3_holds_197 k39 s0 x2 x3 x4 = some (r, z1)) : Aw p l e rm_X3_holds s m args below meth c Q D A 6 (wC N s0) 197 [(0, .ref (N.1 8)), (1, .ref (N.1 2)), (2, .int x2), (3, .int x3), (4, .int x4)] [] := by
  unfold F_X3_holds_197 at h
  obtain ⟨y1, ey1⟩ : ∃ q : Int32, q = x4 + (1 : Int32) := ⟨_, rfl⟩
  have h := oL_e ey1 h
  refine aw_iinc (v := y1) (k := 4) (lv' := [(0, .ref (N.1 8)), (1, .ref (N.1 2)), (2, .int x2), (3, .int x3), (4, .int y1)]) C [1, 2, 3, 4, 0] dX3_holds_197 rfl (by rw [ey1]; rfl) (by decide) rfl ?_
  refine aw_goto (tgt := 39) C dX3_holds_200 (by decide) ?_
  refine aw_sub (lv' := [(0, .ref (N.1 8)), (1, .ref (N.1 2)), (2, .int x2), (3, .int x3), (4, .int y1)]) [0, 1, 2, 3, 4] rfl ?_
  exact hk39 s0 x2 x3 y1 h
def F_X3_holds_159 (k39 : St → Int32 → Int32 → Int32 → Option (Int32 × St)) (s0 : St) (x2 : Int32) (x3 : Int32) (x4 : Int32) (x5 : Int32) : Option (Int32 × St) :=
  if x3 < (2 : Int32) then (
    F_X3_holds_197 k39 s0 x2 x3 x4)
  else (
    oA (x3 - (2 : Int32)) 64 <|
    oA (x3 - (1 : Int32)) 64 <|
    oC (f_X3_worked s0 x5 (s0.2.2 30 (Int32.toNatClampNeg (x3 - (2 : Int32)))) (s0.2.2 30 (Int32.toNatClampNeg (x3 - (1 : Int32))))) fun w5 =>
    oL w5.1 fun v3 => oL w5.2 fun s4 =>
    oA (x3 - (2 : Int32)) 64 <|
    oL (sJ s4 30 (vp_updL (s4.2.2 30) (Int32.toNatClampNeg (x3 - (2 : Int32))) v3)) fun s7 =>
    oL (x3 + (-1 : Int32)) fun y8 =>
    F_X3_holds_197 k39 s7 x2 y8 x4)
set_option maxHeartbeats 4000000 in
set_option maxRecDepth 100000 in
theorem T_X3_holds_159 {r : Int32} {z1 : St} {k39 : St → Int32 → Int32 → Int32 → Option (Int32 × St)} (C : Cx p rm_X3_holds s m args c D A cX3_holds 6 RX3 rm_X3_holds N) (hE : En p l e rm_X3_holds s m args below meth c Q D A cX3_holds .ireturn (wC N z1) [.int r]) (hk39 : ∀ (s0 : St) (x2 : Int32) (x3 : Int32) (x4 : Int32), k39 s0 x2 x3 x4 = some (r, z1) → Aw p l e rm_X3_holds s m args below meth c Q D A 6 (wC N s0) 39 [(0, .ref (N.1 8)), (1, .ref (N.1 2)), (2, .int x2), (3, .int x3), (4, .int x4)] []) (s0 : St) (x2 : Int32) (x3 : Int32) (x4 : Int32) (x5 : Int32) (h : F_X3_holds_159 k39 s0 x2 x3 x4 x5 = some (r, z1)) : Aw p l e rm_X3_holds s m args below meth c Q D A 6 (wC N s0) 159 [(0, .ref (N.1 8)), (1, .ref (N.1 2)), (2, .int x2), (3, .int x3), (4, .int x4), (5, .int x5)] [] := by
  unfold F_X3_holds_159 at h
  refine aw_iload_n C 3 dX3_holds_159 rfl ?_
  refine aw_iconst (v := 2) C dX3_holds_160 (by decide) ?_
  refine aw_icmp_lt (tgt := 197) C dX3_holds_161 (by decide) (fun q => ?_) (fun q => ?_)
  · have h := bq_t q h
    refine aw_sub (lv' := [(0, .ref (N.1 8)), (1, .ref (N.1 2)), (2, .int x2), (3, .int x3), (4, .int x4)]) [0, 1, 2, 3, 4] rfl ?_
    exact T_X3_holds_197 C hE hk39 s0 x2 x3 x4 h
  · have h := bq_f q h
    refine aw_aload_n C 0 dX3_holds_164 rfl ?_
    refine cg_ju_stack C lw_6_12 dX3_holds_165 ?_
    refine aw_iload_n C 3 dX3_holds_168 rfl ?_
    refine aw_iconst (v := 2) C dX3_holds_169 (by decide) ?_
    refine aw_isub C dX3_holds_170 ?_
    refine aw_aload_n C 0 dX3_holds_171 rfl ?_
    refine aw_iload C 5 dX3_holds_172 rfl ?_
    refine aw_aload_n C 0 dX3_holds_174 rfl ?_
    refine cg_ju_stack C lw_6_12 dX3_holds_175 ?_
    refine aw_iload_n C 3 dX3_holds_178 rfl ?_
    refine aw_iconst (v := 2) C dX3_holds_179 (by decide) ?_
    refine aw_isub C dX3_holds_180 ?_
    obtain ⟨q1, h⟩ := oA_e h
    refine ca_lald (k := 30) C (by decide) rfl q1 dX3_holds_181 ?_
    refine aw_aload_n C 0 dX3_holds_182 rfl ?_
    refine cg_ju_stack C lw_6_12 dX3_holds_183 ?_
    refine aw_iload_n C 3 dX3_holds_186 rfl ?_
    refine aw_iconst (v := 1) C dX3_holds_187 (by decide) ?_
    refine aw_isub C dX3_holds_188 ?_
    obtain ⟨q2, h⟩ := oA_e h
    refine ca_lald (k := 30) C (by decide) rfl q2 dX3_holds_189 ?_
    obtain ⟨⟨v3, s4⟩, cw5, h⟩ := oC_e h
    have h := oL_e (x := s4) rfl (oL_e (x := v3) rfl h)
    refine aw_callVl (n := 3) (As := [.int x5, .long (s0.2.2 30 (Int32.toNatClampNeg (x3 - (2 : Int32)))), .long (s0.2.2 30 (Int32.toNatClampNeg (x3 - (1 : Int32))))]) (rest := [.int (x3 - (2 : Int32)), .ref (N.2.1 30)]) (q0 := 8) C (c_X3_worked l D N s0 s4 x5 (s0.2.2 30 (Int32.toNatClampNeg (x3 - (2 : Int32)))) (s0.2.2 30 (Int32.toNatClampNeg (x3 - (1 : Int32)))) v3 cw5) lw_32_16 lw_32_17 lw_32_18 lw_2_17 lw_32_19 rfl rfl (by decide +kernel) ⟨Nat.le_of_ble_eq_true rfl, Nat.le_of_ble_eq_true rfl⟩ rfl rfl rfl rfl rfl (Nat.le_of_ble_eq_true rfl) dX3_holds_190 ?_
    obtain ⟨q6, h⟩ := oA_e h
    refine ca_last (k := 30) C (by decide) rfl q6 dX3_holds_193 ?_
    refine ca_name (fun s7 es7 => ?_)
    have h := oL_e es7 h
    obtain ⟨y8, ey8⟩ : ∃ q : Int32, q = x3 + (-1 : Int32) := ⟨_, rfl⟩
    have h := oL_e ey8 h
    refine aw_iinc (v := y8) (k := 3) (lv' := [(0, .ref (N.1 8)), (1, .ref (N.1 2)), (2, .int x2), (3, .int y8), (4, .int x4), (5, .int x5)]) C [1, 2, 3, 0, 4, 5] dX3_holds_194 rfl (by rw [ey8]; rfl) (by decide) rfl ?_
    refine aw_sub (lv' := [(0, .ref (N.1 8)), (1, .ref (N.1 2)), (2, .int x2), (3, .int y8), (4, .int x4)]) [0, 1, 2, 3, 4] rfl ?_
    exact T_X3_holds_197 C hE hk39 s7 x2 y8 x4 h
def F_X3_holds_152 (k39 : St → Int32 → Int32 → Int32 → Option (Int32 × St)) (s0 : St) (x2 : Int32) (x3 : Int32) (x4 : Int32) (t0 : Int64) (t1 : Int32) : Option (Int32 × St) :=
  oA t1 64 <|
  oL (sJ s0 30 (vp_updL (s0.2.2 30) (Int32.toNatClampNeg t1) t0)) fun s2 =>
  oL (x3 + (1 : Int32)) fun y3 =>
  F_X3_holds_197 k39 s2 x2 y3 x4
set_option maxHeartbeats 4000000 in
set_option maxRecDepth 100000 in
theorem T_X3_holds_152 {r : Int32} {z1 : St} {k39 : St → Int32 → Int32 → Int32 → Option (Int32 × St)} (C : Cx p rm_X3_holds s m args c D A cX3_holds 6 RX3 rm_X3_holds N) (hE : En p l e rm_X3_holds s m args below meth c Q D A cX3_holds .ireturn (wC N z1) [.int r]) (hk39 : ∀ (s0 : St) (x2 : Int32) (x3 : Int32) (x4 : Int32), k39 s0 x2 x3 x4 = some (r, z1) → Aw p l e rm_X3_holds s m args below meth c Q D A 6 (wC N s0) 39 [(0, .ref (N.1 8)), (1, .ref (N.1 2)), (2, .int x2), (3, .int x3), (4, .int x4)] []) (s0 : St) (x2 : Int32) (x3 : Int32) (x4 : Int32) (t0 : Int64) (t1 : Int32) (h : F_X3_holds_152 k39 s0 x2 x3 x4 t0 t1 = some (r, z1)) : Aw p l e rm_X3_holds s m args below meth c Q D A 6 (wC N s0) 152 [(0, .ref (N.1 8)), (1, .ref (N.1 2)), (2, .int x2), (3, .int x3), (4, .int x4)] [.long t0, .int t1, .ref (N.2.1 30)] := by
  unfold F_X3_holds_152 at h
  obtain ⟨q1, h⟩ := oA_e h
  refine ca_last (k := 30) C (by decide) rfl q1 dX3_holds_152 ?_
  refine ca_name (fun s2 es2 => ?_)
  have h := oL_e es2 h
  obtain ⟨y3, ey3⟩ : ∃ q : Int32, q = x3 + (1 : Int32) := ⟨_, rfl⟩
  have h := oL_e ey3 h
  refine aw_iinc (v := y3) (k := 3) (lv' := [(0, .ref (N.1 8)), (1, .ref (N.1 2)), (2, .int x2), (3, .int y3), (4, .int x4)]) C [1, 2, 3, 0, 4] dX3_holds_153 rfl (by rw [ey3]; rfl) (by decide) rfl ?_
  refine aw_goto (tgt := 197) C dX3_holds_156 (by decide) ?_
  refine aw_sub (lv' := [(0, .ref (N.1 8)), (1, .ref (N.1 2)), (2, .int x2), (3, .int y3), (4, .int x4)]) [0, 1, 2, 3, 4] rfl ?_
  exact T_X3_holds_197 C hE hk39 s2 x2 y3 x4 h
def F_X3_holds_108 (k39 : St → Int32 → Int32 → Int32 → Option (Int32 × St)) (s0 : St) (x2 : Int32) (x3 : Int32) (x4 : Int32) (x5 : Int32) : Option (Int32 × St) :=
  oC (f_X3_isOperand s0 x5) fun w3 =>
  oL w3.1 fun v1 => oL w3.2 fun s2 =>
  if v1 = 0 then (
    F_X3_holds_159 k39 s2 x2 x3 x4 x5)
  else (
    if (64 : Int32) ≤ x3 then (
      F_X3_holds_159 k39 s2 x2 x3 x4 x5)
    else (
      if x5 = (20 : Int32) then (
        oA x4 64 <|
        F_X3_holds_152 k39 s2 x2 x3 x4 (Int32.toInt64 (s2.2.1 3 (Int32.toNatClampNeg x4))) x3)
      else (
        oC (f_X3_named s2 x5 x2) fun w6 =>
        oL w6.1 fun v4 => oL w6.2 fun s5 =>
        F_X3_holds_152 k39 s5 x2 x3 x4 v4 x3)))
set_option maxHeartbeats 4000000 in
set_option maxRecDepth 100000 in
theorem T_X3_holds_108 {r : Int32} {z1 : St} {k39 : St → Int32 → Int32 → Int32 → Option (Int32 × St)} (C : Cx p rm_X3_holds s m args c D A cX3_holds 6 RX3 rm_X3_holds N) (hE : En p l e rm_X3_holds s m args below meth c Q D A cX3_holds .ireturn (wC N z1) [.int r]) (hk39 : ∀ (s0 : St) (x2 : Int32) (x3 : Int32) (x4 : Int32), k39 s0 x2 x3 x4 = some (r, z1) → Aw p l e rm_X3_holds s m args below meth c Q D A 6 (wC N s0) 39 [(0, .ref (N.1 8)), (1, .ref (N.1 2)), (2, .int x2), (3, .int x3), (4, .int x4)] []) (s0 : St) (x2 : Int32) (x3 : Int32) (x4 : Int32) (x5 : Int32) (h : F_X3_holds_108 k39 s0 x2 x3 x4 x5 = some (r, z1)) : Aw p l e rm_X3_holds s m args below meth c Q D A 6 (wC N s0) 108 [(0, .ref (N.1 8)), (1, .ref (N.1 2)), (2, .int x2), (3, .int x3), (4, .int x4), (5, .int x5)] [] := by
  unfold F_X3_holds_108 at h
  refine aw_iload C 5 dX3_holds_108 rfl ?_
  obtain ⟨⟨v1, s2⟩, cw3, h⟩ := oC_e h
  have h := oL_e (x := s2) rfl (oL_e (x := v1) rfl h)
  refine aw_callSi (n := 1) (As := [.int x5]) (rest := []) C (c_X3_isOperand l D N s0 s2 x5 v1 cw3) lw_32_5 lw_32_6 lw_2_17 lw_32_7 rfl rfl (by decide +kernel) ⟨Nat.le_of_ble_eq_true rfl, Nat.le_of_ble_eq_true rfl⟩ rfl rfl (Nat.le_of_ble_eq_true rfl) dX3_holds_110 ?_
  refine aw_if_eq (tgt := 159) C dX3_holds_113 (by decide) (fun q => ?_) (fun q => ?_)
  · have h := bq_t q h
    refine aw_sub (lv' := [(0, .ref (N.1 8)), (1, .ref (N.1 2)), (2, .int x2), (3, .int x3), (4, .int x4), (5, .int x5)]) [0, 1, 2, 3, 4, 5] rfl ?_
    exact T_X3_holds_159 C hE hk39 s2 x2 x3 x4 x5 h
  · have h := bq_f q h
    refine aw_iload_n C 3 dX3_holds_116 rfl ?_
    refine aw_bipush (v := 64) C dX3_holds_117 (by decide) ?_
    refine aw_icmp_ge (tgt := 159) C dX3_holds_119 (by decide) (fun q => ?_) (fun q => ?_)
    · have h := bq_t q h
      refine aw_sub (lv' := [(0, .ref (N.1 8)), (1, .ref (N.1 2)), (2, .int x2), (3, .int x3), (4, .int x4), (5, .int x5)]) [0, 1, 2, 3, 4, 5] rfl ?_
      exact T_X3_holds_159 C hE hk39 s2 x2 x3 x4 x5 h
    · have h := bq_f q h
      refine aw_aload_n C 0 dX3_holds_122 rfl ?_
      refine cg_ju_stack C lw_6_12 dX3_holds_123 ?_
      refine aw_iload_n C 3 dX3_holds_126 rfl ?_
      refine aw_iload C 5 dX3_holds_127 rfl ?_
      refine aw_bipush (v := 20) C dX3_holds_129 (by decide) ?_
      refine aw_icmp_ne (tgt := 145) C dX3_holds_131 (by decide) (fun q => ?_) (fun q => ?_)
      · have h := bq_f q h
        refine aw_aload_n C 0 dX3_holds_145 rfl ?_
        refine aw_iload C 5 dX3_holds_146 rfl ?_
        refine aw_iload_n C 2 dX3_holds_148 rfl ?_
        obtain ⟨⟨v4, s5⟩, cw6, h⟩ := oC_e h
        have h := oL_e (x := s5) rfl (oL_e (x := v4) rfl h)
        refine aw_callVl (n := 2) (As := [.int x5, .int x2]) (rest := [.int x3, .ref (N.2.1 30)]) (q0 := 8) C (c_X3_named l D N s2 s5 x5 x2 v4 cw6) lw_32_8 lw_32_9 lw_32_10 lw_2_17 lw_32_11 rfl rfl (by decide +kernel) ⟨Nat.le_of_ble_eq_true rfl, Nat.le_of_ble_eq_true rfl⟩ rfl rfl rfl rfl rfl (Nat.le_of_ble_eq_true rfl) dX3_holds_149 ?_
        refine aw_sub (lv' := [(0, .ref (N.1 8)), (1, .ref (N.1 2)), (2, .int x2), (3, .int x3), (4, .int x4)]) [0, 1, 2, 3, 4] rfl ?_
        exact T_X3_holds_152 C hE hk39 s5 x2 x3 x4 v4 x3 h
      · have h := bq_t q h
        refine aw_aload_n C 1 dX3_holds_134 rfl ?_
        refine cg_tc_number C lw_31_20 dX3_holds_135 ?_
        refine aw_iload C 4 dX3_holds_138 rfl ?_
        obtain ⟨q7, h⟩ := oA_e h
        refine ca_iald (k := 3) C (by decide) rfl q7 dX3_holds_140 ?_
        refine aw_i2l C dX3_holds_141 ?_
        refine aw_goto (tgt := 152) C dX3_holds_142 (by decide) ?_
        refine aw_sub (lv' := [(0, .ref (N.1 8)), (1, .ref (N.1 2)), (2, .int x2), (3, .int x3), (4, .int x4)]) [0, 1, 2, 3, 4] rfl ?_
        exact T_X3_holds_152 C hE hk39 s2 x2 x3 x4 (Int32.toInt64 (s2.2.1 3 (Int32.toNatClampNeg x4))) x3 h
def F_X3_holds_101 (k39 : St → Int32 → Int32 → Int32 → Option (Int32 × St)) (s0 : St) (x2 : Int32) (x3 : Int32) (x4 : Int32) (t0 : Int32) (t1 : Int32) : Option (Int32 × St) :=
  oC (f_X3_truth s0 t0) fun w3 =>
  oL w3.1 fun v1 => oL w3.2 fun s2 =>
  oA t1 64 <|
  oL (sJ s2 30 (vp_updL (s2.2.2 30) (Int32.toNatClampNeg t1) v1)) fun s5 =>
  F_X3_holds_197 k39 s5 x2 x3 x4
set_option maxHeartbeats 4000000 in
set_option maxRecDepth 100000 in
theorem T_X3_holds_101 {r : Int32} {z1 : St} {k39 : St → Int32 → Int32 → Int32 → Option (Int32 × St)} (C : Cx p rm_X3_holds s m args c D A cX3_holds 6 RX3 rm_X3_holds N) (hE : En p l e rm_X3_holds s m args below meth c Q D A cX3_holds .ireturn (wC N z1) [.int r]) (hk39 : ∀ (s0 : St) (x2 : Int32) (x3 : Int32) (x4 : Int32), k39 s0 x2 x3 x4 = some (r, z1) → Aw p l e rm_X3_holds s m args below meth c Q D A 6 (wC N s0) 39 [(0, .ref (N.1 8)), (1, .ref (N.1 2)), (2, .int x2), (3, .int x3), (4, .int x4)] []) (s0 : St) (x2 : Int32) (x3 : Int32) (x4 : Int32) (t0 : Int32) (t1 : Int32) (h : F_X3_holds_101 k39 s0 x2 x3 x4 t0 t1 = some (r, z1)) : Aw p l e rm_X3_holds s m args below meth c Q D A 6 (wC N s0) 101 [(0, .ref (N.1 8)), (1, .ref (N.1 2)), (2, .int x2), (3, .int x3), (4, .int x4)] [.int t0, .int t1, .ref (N.2.1 30)] := by
  unfold F_X3_holds_101 at h
  obtain ⟨⟨v1, s2⟩, cw3, h⟩ := oC_e h
  have h := oL_e (x := s2) rfl (oL_e (x := v1) rfl h)
  refine aw_callSl (n := 1) (As := [.int t0]) (rest := [.int t1, .ref (N.2.1 30)]) C (c_X3_truth l D N s0 s2 t0 v1 cw3) lw_32_2 lw_32_3 lw_2_17 lw_32_4 rfl rfl (by decide +kernel) ⟨Nat.le_of_ble_eq_true rfl, Nat.le_of_ble_eq_true rfl⟩ rfl rfl (Nat.le_of_ble_eq_true rfl) dX3_holds_101 ?_
  obtain ⟨q4, h⟩ := oA_e h
  refine ca_last (k := 30) C (by decide) rfl q4 dX3_holds_104 ?_
  refine ca_name (fun s5 es5 => ?_)
  have h := oL_e es5 h
  refine aw_goto (tgt := 197) C dX3_holds_105 (by decide) ?_
  refine aw_sub (lv' := [(0, .ref (N.1 8)), (1, .ref (N.1 2)), (2, .int x2), (3, .int x3), (4, .int x4)]) [0, 1, 2, 3, 4] rfl ?_
  exact T_X3_holds_197 C hE hk39 s5 x2 x3 x4 h
def F_X3_holds_39_b (k39 : St → Int32 → Int32 → Int32 → Option (Int32 × St)) (s0 : St) (x2 : Int32) (x3 : Int32) (x4 : Int32) : Option (Int32 × St) :=
  if (s0.1 16) ≤ x4 then (
    F_X3_holds_203 s0)
  else (
    if (s0.1 31) = 0 then (
      oA x4 64 <|
      oL (s0.2.1 2 (Int32.toNatClampNeg x4)) fun y2 =>
      if y2 = (17 : Int32) then (
        if x3 < (1 : Int32) then (
          F_X3_holds_108 k39 s0 x2 x3 x4 y2)
        else (
          oA (x3 - (1 : Int32)) 64 <|
          if lg_cmp (s0.2.2 30 (Int32.toNatClampNeg (x3 - (1 : Int32)))) (0 : Int64) = 0 then (
            F_X3_holds_101 k39 s0 x2 x3 x4 (1 : Int32) (x3 - (1 : Int32)))
          else (
            F_X3_holds_101 k39 s0 x2 x3 x4 (0 : Int32) (x3 - (1 : Int32)))))
      else (
        F_X3_holds_108 k39 s0 x2 x3 x4 y2))
    else (
      F_X3_holds_203 s0))
set_option maxHeartbeats 4000000 in
set_option maxRecDepth 100000 in
theorem T_X3_holds_39_b {r : Int32} {z1 : St} {k39 : St → Int32 → Int32 → Int32 → Option (Int32 × St)} (C : Cx p rm_X3_holds s m args c D A cX3_holds 6 RX3 rm_X3_holds N) (hE : En p l e rm_X3_holds s m args below meth c Q D A cX3_holds .ireturn (wC N z1) [.int r]) (hk39 : ∀ (s0 : St) (x2 : Int32) (x3 : Int32) (x4 : Int32), k39 s0 x2 x3 x4 = some (r, z1) → Aw p l e rm_X3_holds s m args below meth c Q D A 6 (wC N s0) 39 [(0, .ref (N.1 8)), (1, .ref (N.1 2)), (2, .int x2), (3, .int x3), (4, .int x4)] []) (s0 : St) (x2 : Int32) (x3 : Int32) (x4 : Int32) (h : F_X3_holds_39_b k39 s0 x2 x3 x4 = some (r, z1)) : Aw p l e rm_X3_holds s m args below meth c Q D A 6 (wC N s0) 39 [(0, .ref (N.1 8)), (1, .ref (N.1 2)), (2, .int x2), (3, .int x3), (4, .int x4)] [] := by
  unfold F_X3_holds_39_b at h
  refine aw_iload C 4 dX3_holds_39 rfl ?_
  refine aw_aload_n C 1 dX3_holds_41 rfl ?_
  refine cg_tc_knots C lw_31_17 dX3_holds_42 ?_
  refine aw_icmp_ge (tgt := 203) C dX3_holds_45 (by decide) (fun q => ?_) (fun q => ?_)
  · have h := bq_t q h
    refine aw_sub (lv' := [(0, .ref (N.1 8))]) [0] rfl ?_
    exact T_X3_holds_203 C hE s0 h
  · have h := bq_f q h
    refine aw_aload_n C 0 dX3_holds_48 rfl ?_
    refine cg_ju_error C lw_31_18 dX3_holds_49 ?_
    refine aw_if_ne (tgt := 203) C dX3_holds_52 (by decide) (fun q => ?_) (fun q => ?_)
    · have h := bq_f q h
      refine aw_sub (lv' := [(0, .ref (N.1 8))]) [0] rfl ?_
      exact T_X3_holds_203 C hE s0 h
    · have h := bq_t q h
      refine aw_aload_n C 1 dX3_holds_55 rfl ?_
      refine cg_tc_knot C lw_31_19 dX3_holds_56 ?_
      refine aw_iload C 4 dX3_holds_59 rfl ?_
      obtain ⟨q1, h⟩ := oA_e h
      refine ca_iald (k := 2) C (by decide) rfl q1 dX3_holds_61 ?_
      refine aw_topi (fun y2 ey2 => ?_)
      have h := oL_e ey2 h
      refine aw_istore (lv' := [(0, .ref (N.1 8)), (1, .ref (N.1 2)), (2, .int x2), (3, .int x3), (4, .int x4), (5, .int y2)]) C [1, 2, 3, 4, 5, 0] dX3_holds_62 (by decide) rfl ?_
      refine aw_iload C 5 dX3_holds_64 rfl ?_
      refine aw_bipush (v := 17) C dX3_holds_66 (by decide) ?_
      refine aw_icmp_ne (tgt := 108) C dX3_holds_68 (by decide) (fun q => ?_) (fun q => ?_)
      · have h := bq_f q h
        refine aw_sub (lv' := [(0, .ref (N.1 8)), (1, .ref (N.1 2)), (2, .int x2), (3, .int x3), (4, .int x4), (5, .int y2)]) [0, 1, 2, 3, 4, 5] rfl ?_
        exact T_X3_holds_108 C hE hk39 s0 x2 x3 x4 y2 h
      · have h := bq_t q h
        refine aw_iload_n C 3 dX3_holds_71 rfl ?_
        refine aw_iconst (v := 1) C dX3_holds_72 (by decide) ?_
        refine aw_icmp_lt (tgt := 108) C dX3_holds_73 (by decide) (fun q => ?_) (fun q => ?_)
        · have h := bq_t q h
          refine aw_sub (lv' := [(0, .ref (N.1 8)), (1, .ref (N.1 2)), (2, .int x2), (3, .int x3), (4, .int x4), (5, .int y2)]) [0, 1, 2, 3, 4, 5] rfl ?_
          exact T_X3_holds_108 C hE hk39 s0 x2 x3 x4 y2 h
        · have h := bq_f q h
          refine aw_aload_n C 0 dX3_holds_76 rfl ?_
          refine cg_ju_stack C lw_6_12 dX3_holds_77 ?_
          refine aw_iload_n C 3 dX3_holds_80 rfl ?_
          refine aw_iconst (v := 1) C dX3_holds_81 (by decide) ?_
          refine aw_isub C dX3_holds_82 ?_
          refine aw_aload_n C 0 dX3_holds_83 rfl ?_
          refine cg_ju_stack C lw_6_12 dX3_holds_84 ?_
          refine aw_iload_n C 3 dX3_holds_87 rfl ?_
          refine aw_iconst (v := 1) C dX3_holds_88 (by decide) ?_
          refine aw_isub C dX3_holds_89 ?_
          obtain ⟨q3, h⟩ := oA_e h
          refine ca_lald (k := 30) C (by decide) rfl q3 dX3_holds_90 ?_
          refine aw_lconst (v := 0) C dX3_holds_91 (by decide) ?_
          refine aw_lcmp C dX3_holds_92 ?_
          refine aw_if_ne (tgt := 100) C dX3_holds_93 (by decide) (fun q => ?_) (fun q => ?_)
          · have h := bq_f q h
            refine aw_iconst (v := 0) C dX3_holds_100 (by decide) ?_
            refine aw_sub (lv' := [(0, .ref (N.1 8)), (1, .ref (N.1 2)), (2, .int x2), (3, .int x3), (4, .int x4)]) [0, 1, 2, 3, 4] rfl ?_
            exact T_X3_holds_101 C hE hk39 s0 x2 x3 x4 (0 : Int32) (x3 - (1 : Int32)) h
          · have h := bq_t q h
            refine aw_iconst (v := 1) C dX3_holds_96 (by decide) ?_
            refine aw_goto (tgt := 101) C dX3_holds_97 (by decide) ?_
            refine aw_sub (lv' := [(0, .ref (N.1 8)), (1, .ref (N.1 2)), (2, .int x2), (3, .int x3), (4, .int x4)]) [0, 1, 2, 3, 4] rfl ?_
            exact T_X3_holds_101 C hE hk39 s0 x2 x3 x4 (1 : Int32) (x3 - (1 : Int32)) h
def F_X3_holds_39 : Nat → St → Int32 → Int32 → Int32 → Option (Int32 × St)
  | 0 => fun _ _ _ _ => none
  | n + 1 => F_X3_holds_39_b (F_X3_holds_39 n)
theorem T_X3_holds_39 {r : Int32} {z1 : St} (C : Cx p rm_X3_holds s m args c D A cX3_holds 6 RX3 rm_X3_holds N) (hE : En p l e rm_X3_holds s m args below meth c Q D A cX3_holds .ireturn (wC N z1) [.int r])  : ∀ (n : Nat) (s0 : St) (x2 : Int32) (x3 : Int32) (x4 : Int32), F_X3_holds_39 n s0 x2 x3 x4 = some (r, z1) → Aw p l e rm_X3_holds s m args below meth c Q D A 6 (wC N s0) 39 [(0, .ref (N.1 8)), (1, .ref (N.1 2)), (2, .int x2), (3, .int x3), (4, .int x4)] [] := by
  intro n
  induction n with
  | zero => intro s0 x2 x3 x4 h; cases h
  | succ n ih => intro s0 x2 x3 x4 h; exact T_X3_holds_39_b C hE ih s0 x2 x3 x4 h
def F_X3_holds_28 (s0 : St) (t0 : Int32) : Option (Int32 × St) :=
  some (t0, s0)
set_option maxHeartbeats 4000000 in
set_option maxRecDepth 100000 in
theorem T_X3_holds_28 {r : Int32} {z1 : St} (C : Cx p rm_X3_holds s m args c D A cX3_holds 6 RX3 rm_X3_holds N) (hE : En p l e rm_X3_holds s m args below meth c Q D A cX3_holds .ireturn (wC N z1) [.int r])  (s0 : St) (t0 : Int32) (h : F_X3_holds_28 s0 t0 = some (r, z1)) : Aw p l e rm_X3_holds s m args below meth c Q D A 6 (wC N s0) 28 [] [.int t0] := by
  unfold F_X3_holds_28 at h
  cases h
  exact aw_ret hE dX3_holds_28
def F_X3_holds_0 (s0 : St) (x2 : Int32) : Option (Int32 × St) :=
  if (s0.1 16) = 0 then (
    oC (f_X3_peopleIn s0 (0 : Int32) x2) fun w7 =>
    oL w7.1 fun v5 => oL w7.2 fun s6 =>
    oC (f_X3_peopleIn s6 (1 : Int32) x2) fun w10 =>
    oL w10.1 fun v8 => oL w10.2 fun s9 =>
    if lg_cmp v5 v8 ≤ 0 then (
      F_X3_holds_28 s9 (0 : Int32))
    else (
      F_X3_holds_28 s9 (1 : Int32)))
  else (
    oZ (0 : Int32) <|
    oL (sI s0 31 (0 : Int32)) fun s2 =>
    oL (0 : Int32) fun y3 =>
    oL (0 : Int32) fun y4 =>
    F_X3_holds_39 100000 s2 x2 y3 y4)
set_option maxHeartbeats 4000000 in
set_option maxRecDepth 100000 in
theorem T_X3_holds_0 {r : Int32} {z1 : St} (C : Cx p rm_X3_holds s m args c D A cX3_holds 6 RX3 rm_X3_holds N) (hE : En p l e rm_X3_holds s m args below meth c Q D A cX3_holds .ireturn (wC N z1) [.int r])  (s0 : St) (x2 : Int32) (h : F_X3_holds_0 s0 x2 = some (r, z1)) : Aw p l e rm_X3_holds s m args below meth c Q D A 6 (wC N s0) 0 [(0, .ref (N.1 8)), (1, .ref (N.1 2)), (2, .int x2)] [] := by
  unfold F_X3_holds_0 at h
  refine aw_aload_n C 1 dX3_holds_0 rfl ?_
  refine cg_tc_knots C lw_31_17 dX3_holds_1 ?_
  refine aw_if_ne (tgt := 29) C dX3_holds_4 (by decide) (fun q => ?_) (fun q => ?_)
  · have h := bq_f q h
    refine aw_aload_n C 0 dX3_holds_29 rfl ?_
    refine aw_iconst (v := 0) C dX3_holds_30 (by decide) ?_
    obtain ⟨q1, h⟩ := oZ_e h
    refine cp_ju_error C lw_31_18 q1 dX3_holds_31 ?_
    refine ca_name (fun s2 es2 => ?_)
    have h := oL_e es2 h
    refine aw_iconst (v := 0) C dX3_holds_34 (by decide) ?_
    refine aw_topi (fun y3 ey3 => ?_)
    have h := oL_e ey3 h
    refine aw_istore_n (lv' := [(0, .ref (N.1 8)), (1, .ref (N.1 2)), (2, .int x2), (3, .int y3)]) C [1, 2, 3, 0] dX3_holds_35 rfl (by decide) rfl ?_
    refine aw_iconst (v := 0) C dX3_holds_36 (by decide) ?_
    refine aw_topi (fun y4 ey4 => ?_)
    have h := oL_e ey4 h
    refine aw_istore (lv' := [(0, .ref (N.1 8)), (1, .ref (N.1 2)), (2, .int x2), (3, .int y3), (4, .int y4)]) C [1, 2, 3, 4, 0] dX3_holds_37 (by decide) rfl ?_
    refine aw_sub (lv' := [(0, .ref (N.1 8)), (1, .ref (N.1 2)), (2, .int x2), (3, .int y3), (4, .int y4)]) [0, 1, 2, 3, 4] rfl ?_
    exact T_X3_holds_39 C hE 100000 s2 x2 y3 y4 h
  · have h := bq_t q h
    refine aw_aload_n C 0 dX3_holds_7 rfl ?_
    refine aw_iconst (v := 0) C dX3_holds_8 (by decide) ?_
    refine aw_iload_n C 2 dX3_holds_9 rfl ?_
    obtain ⟨⟨v5, s6⟩, cw7, h⟩ := oC_e h
    have h := oL_e (x := s6) rfl (oL_e (x := v5) rfl h)
    refine aw_callVl (n := 2) (As := [.int (0 : Int32), .int x2]) (rest := []) (q0 := 8) C (c_X3_peopleIn l D N s0 s6 (0 : Int32) x2 v5 cw7) lw_31_21 lw_31_22 lw_31_23 lw_2_17 lw_32_0 rfl rfl (by decide +kernel) ⟨Nat.le_of_ble_eq_true rfl, Nat.le_of_ble_eq_true rfl⟩ rfl rfl rfl rfl rfl (Nat.le_of_ble_eq_true rfl) dX3_holds_10 ?_
    refine aw_aload_n C 0 dX3_holds_13 rfl ?_
    refine aw_iconst (v := 1) C dX3_holds_14 (by decide) ?_
    refine aw_iload_n C 2 dX3_holds_15 rfl ?_
    obtain ⟨⟨v8, s9⟩, cw10, h⟩ := oC_e h
    have h := oL_e (x := s9) rfl (oL_e (x := v8) rfl h)
    refine aw_callVl (n := 2) (As := [.int (1 : Int32), .int x2]) (rest := [.long v5]) (q0 := 8) C (c_X3_peopleIn l D N s6 s9 (1 : Int32) x2 v8 cw10) lw_31_21 lw_31_22 lw_31_23 lw_2_17 lw_32_0 rfl rfl (by decide +kernel) ⟨Nat.le_of_ble_eq_true rfl, Nat.le_of_ble_eq_true rfl⟩ rfl rfl rfl rfl rfl (Nat.le_of_ble_eq_true rfl) dX3_holds_16 ?_
    refine aw_lcmp C dX3_holds_19 ?_
    refine aw_if_le (tgt := 27) C dX3_holds_20 (by decide) (fun q => ?_) (fun q => ?_)
    · have h := bq_t q h
      refine aw_iconst (v := 0) C dX3_holds_27 (by decide) ?_
      refine aw_sub (lv' := []) [] rfl ?_
      exact T_X3_holds_28 C hE s9 (0 : Int32) h
    · have h := bq_f q h
      refine aw_iconst (v := 1) C dX3_holds_23 (by decide) ?_
      refine aw_goto (tgt := 28) C dX3_holds_24 (by decide) ?_
      refine aw_sub (lv' := []) [] rfl ?_
      exact T_X3_holds_28 C hE s9 (1 : Int32) h
def f_X3_holds (s0 : St) (x2 : Int32) : Option (Int32 × St) := oC (F_X3_holds_0 s0 x2) fun w => oZ w.1 (some w)
theorem c_X3_holds (l : Launch) (D : va_G) (N : Nm) (s0 z1 : St) (x2 : Int32) (r : Int32) (h : f_X3_holds s0 x2 = some (r, z1)) : Meti l yX3_holds (tsU yX3_holds cX3_holds 6 (some .boolean)) rm_X3_holds D N [.ref (N.1 8), .ref (N.1 2), .int x2] (wC N s0) r (wC N z1) := by
  obtain ⟨w, h1, h2⟩ := oC_e h
  obtain ⟨hz, h2⟩ := oZ_e h2
  cases h2
  exact met_z (cc := cX3_holds) (nL := 6) (own := RX3) (by decide) rfl (Nat.le_of_ble_eq_true rfl) (zN hz) (fun p e s m args below meth c Q A C hE => aw_sub [0, 1, 2] rfl (T_X3_holds_0 C hE s0 x2 h1))
/-! AwardLine$Judge.award(LAwardLine$Terms;I)I -/
def rm_X3_award : Room := { frames := 4, cells := 0, slots := 0, locals := 91 }
def F_X3_award_105 (k55 : St → Int32 → Int32 → Int32 → Int32 → Option (Int32 × St)) (s0 : St) (x2 : Int32) (x3 : Int32) (x4 : Int32) (x5 : Int32) : Option (Int32 × St) :=
  oL (x5 + (1 : Int32)) fun y1 =>
  k55 s0 x2 x3 x4 y1
set_option maxHeartbeats 4000000 in
set_option maxRecDepth 100000 in
theorem T_X3_award_105 {r : Int32} {z1 : St} {k55 : St → Int32 → Int32 → Int32 → Int32 → Option (Int32 × St)} (C : Cx p rm_X3_award s m args c D A cX3_award 7 RX3 rm_X3_award N) (hE : En p l e rm_X3_award s m args below meth c Q D A cX3_award .ireturn (wC N z1) [.int r]) (hk55 : ∀ (s0 : St) (x2 : Int32) (x3 : Int32) (x4 : Int32) (x5 : Int32), k55 s0 x2 x3 x4 x5 = some (r, z1) → Aw p l e rm_X3_award s m args below meth c Q D A 7 (wC N s0) 55 [(0, .ref (N.1 8)), (1, .ref (N.1 2)), (2, .int x2), (3, .int x3), (4, .int x4), (5, .int x5)] []) (s0 : St) (x2 : Int32) (x3 : Int32) (x4 : Int32) (x5 : Int32) (h : F_X3_award_105 k55 s0 x2 x3 x4 x5 = some (r, z1)) : Aw p l e rm_X3_award s m args below meth c Q D A 7 (wC N s0) 105 [(0, .ref (N.1 8)), (1, .ref (N.1 2)), (2, .int x2), (3, .int x3), (4, .int x4), (5, .int x5)] [] := by
  unfold F_X3_award_105 at h
  obtain ⟨y1, ey1⟩ : ∃ q : Int32, q = x5 + (1 : Int32) := ⟨_, rfl⟩
  have h := oL_e ey1 h
  refine aw_iinc (v := y1) (k := 5) (lv' := [(0, .ref (N.1 8)), (1, .ref (N.1 2)), (2, .int x2), (3, .int x3), (4, .int x4), (5, .int y1)]) C [1, 2, 3, 4, 5, 0] dX3_award_105 rfl (by rw [ey1]; rfl) (by decide) rfl ?_
  refine aw_goto (tgt := 55) C dX3_award_108 (by decide) ?_
  refine aw_sub (lv' := [(0, .ref (N.1 8)), (1, .ref (N.1 2)), (2, .int x2), (3, .int x3), (4, .int x4), (5, .int y1)]) [0, 1, 2, 3, 4, 5] rfl ?_
  exact hk55 s0 x2 x3 x4 y1 h
def F_X3_award_83 (k55 : St → Int32 → Int32 → Int32 → Int32 → Option (Int32 × St)) (s0 : St) (x2 : Int32) (x3 : Int32) (x4 : Int32) (x5 : Int32) (t0 : Int32) : Option (Int32 × St) :=
  if t0 = 0 then (
    F_X3_award_105 k55 s0 x2 x3 x4 x5)
  else (
    oC (f_X3_holds s0 t0) fun w3 =>
    oL w3.1 fun v1 => oL w3.2 fun s2 =>
    if v1 = 0 then (
      F_X3_award_105 k55 s2 x2 x3 x4 x5)
    else (
      oL (x3 ||| t0) fun y4 =>
      F_X3_award_105 k55 s2 x2 y4 x4 x5))
set_option maxHeartbeats 4000000 in
set_option maxRecDepth 100000 in
theorem T_X3_award_83 {r : Int32} {z1 : St} {k55 : St → Int32 → Int32 → Int32 → Int32 → Option (Int32 × St)} (C : Cx p rm_X3_award s m args c D A cX3_award 7 RX3 rm_X3_award N) (hE : En p l e rm_X3_award s m args below meth c Q D A cX3_award .ireturn (wC N z1) [.int r]) (hk55 : ∀ (s0 : St) (x2 : Int32) (x3 : Int32) (x4 : Int32) (x5 : Int32), k55 s0 x2 x3 x4 x5 = some (r, z1) → Aw p l e rm_X3_award s m args below meth c Q D A 7 (wC N s0) 55 [(0, .ref (N.1 8)), (1, .ref (N.1 2)), (2, .int x2), (3, .int x3), (4, .int x4), (5, .int x5)] []) (s0 : St) (x2 : Int32) (x3 : Int32) (x4 : Int32) (x5 : Int32) (t0 : Int32) (h : F_X3_award_83 k55 s0 x2 x3 x4 x5 t0 = some (r, z1)) : Aw p l e rm_X3_award s m args below meth c Q D A 7 (wC N s0) 83 [(0, .ref (N.1 8)), (1, .ref (N.1 2)), (2, .int x2), (3, .int x3), (4, .int x4), (5, .int x5)] [.int t0] := by
  unfold F_X3_award_83 at h
  refine aw_istore (lv' := [(0, .ref (N.1 8)), (1, .ref (N.1 2)), (2, .int x2), (3, .int x3), (4, .int x4), (5, .int x5), (6, .int t0)]) C [1, 2, 3, 4, 5, 6, 0] dX3_award_83 (by decide) rfl ?_
  refine aw_iload C 6 dX3_award_85 rfl ?_
  refine aw_if_eq (tgt := 105) C dX3_award_87 (by decide) (fun q => ?_) (fun q => ?_)
  · have h := bq_t q h
    refine aw_sub (lv' := [(0, .ref (N.1 8)), (1, .ref (N.1 2)), (2, .int x2), (3, .int x3), (4, .int x4), (5, .int x5)]) [0, 1, 2, 3, 4, 5] rfl ?_
    exact T_X3_award_105 C hE hk55 s0 x2 x3 x4 x5 h
  · have h := bq_f q h
    refine aw_aload_n C 0 dX3_award_90 rfl ?_
    refine aw_aload_n C 1 dX3_award_91 rfl ?_
    refine aw_iload C 6 dX3_award_92 rfl ?_
    obtain ⟨⟨v1, s2⟩, cw3, h⟩ := oC_e h
    have h := oL_e (x := s2) rfl (oL_e (x := v1) rfl h)
    refine aw_callVi (n := 2) (As := [.ref (N.1 2), .int t0]) (rest := []) (q0 := 8) C (c_X3_holds l D N s0 s2 t0 v1 cw3) lw_31_13 lw_31_14 lw_31_15 lw_2_17 lw_31_16 rfl rfl (by decide +kernel) ⟨Nat.le_of_ble_eq_true rfl, Nat.le_of_ble_eq_true rfl⟩ rfl rfl rfl rfl rfl (Nat.le_of_ble_eq_true rfl) dX3_award_94 ?_
    refine aw_if_eq (tgt := 105) C dX3_award_97 (by decide) (fun q => ?_) (fun q => ?_)
    · have h := bq_t q h
      refine aw_sub (lv' := [(0, .ref (N.1 8)), (1, .ref (N.1 2)), (2, .int x2), (3, .int x3), (4, .int x4), (5, .int x5)]) [0, 1, 2, 3, 4, 5] rfl ?_
      exact T_X3_award_105 C hE hk55 s2 x2 x3 x4 x5 h
    · have h := bq_f q h
      refine aw_iload_n C 3 dX3_award_100 rfl ?_
      refine aw_iload C 6 dX3_award_101 rfl ?_
      refine aw_ior C dX3_award_103 ?_
      refine aw_topi (fun y4 ey4 => ?_)
      have h := oL_e ey4 h
      refine aw_istore_n (lv' := [(0, .ref (N.1 8)), (1, .ref (N.1 2)), (2, .int x2), (3, .int y4), (4, .int x4), (5, .int x5), (6, .int t0)]) C [1, 2, 3, 0, 4, 5, 6] dX3_award_104 rfl (by decide) rfl ?_
      refine aw_sub (lv' := [(0, .ref (N.1 8)), (1, .ref (N.1 2)), (2, .int x2), (3, .int y4), (4, .int x4), (5, .int x5)]) [0, 1, 2, 3, 4, 5] rfl ?_
      exact T_X3_award_105 C hE hk55 s2 x2 y4 x4 x5 h
def F_X3_award_55_b (k55 : St → Int32 → Int32 → Int32 → Int32 → Option (Int32 × St)) (s0 : St) (x2 : Int32) (x3 : Int32) (x4 : Int32) (x5 : Int32) : Option (Int32 × St) :=
  if x4 ≤ x5 then (
    some (x3, s0))
  else (
    if x2 = 0 then (
      F_X3_award_83 k55 s0 x2 x3 x4 x5 ((1 : Int32) <<< (x5 &&& 31)))
    else (
      oA x5 6 <|
      F_X3_award_83 k55 s0 x2 x3 x4 x5 (s0.2.1 7 (Int32.toNatClampNeg x5))))
set_option maxHeartbeats 4000000 in
set_option maxRecDepth 100000 in
theorem T_X3_award_55_b {r : Int32} {z1 : St} {k55 : St → Int32 → Int32 → Int32 → Int32 → Option (Int32 × St)} (C : Cx p rm_X3_award s m args c D A cX3_award 7 RX3 rm_X3_award N) (hE : En p l e rm_X3_award s m args below meth c Q D A cX3_award .ireturn (wC N z1) [.int r]) (hk55 : ∀ (s0 : St) (x2 : Int32) (x3 : Int32) (x4 : Int32) (x5 : Int32), k55 s0 x2 x3 x4 x5 = some (r, z1) → Aw p l e rm_X3_award s m args below meth c Q D A 7 (wC N s0) 55 [(0, .ref (N.1 8)), (1, .ref (N.1 2)), (2, .int x2), (3, .int x3), (4, .int x4), (5, .int x5)] []) (s0 : St) (x2 : Int32) (x3 : Int32) (x4 : Int32) (x5 : Int32) (h : F_X3_award_55_b k55 s0 x2 x3 x4 x5 = some (r, z1)) : Aw p l e rm_X3_award s m args below meth c Q D A 7 (wC N s0) 55 [(0, .ref (N.1 8)), (1, .ref (N.1 2)), (2, .int x2), (3, .int x3), (4, .int x4), (5, .int x5)] [] := by
  unfold F_X3_award_55_b at h
  refine aw_iload C 5 dX3_award_55 rfl ?_
  refine aw_iload C 4 dX3_award_57 rfl ?_
  refine aw_icmp_ge (tgt := 111) C dX3_award_59 (by decide) (fun q => ?_) (fun q => ?_)
  · have h := bq_t q h
    refine aw_iload_n C 3 dX3_award_111 rfl ?_
    cases h
    exact aw_ret hE dX3_award_112
  · have h := bq_f q h
    refine aw_iload_n C 2 dX3_award_62 rfl ?_
    refine aw_if_ne (tgt := 73) C dX3_award_63 (by decide) (fun q => ?_) (fun q => ?_)
    · have h := bq_f q h
      refine aw_aload_n C 0 dX3_award_73 rfl ?_
      refine cg_ju_land C lw_6_13 dX3_award_74 ?_
      refine cg_ln_districts C lw_31_12 dX3_award_77 ?_
      refine aw_iload C 5 dX3_award_80 rfl ?_
      obtain ⟨q1, h⟩ := oA_e h
      refine ca_iald (k := 7) C (by decide) rfl q1 dX3_award_82 ?_
      refine aw_sub (lv' := [(0, .ref (N.1 8)), (1, .ref (N.1 2)), (2, .int x2), (3, .int x3), (4, .int x4), (5, .int x5)]) [0, 1, 2, 3, 4, 5] rfl ?_
      exact T_X3_award_83 C hE hk55 s0 x2 x3 x4 x5 (s0.2.1 7 (Int32.toNatClampNeg x5)) h
    · have h := bq_t q h
      refine aw_iconst (v := 1) C dX3_award_66 (by decide) ?_
      refine aw_iload C 5 dX3_award_67 rfl ?_
      refine aw_ishl C dX3_award_69 ?_
      refine aw_goto (tgt := 83) C dX3_award_70 (by decide) ?_
      refine aw_sub (lv' := [(0, .ref (N.1 8)), (1, .ref (N.1 2)), (2, .int x2), (3, .int x3), (4, .int x4), (5, .int x5)]) [0, 1, 2, 3, 4, 5] rfl ?_
      exact T_X3_award_83 C hE hk55 s0 x2 x3 x4 x5 ((1 : Int32) <<< (x5 &&& 31)) h
def F_X3_award_55 : Nat → St → Int32 → Int32 → Int32 → Int32 → Option (Int32 × St)
  | 0 => fun _ _ _ _ _ => none
  | n + 1 => F_X3_award_55_b (F_X3_award_55 n)
theorem T_X3_award_55 {r : Int32} {z1 : St} (C : Cx p rm_X3_award s m args c D A cX3_award 7 RX3 rm_X3_award N) (hE : En p l e rm_X3_award s m args below meth c Q D A cX3_award .ireturn (wC N z1) [.int r])  : ∀ (n : Nat) (s0 : St) (x2 : Int32) (x3 : Int32) (x4 : Int32) (x5 : Int32), F_X3_award_55 n s0 x2 x3 x4 x5 = some (r, z1) → Aw p l e rm_X3_award s m args below meth c Q D A 7 (wC N s0) 55 [(0, .ref (N.1 8)), (1, .ref (N.1 2)), (2, .int x2), (3, .int x3), (4, .int x4), (5, .int x5)] [] := by
  intro n
  induction n with
  | zero => intro s0 x2 x3 x4 x5 h; cases h
  | succ n ih => intro s0 x2 x3 x4 x5 h; exact T_X3_award_55_b C hE ih s0 x2 x3 x4 x5 h
def F_X3_award_50 (s0 : St) (x2 : Int32) (x3 : Int32) (t0 : Int32) : Option (Int32 × St) :=
  oL (0 : Int32) fun y1 =>
  F_X3_award_55 100000 s0 x2 x3 t0 y1
set_option maxHeartbeats 4000000 in
set_option maxRecDepth 100000 in
theorem T_X3_award_50 {r : Int32} {z1 : St} (C : Cx p rm_X3_award s m args c D A cX3_award 7 RX3 rm_X3_award N) (hE : En p l e rm_X3_award s m args below meth c Q D A cX3_award .ireturn (wC N z1) [.int r])  (s0 : St) (x2 : Int32) (x3 : Int32) (t0 : Int32) (h : F_X3_award_50 s0 x2 x3 t0 = some (r, z1)) : Aw p l e rm_X3_award s m args below meth c Q D A 7 (wC N s0) 50 [(0, .ref (N.1 8)), (1, .ref (N.1 2)), (2, .int x2), (3, .int x3)] [.int t0] := by
  unfold F_X3_award_50 at h
  refine aw_istore (lv' := [(0, .ref (N.1 8)), (1, .ref (N.1 2)), (2, .int x2), (3, .int x3), (4, .int t0)]) C [1, 2, 3, 4, 0] dX3_award_50 (by decide) rfl ?_
  refine aw_iconst (v := 0) C dX3_award_52 (by decide) ?_
  refine aw_topi (fun y1 ey1 => ?_)
  have h := oL_e ey1 h
  refine aw_istore (lv' := [(0, .ref (N.1 8)), (1, .ref (N.1 2)), (2, .int x2), (3, .int x3), (4, .int t0), (5, .int y1)]) C [1, 2, 3, 4, 5, 0] dX3_award_53 (by decide) rfl ?_
  refine aw_sub (lv' := [(0, .ref (N.1 8)), (1, .ref (N.1 2)), (2, .int x2), (3, .int x3), (4, .int t0), (5, .int y1)]) [0, 1, 2, 3, 4, 5] rfl ?_
  exact T_X3_award_55 C hE 100000 s0 x2 x3 t0 y1 h
def F_X3_award_31 (s0 : St) (t0 : Int32) : Option (Int32 × St) :=
  some (t0, s0)
set_option maxHeartbeats 4000000 in
set_option maxRecDepth 100000 in
theorem T_X3_award_31 {r : Int32} {z1 : St} (C : Cx p rm_X3_award s m args c D A cX3_award 7 RX3 rm_X3_award N) (hE : En p l e rm_X3_award s m args below meth c Q D A cX3_award .ireturn (wC N z1) [.int r])  (s0 : St) (t0 : Int32) (h : F_X3_award_31 s0 t0 = some (r, z1)) : Aw p l e rm_X3_award s m args below meth c Q D A 7 (wC N s0) 31 [] [.int t0] := by
  unfold F_X3_award_31 at h
  cases h
  exact aw_ret hE dX3_award_31
def F_X3_award_0 (s0 : St) (x2 : Int32) : Option (Int32 × St) :=
  if x2 = (2 : Int32) then (
    oC (f_X3_holds s0 (s0.1 22)) fun w4 =>
    oL w4.1 fun v2 => oL w4.2 fun s3 =>
    if v2 = 0 then (
      F_X3_award_31 s3 (0 : Int32))
    else (
      F_X3_award_31 s3 (s3.1 22)))
  else (
    oL (0 : Int32) fun y1 =>
    if x2 = 0 then (
      F_X3_award_50 s0 x2 y1 (s0.1 21))
    else (
      F_X3_award_50 s0 x2 y1 (6 : Int32)))
set_option maxHeartbeats 4000000 in
set_option maxRecDepth 100000 in
theorem T_X3_award_0 {r : Int32} {z1 : St} (C : Cx p rm_X3_award s m args c D A cX3_award 7 RX3 rm_X3_award N) (hE : En p l e rm_X3_award s m args below meth c Q D A cX3_award .ireturn (wC N z1) [.int r])  (s0 : St) (x2 : Int32) (h : F_X3_award_0 s0 x2 = some (r, z1)) : Aw p l e rm_X3_award s m args below meth c Q D A 7 (wC N s0) 0 [(0, .ref (N.1 8)), (1, .ref (N.1 2)), (2, .int x2)] [] := by
  unfold F_X3_award_0 at h
  refine aw_iload_n C 2 dX3_award_0 rfl ?_
  refine aw_iconst (v := 2) C dX3_award_1 (by decide) ?_
  refine aw_icmp_ne (tgt := 32) C dX3_award_2 (by decide) (fun q => ?_) (fun q => ?_)
  · have h := bq_f q h
    refine aw_iconst (v := 0) C dX3_award_32 (by decide) ?_
    refine aw_topi (fun y1 ey1 => ?_)
    have h := oL_e ey1 h
    refine aw_istore_n (lv' := [(0, .ref (N.1 8)), (1, .ref (N.1 2)), (2, .int x2), (3, .int y1)]) C [1, 2, 3, 0] dX3_award_33 rfl (by decide) rfl ?_
    refine aw_iload_n C 2 dX3_award_34 rfl ?_
    refine aw_if_ne (tgt := 48) C dX3_award_35 (by decide) (fun q => ?_) (fun q => ?_)
    · have h := bq_f q h
      refine aw_bipush (v := 6) C dX3_award_48 (by decide) ?_
      refine aw_sub (lv' := [(0, .ref (N.1 8)), (1, .ref (N.1 2)), (2, .int x2), (3, .int y1)]) [0, 1, 2, 3] rfl ?_
      exact T_X3_award_50 C hE s0 x2 y1 (6 : Int32) h
    · have h := bq_t q h
      refine aw_aload_n C 0 dX3_award_38 rfl ?_
      refine cg_ju_land C lw_6_13 dX3_award_39 ?_
      refine cg_ln_size C lw_31_11 dX3_award_42 ?_
      refine aw_goto (tgt := 50) C dX3_award_45 (by decide) ?_
      refine aw_sub (lv' := [(0, .ref (N.1 8)), (1, .ref (N.1 2)), (2, .int x2), (3, .int y1)]) [0, 1, 2, 3] rfl ?_
      exact T_X3_award_50 C hE s0 x2 y1 (s0.1 21) h
  · have h := bq_t q h
    refine aw_aload_n C 0 dX3_award_5 rfl ?_
    refine aw_aload_n C 1 dX3_award_6 rfl ?_
    refine aw_aload_n C 0 dX3_award_7 rfl ?_
    refine cg_ju_land C lw_6_13 dX3_award_8 ?_
    refine cg_ln_all C lw_31_10 dX3_award_11 ?_
    obtain ⟨⟨v2, s3⟩, cw4, h⟩ := oC_e h
    have h := oL_e (x := s3) rfl (oL_e (x := v2) rfl h)
    refine aw_callVi (n := 2) (As := [.ref (N.1 2), .int (s0.1 22)]) (rest := []) (q0 := 8) C (c_X3_holds l D N s0 s3 (s0.1 22) v2 cw4) lw_31_13 lw_31_14 lw_31_15 lw_2_17 lw_31_16 rfl rfl (by decide +kernel) ⟨Nat.le_of_ble_eq_true rfl, Nat.le_of_ble_eq_true rfl⟩ rfl rfl rfl rfl rfl (Nat.le_of_ble_eq_true rfl) dX3_award_14 ?_
    refine aw_if_eq (tgt := 30) C dX3_award_17 (by decide) (fun q => ?_) (fun q => ?_)
    · have h := bq_t q h
      refine aw_iconst (v := 0) C dX3_award_30 (by decide) ?_
      refine aw_sub (lv' := []) [] rfl ?_
      exact T_X3_award_31 C hE s3 (0 : Int32) h
    · have h := bq_f q h
      refine aw_aload_n C 0 dX3_award_20 rfl ?_
      refine cg_ju_land C lw_6_13 dX3_award_21 ?_
      refine cg_ln_all C lw_31_10 dX3_award_24 ?_
      refine aw_goto (tgt := 31) C dX3_award_27 (by decide) ?_
      refine aw_sub (lv' := []) [] rfl ?_
      exact T_X3_award_31 C hE s3 (s3.1 22) h
def f_X3_award (s0 : St) (x2 : Int32) : Option (Int32 × St) := F_X3_award_0 s0 x2
theorem c_X3_award (l : Launch) (D : va_G) (N : Nm) (s0 z1 : St) (x2 : Int32) (r : Int32) (h : f_X3_award s0 x2 = some (r, z1)) : Meti l yX3_award (tsU yX3_award cX3_award 7 (some .int)) rm_X3_award D N [.ref (N.1 8), .ref (N.1 2), .int x2] (wC N s0) r (wC N z1) :=
  met_i (cc := cX3_award) (nL := 7) (own := RX3) (by decide) rfl (Nat.le_of_ble_eq_true rfl) (fun p e s m args below meth c Q A C hE => aw_sub [0, 1, 2] rfl (T_X3_award_0 C hE s0 x2 h))
end WK
