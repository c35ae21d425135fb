section WK
variable {p : Program} {l : Launch} {e : Env} {s : State} {m : MethodId} {args : Array Value} {below : List Frame} {meth : Method} {c : Code} {Q : State → Prop} {D : va_G} {A : Nat → Prop} {N : Nm}
/-! AwardLine$Notes.has(I)Z -/
def rm_X5_has : Room := { frames := 0, cells := 0, slots := 0, locals := 0 }
def F_X5_has_17 (s0 : St) (t0 : Int32) : Option (Int32 × St) :=
  some (t0, s0)
set_option maxHeartbeats 4000000 in
set_option maxRecDepth 100000 in
theorem T_X5_has_17 {r : Int32} {z1 : St} (C : Cx p rm_X5_has s m args c D A cX5_has 2 RX5 rm_X5_has N) (hE : En p l e rm_X5_has s m args below meth c Q D A cX5_has .ireturn (wC N z1) [.int r])  (s0 : St) (t0 : Int32) (h : F_X5_has_17 s0 t0 = some (r, z1)) : Aw p l e rm_X5_has s m args below meth c Q D A 2 (wC N s0) 17 [] [.int t0] := by
  unfold F_X5_has_17 at h
  cases h
  exact aw_ret hE dX5_has_17
def F_X5_has_16 (s0 : St) : Option (Int32 × St) :=
  F_X5_has_17 s0 (0 : Int32)
set_option maxHeartbeats 4000000 in
set_option maxRecDepth 100000 in
theorem T_X5_has_16 {r : Int32} {z1 : St} (C : Cx p rm_X5_has s m args c D A cX5_has 2 RX5 rm_X5_has N) (hE : En p l e rm_X5_has s m args below meth c Q D A cX5_has .ireturn (wC N z1) [.int r])  (s0 : St) (h : F_X5_has_16 s0 = some (r, z1)) : Aw p l e rm_X5_has s m args below meth c Q D A 2 (wC N s0) 16 [] [] := by
  unfold F_X5_has_16 at h
  refine aw_iconst (v := 0) C dX5_has_16 (by decide) ?_
  refine aw_sub (lv' := []) [] rfl ?_
  exact T_X5_has_17 C hE s0 (0 : Int32) h
def F_X5_has_0 (s0 : St) (x1 : Int32) : Option (Int32 × St) :=
  if x1 < 0 then (
    F_X5_has_16 s0)
  else (
    if (s0.1 29) ≤ x1 then (
      F_X5_has_16 s0)
    else (
      F_X5_has_17 s0 (1 : Int32)))
set_option maxHeartbeats 4000000 in
set_option maxRecDepth 100000 in
theorem T_X5_has_0 {r : Int32} {z1 : St} (C : Cx p rm_X5_has s m args c D A cX5_has 2 RX5 rm_X5_has N) (hE : En p l e rm_X5_has s m args below meth c Q D A cX5_has .ireturn (wC N z1) [.int r])  (s0 : St) (x1 : Int32) (h : F_X5_has_0 s0 x1 = some (r, z1)) : Aw p l e rm_X5_has s m args below meth c Q D A 2 (wC N s0) 0 [(0, .ref (N.1 5)), (1, .int x1)] [] := by
  unfold F_X5_has_0 at h
  refine aw_iload_n C 1 dX5_has_0 rfl ?_
  refine aw_if_lt (tgt := 16) C dX5_has_1 (by decide) (fun q => ?_) (fun q => ?_)
  · have h := bq_t q h
    refine aw_sub (lv' := []) [] rfl ?_
    exact T_X5_has_16 C hE s0 h
  · have h := bq_f q h
    refine aw_iload_n C 1 dX5_has_4 rfl ?_
    refine aw_aload_n C 0 dX5_has_5 rfl ?_
    refine cg_nt_held C lw_25_2 dX5_has_6 ?_
    refine aw_icmp_ge (tgt := 16) C dX5_has_9 (by decide) (fun q => ?_) (fun q => ?_)
    · have h := bq_t q h
      refine aw_sub (lv' := []) [] rfl ?_
      exact T_X5_has_16 C hE s0 h
    · have h := bq_f q h
      refine aw_iconst (v := 1) C dX5_has_12 (by decide) ?_
      refine aw_goto (tgt := 17) C dX5_has_13 (by decide) ?_
      refine aw_sub (lv' := []) [] rfl ?_
      exact T_X5_has_17 C hE s0 (1 : Int32) h
def f_X5_has (s0 : St) (x1 : Int32) : Option (Int32 × St) := oC (F_X5_has_0 s0 x1) fun w => oZ w.1 (some w)
theorem c_X5_has (l : Launch) (D : va_G) (N : Nm) (s0 z1 : St) (x1 : Int32) (r : Int32) (h : f_X5_has s0 x1 = some (r, z1)) : Meti l yX5_has (tsU yX5_has cX5_has 2 (some .boolean)) rm_X5_has D N [.ref (N.1 5), .int x1] (wC N s0) r (wC N z1) := by
  obtain ⟨w, h1, h2⟩ := oC_e h
  obtain ⟨hz, h2⟩ := oZ_e h2
  cases h2
  exact met_z (cc := cX5_has) (nL := 2) (own := RX5) (by decide) rfl (Nat.le_of_ble_eq_true rfl) (zN hz) (fun p e s m args below meth c Q A C hE => aw_sub [0, 1] rfl (T_X5_has_0 C hE s0 x1 h1))
/-! AwardLine$Notes.add(IIIIII)I -/
def rm_X5_add : Room := { frames := 0, cells := 0, slots := 0, locals := 0 }
def F_X5_add_0 (s0 : St) (x1 : Int32) (x2 : Int32) (x3 : Int32) (x4 : Int32) (x5 : Int32) (x6 : Int32) : Option (Int32 × St) :=
  if (s0.1 29) < (80 : Int32) then (
    oA (s0.1 29) 80 <|
    oL (sA s0 11 (upd (s0.2.1 11) (Int32.toNatClampNeg (s0.1 29)) x1)) fun s2 =>
    oA (s2.1 29) 80 <|
    oL (sA s2 12 (upd (s2.2.1 12) (Int32.toNatClampNeg (s2.1 29)) x2)) fun s4 =>
    oA (s4.1 29) 80 <|
    oL (sA s4 13 (upd (s4.2.1 13) (Int32.toNatClampNeg (s4.1 29)) x3)) fun s6 =>
    oA (s6.1 29) 80 <|
    oL (sA s6 14 (upd (s6.2.1 14) (Int32.toNatClampNeg (s6.1 29)) x4)) fun s8 =>
    oA (s8.1 29) 80 <|
    oL (sA s8 15 (upd (s8.2.1 15) (Int32.toNatClampNeg (s8.1 29)) x5)) fun s10 =>
    oA (s10.1 29) 80 <|
    oL (sA s10 16 (upd (s10.2.1 16) (Int32.toNatClampNeg (s10.1 29)) x6)) fun s12 =>
    oL (sI s12 29 ((s12.1 29) + (1 : Int32))) fun s13 =>
    some ((s13.1 29) - (1 : Int32), s13))
  else (
    some ((-1 : Int32), s0))
set_option maxHeartbeats 4000000 in
set_option maxRecDepth 100000 in
theorem T_X5_add_0 {r : Int32} {z1 : St} (C : Cx p rm_X5_add s m args c D A cX5_add 7 RX5 rm_X5_add N) (hE : En p l e rm_X5_add s m args below meth c Q D A cX5_add .ireturn (wC N z1) [.int r])  (s0 : St) (x1 : Int32) (x2 : Int32) (x3 : Int32) (x4 : Int32) (x5 : Int32) (x6 : Int32) (h : F_X5_add_0 s0 x1 x2 x3 x4 x5 x6 = some (r, z1)) : Aw p l e rm_X5_add s m args below meth c Q D A 7 (wC N s0) 0 [(0, .ref (N.1 5)), (1, .int x1), (2, .int x2), (3, .int x3), (4, .int x4), (5, .int x5), (6, .int x6)] [] := by
  unfold F_X5_add_0 at h
  refine aw_aload_n C 0 dX5_add_0 rfl ?_
  refine cg_nt_held C lw_25_2 dX5_add_1 ?_
  refine aw_bipush (v := 80) C dX5_add_4 (by decide) ?_
  refine aw_icmp_lt (tgt := 11) C dX5_add_6 (by decide) (fun q => ?_) (fun q => ?_)
  · have h := bq_t q h
    refine aw_aload_n C 0 dX5_add_11 rfl ?_
    refine cg_nt_kind C lw_4_11 dX5_add_12 ?_
    refine aw_aload_n C 0 dX5_add_15 rfl ?_
    refine cg_nt_held C lw_25_2 dX5_add_16 ?_
    refine aw_iload_n C 1 dX5_add_19 rfl ?_
    obtain ⟨q1, h⟩ := oA_e h
    refine ca_iast (k := 11) C (by decide) rfl q1 dX5_add_20 ?_
    refine ca_name (fun s2 es2 => ?_)
    have h := oL_e es2 h
    refine aw_aload_n C 0 dX5_add_21 rfl ?_
    refine cg_nt_subject C lw_4_12 dX5_add_22 ?_
    refine aw_aload_n C 0 dX5_add_25 rfl ?_
    refine cg_nt_held C lw_25_2 dX5_add_26 ?_
    refine aw_iload_n C 2 dX5_add_29 rfl ?_
    obtain ⟨q3, h⟩ := oA_e h
    refine ca_iast (k := 12) C (by decide) rfl q3 dX5_add_30 ?_
    refine ca_name (fun s4 es4 => ?_)
    have h := oL_e es4 h
    refine aw_aload_n C 0 dX5_add_31 rfl ?_
    refine cg_nt_object C lw_4_13 dX5_add_32 ?_
    refine aw_aload_n C 0 dX5_add_35 rfl ?_
    refine cg_nt_held C lw_25_2 dX5_add_36 ?_
    refine aw_iload_n C 3 dX5_add_39 rfl ?_
    obtain ⟨q5, h⟩ := oA_e h
    refine ca_iast (k := 13) C (by decide) rfl q5 dX5_add_40 ?_
    refine ca_name (fun s6 es6 => ?_)
    have h := oL_e es6 h
    refine aw_aload_n C 0 dX5_add_41 rfl ?_
    refine cg_nt_third C lw_4_14 dX5_add_42 ?_
    refine aw_aload_n C 0 dX5_add_45 rfl ?_
    refine cg_nt_held C lw_25_2 dX5_add_46 ?_
    refine aw_iload C 4 dX5_add_49 rfl ?_
    obtain ⟨q7, h⟩ := oA_e h
    refine ca_iast (k := 14) C (by decide) rfl q7 dX5_add_51 ?_
    refine ca_name (fun s8 es8 => ?_)
    have h := oL_e es8 h
    refine aw_aload_n C 0 dX5_add_52 rfl ?_
    refine cg_nt_fourth C lw_4_15 dX5_add_53 ?_
    refine aw_aload_n C 0 dX5_add_56 rfl ?_
    refine cg_nt_held C lw_25_2 dX5_add_57 ?_
    refine aw_iload C 5 dX5_add_60 rfl ?_
    obtain ⟨q9, h⟩ := oA_e h
    refine ca_iast (k := 15) C (by decide) rfl q9 dX5_add_62 ?_
    refine ca_name (fun s10 es10 => ?_)
    have h := oL_e es10 h
    refine aw_aload_n C 0 dX5_add_63 rfl ?_
    refine cg_nt_told C lw_4_16 dX5_add_64 ?_
    refine aw_aload_n C 0 dX5_add_67 rfl ?_
    refine cg_nt_held C lw_25_2 dX5_add_68 ?_
    refine aw_iload C 6 dX5_add_71 rfl ?_
    obtain ⟨q11, h⟩ := oA_e h
    refine ca_iast (k := 16) C (by decide) rfl q11 dX5_add_73 ?_
    refine ca_name (fun s12 es12 => ?_)
    have h := oL_e es12 h
    refine aw_aload_n C 0 dX5_add_74 rfl ?_
    refine aw_dup C dX5_add_75 rfl ?_
    refine cg_nt_held C lw_25_2 dX5_add_76 ?_
    refine aw_iconst (v := 1) C dX5_add_79 (by decide) ?_
    refine aw_iadd C dX5_add_80 ?_
    refine cp_nt_held C lw_25_2 dX5_add_81 ?_
    refine ca_name (fun s13 es13 => ?_)
    have h := oL_e es13 h
    refine aw_aload_n C 0 dX5_add_84 rfl ?_
    refine cg_nt_held C lw_25_2 dX5_add_85 ?_
    refine aw_iconst (v := 1) C dX5_add_88 (by decide) ?_
    refine aw_isub C dX5_add_89 ?_
    cases h
    exact aw_ret hE dX5_add_90
  · have h := bq_f q h
    refine aw_iconst (v := -1) C dX5_add_9 (by decide) ?_
    cases h
    exact aw_ret hE dX5_add_10
def f_X5_add (s0 : St) (x1 : Int32) (x2 : Int32) (x3 : Int32) (x4 : Int32) (x5 : Int32) (x6 : Int32) : Option (Int32 × St) := F_X5_add_0 s0 x1 x2 x3 x4 x5 x6
theorem c_X5_add (l : Launch) (D : va_G) (N : Nm) (s0 z1 : St) (x1 : Int32) (x2 : Int32) (x3 : Int32) (x4 : Int32) (x5 : Int32) (x6 : Int32) (r : Int32) (h : f_X5_add s0 x1 x2 x3 x4 x5 x6 = some (r, z1)) : Meti l yX5_add (tsU yX5_add cX5_add 7 (some .int)) rm_X5_add D N [.ref (N.1 5), .int x1, .int x2, .int x3, .int x4, .int x5, .int x6] (wC N s0) r (wC N z1) :=
  met_i (cc := cX5_add) (nL := 7) (own := RX5) (by decide) rfl (Nat.le_of_ble_eq_true rfl) (fun p e s m args below meth c Q A C hE => aw_sub [0, 1, 2, 3, 4, 5, 6] rfl (T_X5_add_0 C hE s0 x1 x2 x3 x4 x5 x6 h))
/-! AwardLine$Notes.isKnown(II)Z -/
def rm_X5_isKnown : Room := { frames := 0, cells := 0, slots := 0, locals := 0 }
def F_X5_isKnown_24 (s0 : St) (t0 : Int32) : Option (Int32 × St) :=
  some (t0, s0)
set_option maxHeartbeats 4000000 in
set_option maxRecDepth 100000 in
theorem T_X5_isKnown_24 {r : Int32} {z1 : St} (C : Cx p rm_X5_isKnown s m args c D A cX5_isKnown 3 RX5 rm_X5_isKnown N) (hE : En p l e rm_X5_isKnown s m args below meth c Q D A cX5_isKnown .ireturn (wC N z1) [.int r])  (s0 : St) (t0 : Int32) (h : F_X5_isKnown_24 s0 t0 = some (r, z1)) : Aw p l e rm_X5_isKnown s m args below meth c Q D A 3 (wC N s0) 24 [] [.int t0] := by
  unfold F_X5_isKnown_24 at h
  cases h
  exact aw_ret hE dX5_isKnown_24
def F_X5_isKnown_23 (s0 : St) : Option (Int32 × St) :=
  F_X5_isKnown_24 s0 (0 : Int32)
set_option maxHeartbeats 4000000 in
set_option maxRecDepth 100000 in
theorem T_X5_isKnown_23 {r : Int32} {z1 : St} (C : Cx p rm_X5_isKnown s m args c D A cX5_isKnown 3 RX5 rm_X5_isKnown N) (hE : En p l e rm_X5_isKnown s m args below meth c Q D A cX5_isKnown .ireturn (wC N z1) [.int r])  (s0 : St) (h : F_X5_isKnown_23 s0 = some (r, z1)) : Aw p l e rm_X5_isKnown s m args below meth c Q D A 3 (wC N s0) 23 [] [] := by
  unfold F_X5_isKnown_23 at h
  refine aw_iconst (v := 0) C dX5_isKnown_23 (by decide) ?_
  refine aw_sub (lv' := []) [] rfl ?_
  exact T_X5_isKnown_24 C hE s0 (0 : Int32) h
def F_X5_isKnown_0 (s0 : St) (x1 : Int32) (x2 : Int32) : Option (Int32 × St) :=
  oA x1 80 <|
  if (s0.2.1 17 (Int32.toNatClampNeg x1)) = 0 then (
    F_X5_isKnown_23 s0)
  else (
    oA x1 80 <|
    if (s0.2.1 11 (Int32.toNatClampNeg x1)) = x2 then (
      F_X5_isKnown_24 s0 (1 : Int32))
    else (
      F_X5_isKnown_23 s0))
set_option maxHeartbeats 4000000 in
set_option maxRecDepth 100000 in
theorem T_X5_isKnown_0 {r : Int32} {z1 : St} (C : Cx p rm_X5_isKnown s m args c D A cX5_isKnown 3 RX5 rm_X5_isKnown N) (hE : En p l e rm_X5_isKnown s m args below meth c Q D A cX5_isKnown .ireturn (wC N z1) [.int r])  (s0 : St) (x1 : Int32) (x2 : Int32) (h : F_X5_isKnown_0 s0 x1 x2 = some (r, z1)) : Aw p l e rm_X5_isKnown s m args below meth c Q D A 3 (wC N s0) 0 [(0, .ref (N.1 5)), (1, .int x1), (2, .int x2)] [] := by
  unfold F_X5_isKnown_0 at h
  refine aw_aload_n C 0 dX5_isKnown_0 rfl ?_
  refine cg_nt_known C lw_4_18 dX5_isKnown_1 ?_
  refine aw_iload_n C 1 dX5_isKnown_4 rfl ?_
  obtain ⟨q1, h⟩ := oA_e h
  refine ca_zald (k := 17) C (by decide) rfl q1 dX5_isKnown_5 ?_
  refine aw_if_eq (tgt := 23) C dX5_isKnown_6 (by decide) (fun q => ?_) (fun q => ?_)
  · have h := bq_t q h
    refine aw_sub (lv' := []) [] rfl ?_
    exact T_X5_isKnown_23 C hE s0 h
  · have h := bq_f q h
    refine aw_aload_n C 0 dX5_isKnown_9 rfl ?_
    refine cg_nt_kind C lw_4_11 dX5_isKnown_10 ?_
    refine aw_iload_n C 1 dX5_isKnown_13 rfl ?_
    obtain ⟨q2, h⟩ := oA_e h
    refine ca_iald (k := 11) C (by decide) rfl q2 dX5_isKnown_14 ?_
    refine aw_iload_n C 2 dX5_isKnown_15 rfl ?_
    refine aw_icmp_ne (tgt := 23) C dX5_isKnown_16 (by decide) (fun q => ?_) (fun q => ?_)
    · have h := bq_f q h
      refine aw_sub (lv' := []) [] rfl ?_
      exact T_X5_isKnown_23 C hE s0 h
    · have h := bq_t q h
      refine aw_iconst (v := 1) C dX5_isKnown_19 (by decide) ?_
      refine aw_goto (tgt := 24) C dX5_isKnown_20 (by decide) ?_
      refine aw_sub (lv' := []) [] rfl ?_
      exact T_X5_isKnown_24 C hE s0 (1 : Int32) h
def f_X5_isKnown (s0 : St) (x1 : Int32) (x2 : Int32) : Option (Int32 × St) := oC (F_X5_isKnown_0 s0 x1 x2) fun w => oZ w.1 (some w)
theorem c_X5_isKnown (l : Launch) (D : va_G) (N : Nm) (s0 z1 : St) (x1 : Int32) (x2 : Int32) (r : Int32) (h : f_X5_isKnown s0 x1 x2 = some (r, z1)) : Meti l yX5_isKnown (tsU yX5_isKnown cX5_isKnown 3 (some .boolean)) rm_X5_isKnown D N [.ref (N.1 5), .int x1, .int x2] (wC N s0) r (wC N z1) := by
  obtain ⟨w, h1, h2⟩ := oC_e h
  obtain ⟨hz, h2⟩ := oZ_e h2
  cases h2
  exact met_z (cc := cX5_isKnown) (nL := 3) (own := RX5) (by decide) rfl (Nat.le_of_ble_eq_true rfl) (zN hz) (fun p e s m args below meth c Q A C hE => aw_sub [0, 1, 2] rfl (T_X5_isKnown_0 C hE s0 x1 x2 h1))
/-! AwardLine$Notes.sift(I)V -/
def rm_X5_sift : Room := { frames := 1, cells := 0, slots := 0, locals := 22 }
def F_X5_sift_82 (k44 : St → Int32 → Option (St)) (s0 : St) (x2 : Int32) : Option (St) :=
  oL (x2 + (-1 : Int32)) fun y1 =>
  k44 s0 y1
set_option maxHeartbeats 4000000 in
set_option maxRecDepth 100000 in
theorem T_X5_sift_82 {z1 : St} {k44 : St → Int32 → Option (St)} (C : Cx p rm_X5_sift s m args c D A cX5_sift 3 RX5 rm_X5_sift N) (hE : En p l e rm_X5_sift s m args below meth c Q D A cX5_sift .return_ (wC N z1) []) (hk44 : ∀ (s0 : St) (x2 : Int32), k44 s0 x2 = some z1 → Aw p l e rm_X5_sift s m args below meth c Q D A 3 (wC N s0) 44 [(0, .ref (N.1 5)), (2, .int x2)] []) (s0 : St) (x2 : Int32) (h : F_X5_sift_82 k44 s0 x2 = some z1) : Aw p l e rm_X5_sift s m args below meth c Q D A 3 (wC N s0) 82 [(0, .ref (N.1 5)), (2, .int x2)] [] := by
  unfold F_X5_sift_82 at h
  obtain ⟨y1, ey1⟩ : ∃ q : Int32, q = x2 + (-1 : Int32) := ⟨_, rfl⟩
  have h := oL_e ey1 h
  refine aw_iinc (v := y1) (k := 1) (lv' := [(0, .ref (N.1 5)), (2, .int y1)]) C [1, 0] dX5_sift_82 rfl (by rw [ey1]; rfl) (by decide) rfl ?_
  refine aw_goto (tgt := 44) C dX5_sift_85 (by decide) ?_
  refine aw_sub (lv' := [(0, .ref (N.1 5)), (2, .int y1)]) [0, 1] rfl ?_
  exact hk44 s0 y1 h
def F_X5_sift_44_b (k44 : St → Int32 → Option (St)) (s0 : St) (x2 : Int32) : Option (St) :=
  if x2 < 0 then (
    some s0)
  else (
    oC (f_X5_isKnown s0 x2 (4 : Int32)) fun w3 =>
    oL w3.1 fun v1 => oL w3.2 fun s2 =>
    if v1 = 0 then (
      F_X5_sift_82 k44 s2 x2)
    else (
      oA x2 80 <|
      oC (f_X5_has s2 (s2.2.1 12 (Int32.toNatClampNeg x2))) fun w7 =>
      oL w7.1 fun v5 => oL w7.2 fun s6 =>
      if v5 = 0 then (
        F_X5_sift_82 k44 s6 x2)
      else (
        oA x2 80 <|
        oA (s6.2.1 12 (Int32.toNatClampNeg x2)) 80 <|
        oL (sA s6 17 (upd (s6.2.1 17) (Int32.toNatClampNeg (s6.2.1 12 (Int32.toNatClampNeg x2))) (vp_nar .boolean (0 : Int32)))) fun s10 =>
        F_X5_sift_82 k44 s10 x2)))
set_option maxHeartbeats 4000000 in
set_option maxRecDepth 100000 in
theorem T_X5_sift_44_b {z1 : St} {k44 : St → Int32 → Option (St)} (C : Cx p rm_X5_sift s m args c D A cX5_sift 3 RX5 rm_X5_sift N) (hE : En p l e rm_X5_sift s m args below meth c Q D A cX5_sift .return_ (wC N z1) []) (hk44 : ∀ (s0 : St) (x2 : Int32), k44 s0 x2 = some z1 → Aw p l e rm_X5_sift s m args below meth c Q D A 3 (wC N s0) 44 [(0, .ref (N.1 5)), (2, .int x2)] []) (s0 : St) (x2 : Int32) (h : F_X5_sift_44_b k44 s0 x2 = some z1) : Aw p l e rm_X5_sift s m args below meth c Q D A 3 (wC N s0) 44 [(0, .ref (N.1 5)), (2, .int x2)] [] := by
  unfold F_X5_sift_44_b at h
  refine aw_iload_n C 1 dX5_sift_44 rfl ?_
  refine aw_if_lt (tgt := 88) C dX5_sift_45 (by decide) (fun q => ?_) (fun q => ?_)
  · have h := bq_t q h
    cases h
    exact aw_ret hE dX5_sift_88
  · have h := bq_f q h
    refine aw_aload_n C 0 dX5_sift_48 rfl ?_
    refine aw_iload_n C 1 dX5_sift_49 rfl ?_
    refine aw_iconst (v := 4) C dX5_sift_50 (by decide) ?_
    obtain ⟨⟨v1, s2⟩, cw3, h⟩ := oC_e h
    have h := oL_e (x := s2) rfl (oL_e (x := v1) rfl h)
    refine aw_callVi (n := 2) (As := [.int x2, .int (4 : Int32)]) (rest := []) (q0 := 5) C (c_X5_isKnown l D N s0 s2 x2 (4 : Int32) v1 cw3) lw_28_0 lw_28_1 lw_28_2 lw_1_18 lw_28_3 rfl rfl (by decide +kernel) ⟨Nat.le_of_ble_eq_true rfl, Nat.le_of_ble_eq_true rfl⟩ rfl rfl rfl rfl rfl (Nat.le_of_ble_eq_true rfl) dX5_sift_51 ?_
    refine aw_if_eq (tgt := 82) C dX5_sift_54 (by decide) (fun q => ?_) (fun q => ?_)
    · have h := bq_t q h
      refine aw_sub (lv' := [(0, .ref (N.1 5)), (2, .int x2)]) [0, 1] rfl ?_
      exact T_X5_sift_82 C hE hk44 s2 x2 h
    · have h := bq_f q h
      refine aw_aload_n C 0 dX5_sift_57 rfl ?_
      refine aw_aload_n C 0 dX5_sift_58 rfl ?_
      refine cg_nt_subject C lw_4_12 dX5_sift_59 ?_
      refine aw_iload_n C 1 dX5_sift_62 rfl ?_
      obtain ⟨q4, h⟩ := oA_e h
      refine ca_iald (k := 12) C (by decide) rfl q4 dX5_sift_63 ?_
      obtain ⟨⟨v5, s6⟩, cw7, h⟩ := oC_e h
      have h := oL_e (x := s6) rfl (oL_e (x := v5) rfl h)
      refine aw_callVi (n := 1) (As := [.int (s2.2.1 12 (Int32.toNatClampNeg x2))]) (rest := []) (q0 := 5) C (c_X5_has l D N s2 s6 (s2.2.1 12 (Int32.toNatClampNeg x2)) v5 cw7) lw_28_4 lw_26_16 lw_26_17 lw_1_18 lw_26_18 rfl rfl (by decide +kernel) ⟨Nat.le_of_ble_eq_true rfl, Nat.le_of_ble_eq_true rfl⟩ rfl rfl rfl rfl rfl (Nat.le_of_ble_eq_true rfl) dX5_sift_64 ?_
      refine aw_if_eq (tgt := 82) C dX5_sift_67 (by decide) (fun q => ?_) (fun q => ?_)
      · have h := bq_t q h
        refine aw_sub (lv' := [(0, .ref (N.1 5)), (2, .int x2)]) [0, 1] rfl ?_
        exact T_X5_sift_82 C hE hk44 s6 x2 h
      · have h := bq_f q h
        refine aw_aload_n C 0 dX5_sift_70 rfl ?_
        refine cg_nt_known C lw_4_18 dX5_sift_71 ?_
        refine aw_aload_n C 0 dX5_sift_74 rfl ?_
        refine cg_nt_subject C lw_4_12 dX5_sift_75 ?_
        refine aw_iload_n C 1 dX5_sift_78 rfl ?_
        obtain ⟨q8, h⟩ := oA_e h
        refine ca_iald (k := 12) C (by decide) rfl q8 dX5_sift_79 ?_
        refine aw_iconst (v := 0) C dX5_sift_80 (by decide) ?_
        obtain ⟨q9, h⟩ := oA_e h
        refine ca_zast (k := 17) C (by decide) rfl q9 dX5_sift_81 ?_
        refine ca_name (fun s10 es10 => ?_)
        have h := oL_e es10 h
        refine aw_sub (lv' := [(0, .ref (N.1 5)), (2, .int x2)]) [0, 1] rfl ?_
        exact T_X5_sift_82 C hE hk44 s10 x2 h
def F_X5_sift_44 : Nat → St → Int32 → Option (St)
  | 0 => fun _ _ => none
  | n + 1 => F_X5_sift_44_b (F_X5_sift_44 n)
theorem T_X5_sift_44 {z1 : St} (C : Cx p rm_X5_sift s m args c D A cX5_sift 3 RX5 rm_X5_sift N) (hE : En p l e rm_X5_sift s m args below meth c Q D A cX5_sift .return_ (wC N z1) [])  : ∀ (n : Nat) (s0 : St) (x2 : Int32), F_X5_sift_44 n s0 x2 = some z1 → Aw p l e rm_X5_sift s m args below meth c Q D A 3 (wC N s0) 44 [(0, .ref (N.1 5)), (2, .int x2)] [] := by
  intro n
  induction n with
  | zero => intro s0 x2 h; cases h
  | succ n ih => intro s0 x2 h; exact T_X5_sift_44_b C hE ih s0 x2 h
def F_X5_sift_30 (k2 : St → Int32 → Int32 → Option (St)) (s0 : St) (x1 : Int32) (x2 : Int32) (t0 : Int32) (t1 : Int32) : Option (St) :=
  oA t1 80 <|
  oL (sA s0 17 (upd (s0.2.1 17) (Int32.toNatClampNeg t1) (vp_nar .boolean t0))) fun s2 =>
  oL (x2 + (1 : Int32)) fun y3 =>
  k2 s2 x1 y3
set_option maxHeartbeats 4000000 in
set_option maxRecDepth 100000 in
theorem T_X5_sift_30 {z1 : St} {k2 : St → Int32 → Int32 → Option (St)} (C : Cx p rm_X5_sift s m args c D A cX5_sift 3 RX5 rm_X5_sift N) (hE : En p l e rm_X5_sift s m args below meth c Q D A cX5_sift .return_ (wC N z1) []) (hk2 : ∀ (s0 : St) (x1 : Int32) (x2 : Int32), k2 s0 x1 x2 = some z1 → Aw p l e rm_X5_sift s m args below meth c Q D A 3 (wC N s0) 2 [(0, .ref (N.1 5)), (1, .int x1), (2, .int x2)] []) (s0 : St) (x1 : Int32) (x2 : Int32) (t0 : Int32) (t1 : Int32) (h : F_X5_sift_30 k2 s0 x1 x2 t0 t1 = some z1) : Aw p l e rm_X5_sift s m args below meth c Q D A 3 (wC N s0) 30 [(0, .ref (N.1 5)), (1, .int x1), (2, .int x2)] [.int t0, .int t1, .ref (N.2.1 17)] := by
  unfold F_X5_sift_30 at h
  obtain ⟨q1, h⟩ := oA_e h
  refine ca_zast (k := 17) C (by decide) rfl q1 dX5_sift_30 ?_
  refine ca_name (fun s2 es2 => ?_)
  have h := oL_e es2 h
  obtain ⟨y3, ey3⟩ : ∃ q : Int32, q = x2 + (1 : Int32) := ⟨_, rfl⟩
  have h := oL_e ey3 h
  refine aw_iinc (v := y3) (k := 2) (lv' := [(0, .ref (N.1 5)), (1, .int x1), (2, .int y3)]) C [1, 2, 0] dX5_sift_31 rfl (by rw [ey3]; rfl) (by decide) rfl ?_
  refine aw_goto (tgt := 2) C dX5_sift_34 (by decide) ?_
  refine aw_sub (lv' := [(0, .ref (N.1 5)), (1, .int x1), (2, .int y3)]) [0, 1, 2] rfl ?_
  exact hk2 s2 x1 y3 h
def F_X5_sift_2_b (k2 : St → Int32 → Int32 → Option (St)) (s0 : St) (x1 : Int32) (x2 : Int32) : Option (St) :=
  if (s0.1 29) ≤ x2 then (
    oL ((s0.1 29) - (1 : Int32)) fun y1 =>
    F_X5_sift_44 100000 s0 y1)
  else (
    oA x2 80 <|
    if x1 < (s0.2.1 16 (Int32.toNatClampNeg x2)) then (
      F_X5_sift_30 k2 s0 x1 x2 (0 : Int32) x2)
    else (
      F_X5_sift_30 k2 s0 x1 x2 (1 : Int32) x2))
set_option maxHeartbeats 4000000 in
set_option maxRecDepth 100000 in
theorem T_X5_sift_2_b {z1 : St} {k2 : St → Int32 → Int32 → Option (St)} (C : Cx p rm_X5_sift s m args c D A cX5_sift 3 RX5 rm_X5_sift N) (hE : En p l e rm_X5_sift s m args below meth c Q D A cX5_sift .return_ (wC N z1) []) (hk2 : ∀ (s0 : St) (x1 : Int32) (x2 : Int32), k2 s0 x1 x2 = some z1 → Aw p l e rm_X5_sift s m args below meth c Q D A 3 (wC N s0) 2 [(0, .ref (N.1 5)), (1, .int x1), (2, .int x2)] []) (s0 : St) (x1 : Int32) (x2 : Int32) (h : F_X5_sift_2_b k2 s0 x1 x2 = some z1) : Aw p l e rm_X5_sift s m args below meth c Q D A 3 (wC N s0) 2 [(0, .ref (N.1 5)), (1, .int x1), (2, .int x2)] [] := by
  unfold F_X5_sift_2_b at h
  refine aw_iload_n C 2 dX5_sift_2 rfl ?_
  refine aw_aload_n C 0 dX5_sift_3 rfl ?_
  refine cg_nt_held C lw_25_2 dX5_sift_4 ?_
  refine aw_icmp_ge (tgt := 37) C dX5_sift_7 (by decide) (fun q => ?_) (fun q => ?_)
  · have h := bq_t q h
    refine aw_aload_n C 0 dX5_sift_37 rfl ?_
    refine cg_nt_held C lw_25_2 dX5_sift_38 ?_
    refine aw_iconst (v := 1) C dX5_sift_41 (by decide) ?_
    refine aw_isub C dX5_sift_42 ?_
    refine aw_topi (fun y1 ey1 => ?_)
    have h := oL_e ey1 h
    refine aw_istore_n (lv' := [(0, .ref (N.1 5)), (1, .int x1), (2, .int y1)]) C [1, 2, 0] dX5_sift_43 rfl (by decide) rfl ?_
    refine aw_sub (lv' := [(0, .ref (N.1 5)), (2, .int y1)]) [0, 2] rfl ?_
    exact T_X5_sift_44 C hE 100000 s0 y1 h
  · have h := bq_f q h
    refine aw_aload_n C 0 dX5_sift_10 rfl ?_
    refine cg_nt_known C lw_4_18 dX5_sift_11 ?_
    refine aw_iload_n C 2 dX5_sift_14 rfl ?_
    refine aw_aload_n C 0 dX5_sift_15 rfl ?_
    refine cg_nt_told C lw_4_16 dX5_sift_16 ?_
    refine aw_iload_n C 2 dX5_sift_19 rfl ?_
    obtain ⟨q2, h⟩ := oA_e h
    refine ca_iald (k := 16) C (by decide) rfl q2 dX5_sift_20 ?_
    refine aw_iload_n C 1 dX5_sift_21 rfl ?_
    refine aw_icmp_gt (tgt := 29) C dX5_sift_22 (by decide) (fun q => ?_) (fun q => ?_)
    · have h := bq_t q h
      refine aw_iconst (v := 0) C dX5_sift_29 (by decide) ?_
      refine aw_sub (lv' := [(0, .ref (N.1 5)), (1, .int x1), (2, .int x2)]) [0, 1, 2] rfl ?_
      exact T_X5_sift_30 C hE hk2 s0 x1 x2 (0 : Int32) x2 h
    · have h := bq_f q h
      refine aw_iconst (v := 1) C dX5_sift_25 (by decide) ?_
      refine aw_goto (tgt := 30) C dX5_sift_26 (by decide) ?_
      refine aw_sub (lv' := [(0, .ref (N.1 5)), (1, .int x1), (2, .int x2)]) [0, 1, 2] rfl ?_
      exact T_X5_sift_30 C hE hk2 s0 x1 x2 (1 : Int32) x2 h
def F_X5_sift_2 : Nat → St → Int32 → Int32 → Option (St)
  | 0 => fun _ _ _ => none
  | n + 1 => F_X5_sift_2_b (F_X5_sift_2 n)
theorem T_X5_sift_2 {z1 : St} (C : Cx p rm_X5_sift s m args c D A cX5_sift 3 RX5 rm_X5_sift N) (hE : En p l e rm_X5_sift s m args below meth c Q D A cX5_sift .return_ (wC N z1) [])  : ∀ (n : Nat) (s0 : St) (x1 : Int32) (x2 : Int32), F_X5_sift_2 n s0 x1 x2 = some z1 → Aw p l e rm_X5_sift s m args below meth c Q D A 3 (wC N s0) 2 [(0, .ref (N.1 5)), (1, .int x1), (2, .int x2)] [] := by
  intro n
  induction n with
  | zero => intro s0 x1 x2 h; cases h
  | succ n ih => intro s0 x1 x2 h; exact T_X5_sift_2_b C hE ih s0 x1 x2 h
def F_X5_sift_0 (s0 : St) (x1 : Int32) : Option (St) :=
  oL (0 : Int32) fun y1 =>
  F_X5_sift_2 100000 s0 x1 y1
set_option maxHeartbeats 4000000 in
set_option maxRecDepth 100000 in
theorem T_X5_sift_0 {z1 : St} (C : Cx p rm_X5_sift s m args c D A cX5_sift 3 RX5 rm_X5_sift N) (hE : En p l e rm_X5_sift s m args below meth c Q D A cX5_sift .return_ (wC N z1) [])  (s0 : St) (x1 : Int32) (h : F_X5_sift_0 s0 x1 = some z1) : Aw p l e rm_X5_sift s m args below meth c Q D A 3 (wC N s0) 0 [(0, .ref (N.1 5)), (1, .int x1)] [] := by
  unfold F_X5_sift_0 at h
  refine aw_iconst (v := 0) C dX5_sift_0 (by decide) ?_
  refine aw_topi (fun y1 ey1 => ?_)
  have h := oL_e ey1 h
  refine aw_istore_n (lv' := [(0, .ref (N.1 5)), (1, .int x1), (2, .int y1)]) C [1, 2, 0] dX5_sift_1 rfl (by decide) rfl ?_
  refine aw_sub (lv' := [(0, .ref (N.1 5)), (1, .int x1), (2, .int y1)]) [0, 1, 2] rfl ?_
  exact T_X5_sift_2 C hE 100000 s0 x1 y1 h
def f_X5_sift (s0 : St) (x1 : Int32) : Option (St) := F_X5_sift_0 s0 x1
theorem c_X5_sift (l : Launch) (D : va_G) (N : Nm) (s0 z1 : St) (x1 : Int32) (h : f_X5_sift s0 x1 = some z1) : Metv l yX5_sift (tsU yX5_sift cX5_sift 3 none) rm_X5_sift D N [.ref (N.1 5), .int x1] (wC N s0) (wC N z1) :=
  met_v (cc := cX5_sift) (nL := 3) (own := RX5) (by decide) rfl (Nat.le_of_ble_eq_true rfl) (fun p e s m args below meth c Q A C hE => aw_sub [0, 1] rfl (T_X5_sift_0 C hE s0 x1 h))
/-! AwardLine$Drafts.has(I)Z -/
def rm_X1_has : Room := { frames := 0, cells := 0, slots := 0, locals := 0 }
def F_X1_has_17 (s0 : St) (t0 : Int32) : Option (Int32 × St) :=
  some (t0, s0)
set_option maxHeartbeats 4000000 in
set_option maxRecDepth 100000 in
theorem T_X1_has_17 {r : Int32} {z1 : St} (C : Cx p rm_X1_has s m args c D A cX1_has 2 RX1 rm_X1_has N) (hE : En p l e rm_X1_has s m args below meth c Q D A cX1_has .ireturn (wC N z1) [.int r])  (s0 : St) (t0 : Int32) (h : F_X1_has_17 s0 t0 = some (r, z1)) : Aw p l e rm_X1_has s m args below meth c Q D A 2 (wC N s0) 17 [] [.int t0] := by
  unfold F_X1_has_17 at h
  cases h
  exact aw_ret hE dX1_has_17
def F_X1_has_16 (s0 : St) : Option (Int32 × St) :=
  F_X1_has_17 s0 (0 : Int32)
set_option maxHeartbeats 4000000 in
set_option maxRecDepth 100000 in
theorem T_X1_has_16 {r : Int32} {z1 : St} (C : Cx p rm_X1_has s m args c D A cX1_has 2 RX1 rm_X1_has N) (hE : En p l e rm_X1_has s m args below meth c Q D A cX1_has .ireturn (wC N z1) [.int r])  (s0 : St) (h : F_X1_has_16 s0 = some (r, z1)) : Aw p l e rm_X1_has s m args below meth c Q D A 2 (wC N s0) 16 [] [] := by
  unfold F_X1_has_16 at h
  refine aw_iconst (v := 0) C dX1_has_16 (by decide) ?_
  refine aw_sub (lv' := []) [] rfl ?_
  exact T_X1_has_17 C hE s0 (0 : Int32) h
def F_X1_has_0 (s0 : St) (x1 : Int32) : Option (Int32 × St) :=
  if x1 < 0 then (
    F_X1_has_16 s0)
  else (
    if (s0.1 30) ≤ x1 then (
      F_X1_has_16 s0)
    else (
      F_X1_has_17 s0 (1 : Int32)))
set_option maxHeartbeats 4000000 in
set_option maxRecDepth 100000 in
theorem T_X1_has_0 {r : Int32} {z1 : St} (C : Cx p rm_X1_has s m args c D A cX1_has 2 RX1 rm_X1_has N) (hE : En p l e rm_X1_has s m args below meth c Q D A cX1_has .ireturn (wC N z1) [.int r])  (s0 : St) (x1 : Int32) (h : F_X1_has_0 s0 x1 = some (r, z1)) : Aw p l e rm_X1_has s m args below meth c Q D A 2 (wC N s0) 0 [(0, .ref (N.1 7)), (1, .int x1)] [] := by
  unfold F_X1_has_0 at h
  refine aw_iload_n C 1 dX1_has_0 rfl ?_
  refine aw_if_lt (tgt := 16) C dX1_has_1 (by decide) (fun q => ?_) (fun q => ?_)
  · have h := bq_t q h
    refine aw_sub (lv' := []) [] rfl ?_
    exact T_X1_has_16 C hE s0 h
  · have h := bq_f q h
    refine aw_iload_n C 1 dX1_has_4 rfl ?_
    refine aw_aload_n C 0 dX1_has_5 rfl ?_
    refine cg_dr_held C lw_25_23 dX1_has_6 ?_
    refine aw_icmp_ge (tgt := 16) C dX1_has_9 (by decide) (fun q => ?_) (fun q => ?_)
    · have h := bq_t q h
      refine aw_sub (lv' := []) [] rfl ?_
      exact T_X1_has_16 C hE s0 h
    · have h := bq_f q h
      refine aw_iconst (v := 1) C dX1_has_12 (by decide) ?_
      refine aw_goto (tgt := 17) C dX1_has_13 (by decide) ?_
      refine aw_sub (lv' := []) [] rfl ?_
      exact T_X1_has_17 C hE s0 (1 : Int32) h
def f_X1_has (s0 : St) (x1 : Int32) : Option (Int32 × St) := oC (F_X1_has_0 s0 x1) fun w => oZ w.1 (some w)
theorem c_X1_has (l : Launch) (D : va_G) (N : Nm) (s0 z1 : St) (x1 : Int32) (r : Int32) (h : f_X1_has s0 x1 = some (r, z1)) : Meti l yX1_has (tsU yX1_has cX1_has 2 (some .boolean)) rm_X1_has D N [.ref (N.1 7), .int x1] (wC N s0) r (wC N z1) := by
  obtain ⟨w, h1, h2⟩ := oC_e h
  obtain ⟨hz, h2⟩ := oZ_e h2
  cases h2
  exact met_z (cc := cX1_has) (nL := 2) (own := RX1) (by decide) rfl (Nat.le_of_ble_eq_true rfl) (zN hz) (fun p e s m args below meth c Q A C hE => aw_sub [0, 1] rfl (T_X1_has_0 C hE s0 x1 h1))
/-! AwardLine$Drafts.add(II)I -/
def rm_X1_add : Room := { frames := 0, cells := 0, slots := 0, locals := 0 }
def F_X1_add_0 (s0 : St) (x1 : Int32) (x2 : Int32) : Option (Int32 × St) :=
  if (s0.1 30) < (12 : Int32) then (
    oA (s0.1 30) 12 <|
    oL (sA s0 28 (upd (s0.2.1 28) (Int32.toNatClampNeg (s0.1 30)) x1)) fun s2 =>
    oA (s2.1 30) 12 <|
    oL (sA s2 29 (upd (s2.2.1 29) (Int32.toNatClampNeg (s2.1 30)) x2)) fun s4 =>
    oL (sI s4 30 ((s4.1 30) + (1 : Int32))) fun s5 =>
    some ((s5.1 30) - (1 : Int32), s5))
  else (
    some ((-1 : Int32), s0))
set_option maxHeartbeats 4000000 in
set_option maxRecDepth 100000 in
theorem T_X1_add_0 {r : Int32} {z1 : St} (C : Cx p rm_X1_add s m args c D A cX1_add 3 RX1 rm_X1_add N) (hE : En p l e rm_X1_add s m args below meth c Q D A cX1_add .ireturn (wC N z1) [.int r])  (s0 : St) (x1 : Int32) (x2 : Int32) (h : F_X1_add_0 s0 x1 x2 = some (r, z1)) : Aw p l e rm_X1_add s m args below meth c Q D A 3 (wC N s0) 0 [(0, .ref (N.1 7)), (1, .int x1), (2, .int x2)] [] := by
  unfold F_X1_add_0 at h
  refine aw_aload_n C 0 dX1_add_0 rfl ?_
  refine cg_dr_held C lw_25_23 dX1_add_1 ?_
  refine aw_bipush (v := 12) C dX1_add_4 (by decide) ?_
  refine aw_icmp_lt (tgt := 11) C dX1_add_6 (by decide) (fun q => ?_) (fun q => ?_)
  · have h := bq_t q h
    refine aw_aload_n C 0 dX1_add_11 rfl ?_
    refine cg_dr_line C lw_6_6 dX1_add_12 ?_
    refine aw_aload_n C 0 dX1_add_15 rfl ?_
    refine cg_dr_held C lw_25_23 dX1_add_16 ?_
    refine aw_iload_n C 1 dX1_add_19 rfl ?_
    obtain ⟨q1, h⟩ := oA_e h
    refine ca_iast (k := 28) C (by decide) rfl q1 dX1_add_20 ?_
    refine ca_name (fun s2 es2 => ?_)
    have h := oL_e es2 h
    refine aw_aload_n C 0 dX1_add_21 rfl ?_
    refine cg_dr_day C lw_6_7 dX1_add_22 ?_
    refine aw_aload_n C 0 dX1_add_25 rfl ?_
    refine cg_dr_held C lw_25_23 dX1_add_26 ?_
    refine aw_iload_n C 2 dX1_add_29 rfl ?_
    obtain ⟨q3, h⟩ := oA_e h
    refine ca_iast (k := 29) C (by decide) rfl q3 dX1_add_30 ?_
    refine ca_name (fun s4 es4 => ?_)
    have h := oL_e es4 h
    refine aw_aload_n C 0 dX1_add_31 rfl ?_
    refine aw_dup C dX1_add_32 rfl ?_
    refine cg_dr_held C lw_25_23 dX1_add_33 ?_
    refine aw_iconst (v := 1) C dX1_add_36 (by decide) ?_
    refine aw_iadd C dX1_add_37 ?_
    refine cp_dr_held C lw_25_23 dX1_add_38 ?_
    refine ca_name (fun s5 es5 => ?_)
    have h := oL_e es5 h
    refine aw_aload_n C 0 dX1_add_41 rfl ?_
    refine cg_dr_held C lw_25_23 dX1_add_42 ?_
    refine aw_iconst (v := 1) C dX1_add_45 (by decide) ?_
    refine aw_isub C dX1_add_46 ?_
    cases h
    exact aw_ret hE dX1_add_47
  · have h := bq_f q h
    refine aw_iconst (v := -1) C dX1_add_9 (by decide) ?_
    cases h
    exact aw_ret hE dX1_add_10
def f_X1_add (s0 : St) (x1 : Int32) (x2 : Int32) : Option (Int32 × St) := F_X1_add_0 s0 x1 x2
theorem c_X1_add (l : Launch) (D : va_G) (N : Nm) (s0 z1 : St) (x1 : Int32) (x2 : Int32) (r : Int32) (h : f_X1_add s0 x1 x2 = some (r, z1)) : Meti l yX1_add (tsU yX1_add cX1_add 3 (some .int)) rm_X1_add D N [.ref (N.1 7), .int x1, .int x2] (wC N s0) r (wC N z1) :=
  met_i (cc := cX1_add) (nL := 3) (own := RX1) (by decide) rfl (Nat.le_of_ble_eq_true rfl) (fun p e s m args below meth c Q A C hE => aw_sub [0, 1, 2] rfl (T_X1_add_0 C hE s0 x1 x2 h))
/-! AwardLine$Terms.clear()V -/
def rm_X8_clear : Room := { frames := 1, cells := 0, slots := 0, locals := 23 }
def F_X8_clear_0 (s0 : St) : Option (St) :=
  oL (sI s0 17 (0 : Int32)) fun s1 =>
  oL (sI s1 18 (10 : Int32)) fun s2 =>
  oL (sI s2 19 (5 : Int32)) fun s3 =>
  oL (sI s3 20 (0 : Int32)) fun s4 =>
  oC (f_J7_fill_53178 s4 4 (0 : Int32)) fun w7 =>
  oL w7 fun s6 =>
  some s6
set_option maxHeartbeats 4000000 in
set_option maxRecDepth 100000 in
theorem T_X8_clear_0 {z1 : St} (C : Cx p rm_X8_clear s m args c D A cX8_clear 1 RX8 rm_X8_clear N) (hE : En p l e rm_X8_clear s m args below meth c Q D A cX8_clear .return_ (wC N z1) [])  (s0 : St) (h : F_X8_clear_0 s0 = some z1) : Aw p l e rm_X8_clear s m args below meth c Q D A 1 (wC N s0) 0 [(0, .ref (N.1 3))] [] := by
  unfold F_X8_clear_0 at h
  refine aw_aload_n C 0 dX8_clear_0 rfl ?_
  refine aw_iconst (v := 0) C dX8_clear_1 (by decide) ?_
  refine cp_ts_unit C lw_5_22 dX8_clear_2 ?_
  refine ca_name (fun s1 es1 => ?_)
  have h := oL_e es1 h
  refine aw_aload_n C 0 dX8_clear_5 rfl ?_
  refine aw_bipush (v := 10) C dX8_clear_6 (by decide) ?_
  refine cp_ts_fear C lw_5_23 dX8_clear_8 ?_
  refine ca_name (fun s2 es2 => ?_)
  have h := oL_e es2 h
  refine aw_aload_n C 0 dX8_clear_11 rfl ?_
  refine aw_iconst (v := 5) C dX8_clear_12 (by decide) ?_
  refine cp_ts_lose C lw_6_0 dX8_clear_13 ?_
  refine ca_name (fun s3 es3 => ?_)
  have h := oL_e es3 h
  refine aw_aload_n C 0 dX8_clear_16 rfl ?_
  refine aw_iconst (v := 0) C dX8_clear_17 (by decide) ?_
  refine cp_ts_knots C lw_6_1 dX8_clear_18 ?_
  refine ca_name (fun s4 es4 => ?_)
  have h := oL_e es4 h
  refine aw_aload_n C 0 dX8_clear_21 rfl ?_
  refine cg_ts_weight C lw_5_15 dX8_clear_22 ?_
  refine aw_iconst (v := 0) C dX8_clear_25 (by decide) ?_
  obtain ⟨s6, cw7, h⟩ := oC_e h
  have h := oL_e (x := s6) rfl h
  refine aw_callSv (n := 2) (As := [.ref (N.2.1 4), .int (0 : Int32)]) (rest := []) C (c_J7_fill_53178 l D N s4 s6 4 (0 : Int32) cw7) lw_6_2 lw_4_5 lw_4_6 lw_4_7 rfl rfl (by decide +kernel) ⟨Nat.le_of_ble_eq_true rfl, Nat.le_of_ble_eq_true rfl⟩ rfl rfl (Nat.le_of_ble_eq_true rfl) dX8_clear_26 ?_
  cases h
  exact aw_ret hE dX8_clear_29
def f_X8_clear (s0 : St) : Option (St) := F_X8_clear_0 s0
theorem c_X8_clear (l : Launch) (D : va_G) (N : Nm) (s0 z1 : St) (h : f_X8_clear s0 = some z1) : Metv l yX8_clear (tsU yX8_clear cX8_clear 1 none) rm_X8_clear D N [.ref (N.1 3)] (wC N s0) (wC N z1) :=
  met_v (cc := cX8_clear) (nL := 1) (own := RX8) (by decide) rfl (Nat.le_of_ble_eq_true rfl) (fun p e s m args below meth c Q A C hE => aw_sub [0] rfl (T_X8_clear_0 C hE s0 h))
/-! AwardLine.isDay(I)Z -/
def rm_X11_isDay : Room := { frames := 0, cells := 0, slots := 0, locals := 0 }
def F_X11_isDay_16 (s0 : St) (t0 : Int32) : Option (Int32 × St) :=
  some (t0, s0)
set_option maxHeartbeats 4000000 in
set_option maxRecDepth 100000 in
theorem T_X11_isDay_16 {r : Int32} {z1 : St} (C : Cx p rm_X11_isDay s m args c D A cX11_isDay 1 RX11 rm_X11_isDay N) (hE : En p l e rm_X11_isDay s m args below meth c Q D A cX11_isDay .ireturn (wC N z1) [.int r])  (s0 : St) (t0 : Int32) (h : F_X11_isDay_16 s0 t0 = some (r, z1)) : Aw p l e rm_X11_isDay s m args below meth c Q D A 1 (wC N s0) 16 [] [.int t0] := by
  unfold F_X11_isDay_16 at h
  cases h
  exact aw_ret hE dX11_isDay_16
def F_X11_isDay_15 (s0 : St) : Option (Int32 × St) :=
  F_X11_isDay_16 s0 (0 : Int32)
set_option maxHeartbeats 4000000 in
set_option maxRecDepth 100000 in
theorem T_X11_isDay_15 {r : Int32} {z1 : St} (C : Cx p rm_X11_isDay s m args c D A cX11_isDay 1 RX11 rm_X11_isDay N) (hE : En p l e rm_X11_isDay s m args below meth c Q D A cX11_isDay .ireturn (wC N z1) [.int r])  (s0 : St) (h : F_X11_isDay_15 s0 = some (r, z1)) : Aw p l e rm_X11_isDay s m args below meth c Q D A 1 (wC N s0) 15 [] [] := by
  unfold F_X11_isDay_15 at h
  refine aw_iconst (v := 0) C dX11_isDay_15 (by decide) ?_
  refine aw_sub (lv' := []) [] rfl ?_
  exact T_X11_isDay_16 C hE s0 (0 : Int32) h
def F_X11_isDay_0 (s0 : St) (x0 : Int32) : Option (Int32 × St) :=
  if x0 < 0 then (
    F_X11_isDay_15 s0)
  else (
    if (999 : Int32) < x0 then (
      F_X11_isDay_15 s0)
    else (
      F_X11_isDay_16 s0 (1 : Int32)))
set_option maxHeartbeats 4000000 in
set_option maxRecDepth 100000 in
theorem T_X11_isDay_0 {r : Int32} {z1 : St} (C : Cx p rm_X11_isDay s m args c D A cX11_isDay 1 RX11 rm_X11_isDay N) (hE : En p l e rm_X11_isDay s m args below meth c Q D A cX11_isDay .ireturn (wC N z1) [.int r])  (s0 : St) (x0 : Int32) (h : F_X11_isDay_0 s0 x0 = some (r, z1)) : Aw p l e rm_X11_isDay s m args below meth c Q D A 1 (wC N s0) 0 [(0, .int x0)] [] := by
  unfold F_X11_isDay_0 at h
  refine aw_iload_n C 0 dX11_isDay_0 rfl ?_
  refine aw_if_lt (tgt := 15) C dX11_isDay_1 (by decide) (fun q => ?_) (fun q => ?_)
  · have h := bq_t q h
    refine aw_sub (lv' := []) [] rfl ?_
    exact T_X11_isDay_15 C hE s0 h
  · have h := bq_f q h
    refine aw_iload_n C 0 dX11_isDay_4 rfl ?_
    refine aw_sipush (v := 999) C dX11_isDay_5 (by decide) ?_
    refine aw_icmp_gt (tgt := 15) C dX11_isDay_8 (by decide) (fun q => ?_) (fun q => ?_)
    · have h := bq_t q h
      refine aw_sub (lv' := []) [] rfl ?_
      exact T_X11_isDay_15 C hE s0 h
    · have h := bq_f q h
      refine aw_iconst (v := 1) C dX11_isDay_11 (by decide) ?_
      refine aw_goto (tgt := 16) C dX11_isDay_12 (by decide) ?_
      refine aw_sub (lv' := []) [] rfl ?_
      exact T_X11_isDay_16 C hE s0 (1 : Int32) h
def f_X11_isDay (s0 : St) (x0 : Int32) : Option (Int32 × St) := oC (F_X11_isDay_0 s0 x0) fun w => oZ w.1 (some w)
theorem c_X11_isDay (l : Launch) (D : va_G) (N : Nm) (s0 z1 : St) (x0 : Int32) (r : Int32) (h : f_X11_isDay s0 x0 = some (r, z1)) : Meti l yX11_isDay (tsU yX11_isDay cX11_isDay 1 (some .boolean)) rm_X11_isDay D N [.int x0] (wC N s0) r (wC N z1) := by
  obtain ⟨w, h1, h2⟩ := oC_e h
  obtain ⟨hz, h2⟩ := oZ_e h2
  cases h2
  exact met_z (cc := cX11_isDay) (nL := 1) (own := RX11) (by decide) rfl (Nat.le_of_ble_eq_true rfl) (zN hz) (fun p e s m args below meth c Q A C hE => aw_sub [0] rfl (T_X11_isDay_0 C hE s0 x0 h1))
/-! AwardLine.isSide(I)Z -/
def rm_X11_isSide : Room := { frames := 0, cells := 0, slots := 0, locals := 0 }
def F_X11_isSide_14 (s0 : St) (t0 : Int32) : Option (Int32 × St) :=
  some (t0, s0)
set_option maxHeartbeats 4000000 in
set_option maxRecDepth 100000 in
theorem T_X11_isSide_14 {r : Int32} {z1 : St} (C : Cx p rm_X11_isSide s m args c D A cX11_isSide 1 RX11 rm_X11_isSide N) (hE : En p l e rm_X11_isSide s m args below meth c Q D A cX11_isSide .ireturn (wC N z1) [.int r])  (s0 : St) (t0 : Int32) (h : F_X11_isSide_14 s0 t0 = some (r, z1)) : Aw p l e rm_X11_isSide s m args below meth c Q D A 1 (wC N s0) 14 [] [.int t0] := by
  unfold F_X11_isSide_14 at h
  cases h
  exact aw_ret hE dX11_isSide_14
def F_X11_isSide_9 (s0 : St) : Option (Int32 × St) :=
  F_X11_isSide_14 s0 (1 : Int32)
set_option maxHeartbeats 4000000 in
set_option maxRecDepth 100000 in
theorem T_X11_isSide_9 {r : Int32} {z1 : St} (C : Cx p rm_X11_isSide s m args c D A cX11_isSide 1 RX11 rm_X11_isSide N) (hE : En p l e rm_X11_isSide s m args below meth c Q D A cX11_isSide .ireturn (wC N z1) [.int r])  (s0 : St) (h : F_X11_isSide_9 s0 = some (r, z1)) : Aw p l e rm_X11_isSide s m args below meth c Q D A 1 (wC N s0) 9 [] [] := by
  unfold F_X11_isSide_9 at h
  refine aw_iconst (v := 1) C dX11_isSide_9 (by decide) ?_
  refine aw_goto (tgt := 14) C dX11_isSide_10 (by decide) ?_
  refine aw_sub (lv' := []) [] rfl ?_
  exact T_X11_isSide_14 C hE s0 (1 : Int32) h
def F_X11_isSide_0 (s0 : St) (x0 : Int32) : Option (Int32 × St) :=
  if x0 = 0 then (
    F_X11_isSide_9 s0)
  else (
    if x0 = (1 : Int32) then (
      F_X11_isSide_9 s0)
    else (
      F_X11_isSide_14 s0 (0 : Int32)))
set_option maxHeartbeats 4000000 in
set_option maxRecDepth 100000 in
theorem T_X11_isSide_0 {r : Int32} {z1 : St} (C : Cx p rm_X11_isSide s m args c D A cX11_isSide 1 RX11 rm_X11_isSide N) (hE : En p l e rm_X11_isSide s m args below meth c Q D A cX11_isSide .ireturn (wC N z1) [.int r])  (s0 : St) (x0 : Int32) (h : F_X11_isSide_0 s0 x0 = some (r, z1)) : Aw p l e rm_X11_isSide s m args below meth c Q D A 1 (wC N s0) 0 [(0, .int x0)] [] := by
  unfold F_X11_isSide_0 at h
  refine aw_iload_n C 0 dX11_isSide_0 rfl ?_
  refine aw_if_eq (tgt := 9) C dX11_isSide_1 (by decide) (fun q => ?_) (fun q => ?_)
  · have h := bq_t q h
    refine aw_sub (lv' := []) [] rfl ?_
    exact T_X11_isSide_9 C hE s0 h
  · have h := bq_f q h
    refine aw_iload_n C 0 dX11_isSide_4 rfl ?_
    refine aw_iconst (v := 1) C dX11_isSide_5 (by decide) ?_
    refine aw_icmp_ne (tgt := 13) C dX11_isSide_6 (by decide) (fun q => ?_) (fun q => ?_)
    · have h := bq_f q h
      refine aw_iconst (v := 0) C dX11_isSide_13 (by decide) ?_
      refine aw_sub (lv' := []) [] rfl ?_
      exact T_X11_isSide_14 C hE s0 (0 : Int32) h
    · have h := bq_t q h
      refine aw_sub (lv' := []) [] rfl ?_
      exact T_X11_isSide_9 C hE s0 h
def f_X11_isSide (s0 : St) (x0 : Int32) : Option (Int32 × St) := oC (F_X11_isSide_0 s0 x0) fun w => oZ w.1 (some w)
theorem c_X11_isSide (l : Launch) (D : va_G) (N : Nm) (s0 z1 : St) (x0 : Int32) (r : Int32) (h : f_X11_isSide s0 x0 = some (r, z1)) : Meti l yX11_isSide (tsU yX11_isSide cX11_isSide 1 (some .boolean)) rm_X11_isSide D N [.int x0] (wC N s0) r (wC N z1) := by
  obtain ⟨w, h1, h2⟩ := oC_e h
  obtain ⟨hz, h2⟩ := oZ_e h2
  cases h2
  exact met_z (cc := cX11_isSide) (nL := 1) (own := RX11) (by decide) rfl (Nat.le_of_ble_eq_true rfl) (zN hz) (fun p e s m args below meth c Q A C hE => aw_sub [0] rfl (T_X11_isSide_0 C hE s0 x0 h1))
/-! AwardLine.isHand(I)Z -/
def rm_X11_isHand : Room := { frames := 0, cells := 0, slots := 0, locals := 0 }
def F_X11_isHand_14 (s0 : St) (t0 : Int32) : Option (Int32 × St) :=
  some (t0, s0)
set_option maxHeartbeats 4000000 in
set_option maxRecDepth 100000 in
theorem T_X11_isHand_14 {r : Int32} {z1 : St} (C : Cx p rm_X11_isHand s m args c D A cX11_isHand 1 RX11 rm_X11_isHand N) (hE : En p l e rm_X11_isHand s m args below meth c Q D A cX11_isHand .ireturn (wC N z1) [.int r])  (s0 : St) (t0 : Int32) (h : F_X11_isHand_14 s0 t0 = some (r, z1)) : Aw p l e rm_X11_isHand s m args below meth c Q D A 1 (wC N s0) 14 [] [.int t0] := by
  unfold F_X11_isHand_14 at h
  cases h
  exact aw_ret hE dX11_isHand_14
def F_X11_isHand_13 (s0 : St) : Option (Int32 × St) :=
  F_X11_isHand_14 s0 (0 : Int32)
set_option maxHeartbeats 4000000 in
set_option maxRecDepth 100000 in
theorem T_X11_isHand_13 {r : Int32} {z1 : St} (C : Cx p rm_X11_isHand s m args c D A cX11_isHand 1 RX11 rm_X11_isHand N) (hE : En p l e rm_X11_isHand s m args below meth c Q D A cX11_isHand .ireturn (wC N z1) [.int r])  (s0 : St) (h : F_X11_isHand_13 s0 = some (r, z1)) : Aw p l e rm_X11_isHand s m args below meth c Q D A 1 (wC N s0) 13 [] [] := by
  unfold F_X11_isHand_13 at h
  refine aw_iconst (v := 0) C dX11_isHand_13 (by decide) ?_
  refine aw_sub (lv' := []) [] rfl ?_
  exact T_X11_isHand_14 C hE s0 (0 : Int32) h
def F_X11_isHand_0 (s0 : St) (x0 : Int32) : Option (Int32 × St) :=
  if x0 < 0 then (
    F_X11_isHand_13 s0)
  else (
    if (4 : Int32) ≤ x0 then (
      F_X11_isHand_13 s0)
    else (
      F_X11_isHand_14 s0 (1 : Int32)))
set_option maxHeartbeats 4000000 in
set_option maxRecDepth 100000 in
theorem T_X11_isHand_0 {r : Int32} {z1 : St} (C : Cx p rm_X11_isHand s m args c D A cX11_isHand 1 RX11 rm_X11_isHand N) (hE : En p l e rm_X11_isHand s m args below meth c Q D A cX11_isHand .ireturn (wC N z1) [.int r])  (s0 : St) (x0 : Int32) (h : F_X11_isHand_0 s0 x0 = some (r, z1)) : Aw p l e rm_X11_isHand s m args below meth c Q D A 1 (wC N s0) 0 [(0, .int x0)] [] := by
  unfold F_X11_isHand_0 at h
  refine aw_iload_n C 0 dX11_isHand_0 rfl ?_
  refine aw_if_lt (tgt := 13) C dX11_isHand_1 (by decide) (fun q => ?_) (fun q => ?_)
  · have h := bq_t q h
    refine aw_sub (lv' := []) [] rfl ?_
    exact T_X11_isHand_13 C hE s0 h
  · have h := bq_f q h
    refine aw_iload_n C 0 dX11_isHand_4 rfl ?_
    refine aw_iconst (v := 4) C dX11_isHand_5 (by decide) ?_
    refine aw_icmp_ge (tgt := 13) C dX11_isHand_6 (by decide) (fun q => ?_) (fun q => ?_)
    · have h := bq_t q h
      refine aw_sub (lv' := []) [] rfl ?_
      exact T_X11_isHand_13 C hE s0 h
    · have h := bq_f q h
      refine aw_iconst (v := 1) C dX11_isHand_9 (by decide) ?_
      refine aw_goto (tgt := 14) C dX11_isHand_10 (by decide) ?_
      refine aw_sub (lv' := []) [] rfl ?_
      exact T_X11_isHand_14 C hE s0 (1 : Int32) h
def f_X11_isHand (s0 : St) (x0 : Int32) : Option (Int32 × St) := oC (F_X11_isHand_0 s0 x0) fun w => oZ w.1 (some w)
theorem c_X11_isHand (l : Launch) (D : va_G) (N : Nm) (s0 z1 : St) (x0 : Int32) (r : Int32) (h : f_X11_isHand s0 x0 = some (r, z1)) : Meti l yX11_isHand (tsU yX11_isHand cX11_isHand 1 (some .boolean)) rm_X11_isHand D N [.int x0] (wC N s0) r (wC N z1) := by
  obtain ⟨w, h1, h2⟩ := oC_e h
  obtain ⟨hz, h2⟩ := oZ_e h2
  cases h2
  exact met_z (cc := cX11_isHand) (nL := 1) (own := RX11) (by decide) rfl (Nat.le_of_ble_eq_true rfl) (zN hz) (fun p e s m args below meth c Q A C hE => aw_sub [0] rfl (T_X11_isHand_0 C hE s0 x0 h1))
/-! AwardLine.isPerson(I)Z -/
def rm_X11_isPerson : Room := { frames := 0, cells := 0, slots := 0, locals := 0 }
def F_X11_isPerson_15 (s0 : St) (t0 : Int32) : Option (Int32 × St) :=
  some (t0, s0)
set_option maxHeartbeats 4000000 in
set_option maxRecDepth 100000 in
theorem T_X11_isPerson_15 {r : Int32} {z1 : St} (C : Cx p rm_X11_isPerson s m args c D A cX11_isPerson 1 RX11 rm_X11_isPerson N) (hE : En p l e rm_X11_isPerson s m args below meth c Q D A cX11_isPerson .ireturn (wC N z1) [.int r])  (s0 : St) (t0 : Int32) (h : F_X11_isPerson_15 s0 t0 = some (r, z1)) : Aw p l e rm_X11_isPerson s m args below meth c Q D A 1 (wC N s0) 15 [] [.int t0] := by
  unfold F_X11_isPerson_15 at h
  cases h
  exact aw_ret hE dX11_isPerson_15
def F_X11_isPerson_14 (s0 : St) : Option (Int32 × St) :=
  F_X11_isPerson_15 s0 (0 : Int32)
set_option maxHeartbeats 4000000 in
set_option maxRecDepth 100000 in
theorem T_X11_isPerson_14 {r : Int32} {z1 : St} (C : Cx p rm_X11_isPerson s m args c D A cX11_isPerson 1 RX11 rm_X11_isPerson N) (hE : En p l e rm_X11_isPerson s m args below meth c Q D A cX11_isPerson .ireturn (wC N z1) [.int r])  (s0 : St) (h : F_X11_isPerson_14 s0 = some (r, z1)) : Aw p l e rm_X11_isPerson s m args below meth c Q D A 1 (wC N s0) 14 [] [] := by
  unfold F_X11_isPerson_14 at h
  refine aw_iconst (v := 0) C dX11_isPerson_14 (by decide) ?_
  refine aw_sub (lv' := []) [] rfl ?_
  exact T_X11_isPerson_15 C hE s0 (0 : Int32) h
def F_X11_isPerson_0 (s0 : St) (x0 : Int32) : Option (Int32 × St) :=
  if x0 < 0 then (
    F_X11_isPerson_14 s0)
  else (
    if (8 : Int32) ≤ x0 then (
      F_X11_isPerson_14 s0)
    else (
      F_X11_isPerson_15 s0 (1 : Int32)))
set_option maxHeartbeats 4000000 in
set_option maxRecDepth 100000 in
theorem T_X11_isPerson_0 {r : Int32} {z1 : St} (C : Cx p rm_X11_isPerson s m args c D A cX11_isPerson 1 RX11 rm_X11_isPerson N) (hE : En p l e rm_X11_isPerson s m args below meth c Q D A cX11_isPerson .ireturn (wC N z1) [.int r])  (s0 : St) (x0 : Int32) (h : F_X11_isPerson_0 s0 x0 = some (r, z1)) : Aw p l e rm_X11_isPerson s m args below meth c Q D A 1 (wC N s0) 0 [(0, .int x0)] [] := by
  unfold F_X11_isPerson_0 at h
  refine aw_iload_n C 0 dX11_isPerson_0 rfl ?_
  refine aw_if_lt (tgt := 14) C dX11_isPerson_1 (by decide) (fun q => ?_) (fun q => ?_)
  · have h := bq_t q h
    refine aw_sub (lv' := []) [] rfl ?_
    exact T_X11_isPerson_14 C hE s0 h
  · have h := bq_f q h
    refine aw_iload_n C 0 dX11_isPerson_4 rfl ?_
    refine aw_bipush (v := 8) C dX11_isPerson_5 (by decide) ?_
    refine aw_icmp_ge (tgt := 14) C dX11_isPerson_7 (by decide) (fun q => ?_) (fun q => ?_)
    · have h := bq_t q h
      refine aw_sub (lv' := []) [] rfl ?_
      exact T_X11_isPerson_14 C hE s0 h
    · have h := bq_f q h
      refine aw_iconst (v := 1) C dX11_isPerson_10 (by decide) ?_
      refine aw_goto (tgt := 15) C dX11_isPerson_11 (by decide) ?_
      refine aw_sub (lv' := []) [] rfl ?_
      exact T_X11_isPerson_15 C hE s0 (1 : Int32) h
def f_X11_isPerson (s0 : St) (x0 : Int32) : Option (Int32 × St) := oC (F_X11_isPerson_0 s0 x0) fun w => oZ w.1 (some w)
theorem c_X11_isPerson (l : Launch) (D : va_G) (N : Nm) (s0 z1 : St) (x0 : Int32) (r : Int32) (h : f_X11_isPerson s0 x0 = some (r, z1)) : Meti l yX11_isPerson (tsU yX11_isPerson cX11_isPerson 1 (some .boolean)) rm_X11_isPerson D N [.int x0] (wC N s0) r (wC N z1) := by
  obtain ⟨w, h1, h2⟩ := oC_e h
  obtain ⟨hz, h2⟩ := oZ_e h2
  cases h2
  exact met_z (cc := cX11_isPerson) (nL := 1) (own := RX11) (by decide) rfl (Nat.le_of_ble_eq_true rfl) (zN hz) (fun p e s m args below meth c Q A C hE => aw_sub [0] rfl (T_X11_isPerson_0 C hE s0 x0 h1))
/-! AwardLine.isCount(I)Z -/
def rm_X11_isCount : Room := { frames := 0, cells := 0, slots := 0, locals := 0 }
def F_X11_isCount_16 (s0 : St) (t0 : Int32) : Option (Int32 × St) :=
  some (t0, s0)
set_option maxHeartbeats 4000000 in
set_option maxRecDepth 100000 in
theorem T_X11_isCount_16 {r : Int32} {z1 : St} (C : Cx p rm_X11_isCount s m args c D A cX11_isCount 1 RX11 rm_X11_isCount N) (hE : En p l e rm_X11_isCount s m args below meth c Q D A cX11_isCount .ireturn (wC N z1) [.int r])  (s0 : St) (t0 : Int32) (h : F_X11_isCount_16 s0 t0 = some (r, z1)) : Aw p l e rm_X11_isCount s m args below meth c Q D A 1 (wC N s0) 16 [] [.int t0] := by
  unfold F_X11_isCount_16 at h
  cases h
  exact aw_ret hE dX11_isCount_16
def F_X11_isCount_15 (s0 : St) : Option (Int32 × St) :=
  F_X11_isCount_16 s0 (0 : Int32)
set_option maxHeartbeats 4000000 in
set_option maxRecDepth 100000 in
theorem T_X11_isCount_15 {r : Int32} {z1 : St} (C : Cx p rm_X11_isCount s m args c D A cX11_isCount 1 RX11 rm_X11_isCount N) (hE : En p l e rm_X11_isCount s m args below meth c Q D A cX11_isCount .ireturn (wC N z1) [.int r])  (s0 : St) (h : F_X11_isCount_15 s0 = some (r, z1)) : Aw p l e rm_X11_isCount s m args below meth c Q D A 1 (wC N s0) 15 [] [] := by
  unfold F_X11_isCount_15 at h
  refine aw_iconst (v := 0) C dX11_isCount_15 (by decide) ?_
  refine aw_sub (lv' := []) [] rfl ?_
  exact T_X11_isCount_16 C hE s0 (0 : Int32) h
def F_X11_isCount_0 (s0 : St) (x0 : Int32) : Option (Int32 × St) :=
  if x0 < 0 then (
    F_X11_isCount_15 s0)
  else (
    if (999 : Int32) < x0 then (
      F_X11_isCount_15 s0)
    else (
      F_X11_isCount_16 s0 (1 : Int32)))
set_option maxHeartbeats 4000000 in
set_option maxRecDepth 100000 in
theorem T_X11_isCount_0 {r : Int32} {z1 : St} (C : Cx p rm_X11_isCount s m args c D A cX11_isCount 1 RX11 rm_X11_isCount N) (hE : En p l e rm_X11_isCount s m args below meth c Q D A cX11_isCount .ireturn (wC N z1) [.int r])  (s0 : St) (x0 : Int32) (h : F_X11_isCount_0 s0 x0 = some (r, z1)) : Aw p l e rm_X11_isCount s m args below meth c Q D A 1 (wC N s0) 0 [(0, .int x0)] [] := by
  unfold F_X11_isCount_0 at h
  refine aw_iload_n C 0 dX11_isCount_0 rfl ?_
  refine aw_if_lt (tgt := 15) C dX11_isCount_1 (by decide) (fun q => ?_) (fun q => ?_)
  · have h := bq_t q h
    refine aw_sub (lv' := []) [] rfl ?_
    exact T_X11_isCount_15 C hE s0 h
  · have h := bq_f q h
    refine aw_iload_n C 0 dX11_isCount_4 rfl ?_
    refine aw_sipush (v := 999) C dX11_isCount_5 (by decide) ?_
    refine aw_icmp_gt (tgt := 15) C dX11_isCount_8 (by decide) (fun q => ?_) (fun q => ?_)
    · have h := bq_t q h
      refine aw_sub (lv' := []) [] rfl ?_
      exact T_X11_isCount_15 C hE s0 h
    · have h := bq_f q h
      refine aw_iconst (v := 1) C dX11_isCount_11 (by decide) ?_
      refine aw_goto (tgt := 16) C dX11_isCount_12 (by decide) ?_
      refine aw_sub (lv' := []) [] rfl ?_
      exact T_X11_isCount_16 C hE s0 (1 : Int32) h
def f_X11_isCount (s0 : St) (x0 : Int32) : Option (Int32 × St) := oC (F_X11_isCount_0 s0 x0) fun w => oZ w.1 (some w)
theorem c_X11_isCount (l : Launch) (D : va_G) (N : Nm) (s0 z1 : St) (x0 : Int32) (r : Int32) (h : f_X11_isCount s0 x0 = some (r, z1)) : Meti l yX11_isCount (tsU yX11_isCount cX11_isCount 1 (some .boolean)) rm_X11_isCount D N [.int x0] (wC N s0) r (wC N z1) := by
  obtain ⟨w, h1, h2⟩ := oC_e h
  obtain ⟨hz, h2⟩ := oZ_e h2
  cases h2
  exact met_z (cc := cX11_isCount) (nL := 1) (own := RX11) (by decide) rfl (Nat.le_of_ble_eq_true rfl) (zN hz) (fun p e s m args below meth c Q A C hE => aw_sub [0] rfl (T_X11_isCount_0 C hE s0 x0 h1))
/-! AwardLine.leastOf(I)I -/
def rm_X11_leastOf : Room := { frames := 1, cells := 0, slots := 0, locals := 20 }
def F_X11_leastOf_0 (s0 : St) (x0 : Int32) : Option (Int32 × St) :=
  oC (f_J6_bitCount_0f7a4 s0 ((x0 &&& (-x0)) - (1 : Int32))) fun w3 =>
  oL w3.1 fun v1 => oL w3.2 fun s2 =>
  some (v1, s2)
set_option maxHeartbeats 4000000 in
set_option maxRecDepth 100000 in
theorem T_X11_leastOf_0 {r : Int32} {z1 : St} (C : Cx p rm_X11_leastOf s m args c D A cX11_leastOf 1 RX11 rm_X11_leastOf N) (hE : En p l e rm_X11_leastOf s m args below meth c Q D A cX11_leastOf .ireturn (wC N z1) [.int r])  (s0 : St) (x0 : Int32) (h : F_X11_leastOf_0 s0 x0 = some (r, z1)) : Aw p l e rm_X11_leastOf s m args below meth c Q D A 1 (wC N s0) 0 [(0, .int x0)] [] := by
  unfold F_X11_leastOf_0 at h
  refine aw_iload_n C 0 dX11_leastOf_0 rfl ?_
  refine aw_iload_n C 0 dX11_leastOf_1 rfl ?_
  refine aw_ineg C dX11_leastOf_2 ?_
  refine aw_iand C dX11_leastOf_3 ?_
  refine aw_iconst (v := 1) C dX11_leastOf_4 (by decide) ?_
  refine aw_isub C dX11_leastOf_5 ?_
  obtain ⟨⟨v1, s2⟩, cw3, h⟩ := oC_e h
  have h := oL_e (x := s2) rfl (oL_e (x := v1) rfl h)
  refine aw_callSi (n := 1) (As := [.int ((x0 &&& (-x0)) - (1 : Int32))]) (rest := []) C (c_J6_bitCount_0f7a4 l D N s0 s2 ((x0 &&& (-x0)) - (1 : Int32)) v1 cw3) lw_35_9 lw_30_15 lw_30_16 lw_30_17 rfl rfl (by decide +kernel) ⟨Nat.le_of_ble_eq_true rfl, Nat.le_of_ble_eq_true rfl⟩ rfl rfl (Nat.le_of_ble_eq_true rfl) dX11_leastOf_6 ?_
  cases h
  exact aw_ret hE dX11_leastOf_9
def f_X11_leastOf (s0 : St) (x0 : Int32) : Option (Int32 × St) := F_X11_leastOf_0 s0 x0
theorem c_X11_leastOf (l : Launch) (D : va_G) (N : Nm) (s0 z1 : St) (x0 : Int32) (r : Int32) (h : f_X11_leastOf s0 x0 = some (r, z1)) : Meti l yX11_leastOf (tsU yX11_leastOf cX11_leastOf 1 (some .int)) rm_X11_leastOf D N [.int x0] (wC N s0) r (wC N z1) :=
  met_i (cc := cX11_leastOf) (nL := 1) (own := RX11) (by decide) rfl (Nat.le_of_ble_eq_true rfl) (fun p e s m args below meth c Q A C hE => aw_sub [0] rfl (T_X11_leastOf_0 C hE s0 x0 h))
/-! AwardLine.shareUp(II)I -/
def rm_X11_shareUp : Room := { frames := 0, cells := 0, slots := 0, locals := 0 }
def F_X11_shareUp_0 (s0 : St) (x0 : Int32) (x1 : Int32) : Option (Int32 × St) :=
  oD (100 : Int32) <|
  some (((x0 * x1) + (99 : Int32)) / (100 : Int32), s0)
set_option maxHeartbeats 4000000 in
set_option maxRecDepth 100000 in
theorem T_X11_shareUp_0 {r : Int32} {z1 : St} (C : Cx p rm_X11_shareUp s m args c D A cX11_shareUp 2 RX11 rm_X11_shareUp N) (hE : En p l e rm_X11_shareUp s m args below meth c Q D A cX11_shareUp .ireturn (wC N z1) [.int r])  (s0 : St) (x0 : Int32) (x1 : Int32) (h : F_X11_shareUp_0 s0 x0 x1 = some (r, z1)) : Aw p l e rm_X11_shareUp s m args below meth c Q D A 2 (wC N s0) 0 [(0, .int x0), (1, .int x1)] [] := by
  unfold F_X11_shareUp_0 at h
  refine aw_iload_n C 0 dX11_shareUp_0 rfl ?_
  refine aw_iload_n C 1 dX11_shareUp_1 rfl ?_
  refine aw_imul C dX11_shareUp_2 ?_
  refine aw_bipush (v := 99) C dX11_shareUp_3 (by decide) ?_
  refine aw_iadd C dX11_shareUp_5 ?_
  refine aw_bipush (v := 100) C dX11_shareUp_6 (by decide) ?_
  obtain ⟨q1, h⟩ := oD_e h
  refine aw_idiv C dX11_shareUp_8 q1 ?_
  cases h
  exact aw_ret hE dX11_shareUp_9
def f_X11_shareUp (s0 : St) (x0 : Int32) (x1 : Int32) : Option (Int32 × St) := F_X11_shareUp_0 s0 x0 x1
theorem c_X11_shareUp (l : Launch) (D : va_G) (N : Nm) (s0 z1 : St) (x0 : Int32) (x1 : Int32) (r : Int32) (h : f_X11_shareUp s0 x0 x1 = some (r, z1)) : Meti l yX11_shareUp (tsU yX11_shareUp cX11_shareUp 2 (some .int)) rm_X11_shareUp D N [.int x0, .int x1] (wC N s0) r (wC N z1) :=
  met_i (cc := cX11_shareUp) (nL := 2) (own := RX11) (by decide) rfl (Nat.le_of_ble_eq_true rfl) (fun p e s m args below meth c Q A C hE => aw_sub [0, 1] rfl (T_X11_shareUp_0 C hE s0 x0 x1 h))
end WK
