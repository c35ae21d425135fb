section WK
variable {p : Program} {l : Launch} {e : Env} {s : State} {m : MethodId} {args : Array Value} {below : List Frame} {meth : Method} {c : Code} {Q : State → Prop} {D : va_G} {A : Nat → Prop} {N : Nm}
/-! AwardLine$Land.lay(II)V -/
def rm_X4_lay : Room := { frames := 1, cells := 0, slots := 0, locals := 23 }
def F_X4_lay_31_b (k31 : St → Int32 → Int32 → Int32 → Option (St)) (s0 : St) (x1 : Int32) (x2 : Int32) (x3 : Int32) : Option (St) :=
  if x2 ≤ x3 then (
    oL (sI s0 28 ((s0.1 27) <<< ((x1 - (1 : Int32)) &&& 31))) fun s1 =>
    oC (f_J7_fill_53178 s1 7 (0 : Int32)) fun w4 =>
    oL w4 fun s3 =>
    oA (0 : Int32) 6 <|
    oL (sA s3 7 (upd (s3.2.1 7) (Int32.toNatClampNeg (0 : Int32)) (s3.1 22))) fun s6 =>
    oC (f_J7_fill_53178 s6 8 (0 : Int32)) fun w9 =>
    oL w9 fun s8 =>
    oL (sI s8 23 (0 : Int32)) fun s10 =>
    oL (sI s10 24 (0 : Int32)) fun s11 =>
    oL (sI s11 25 (0 : Int32)) fun s12 =>
    some s12)
  else (
    oL (sI s0 27 ((s0.1 27) ||| ((1 : Int32) <<< ((x3 * x1) &&& 31)))) fun s13 =>
    oL (x3 + (1 : Int32)) fun y14 =>
    k31 s13 x1 x2 y14)
set_option maxHeartbeats 4000000 in
set_option maxRecDepth 100000 in
theorem T_X4_lay_31_b {z1 : St} {k31 : St → Int32 → Int32 → Int32 → Option (St)} (C : Cx p rm_X4_lay s m args c D A cX4_lay 4 RX4 rm_X4_lay N) (hE : En p l e rm_X4_lay s m args below meth c Q D A cX4_lay .return_ (wC N z1) []) (hk31 : ∀ (s0 : St) (x1 : Int32) (x2 : Int32) (x3 : Int32), k31 s0 x1 x2 x3 = some z1 → Aw p l e rm_X4_lay s m args below meth c Q D A 4 (wC N s0) 31 [(0, .ref (N.1 4)), (1, .int x1), (2, .int x2), (3, .int x3)] []) (s0 : St) (x1 : Int32) (x2 : Int32) (x3 : Int32) (h : F_X4_lay_31_b k31 s0 x1 x2 x3 = some z1) : Aw p l e rm_X4_lay s m args below meth c Q D A 4 (wC N s0) 31 [(0, .ref (N.1 4)), (1, .int x1), (2, .int x2), (3, .int x3)] [] := by
  unfold F_X4_lay_31_b at h
  refine aw_iload_n C 3 dX4_lay_31 rfl ?_
  refine aw_iload_n C 2 dX4_lay_32 rfl ?_
  refine aw_icmp_ge (tgt := 56) C dX4_lay_33 (by decide) (fun q => ?_) (fun q => ?_)
  · have h := bq_t q h
    refine aw_aload_n C 0 dX4_lay_56 rfl ?_
    refine aw_aload_n C 0 dX4_lay_57 rfl ?_
    refine cg_ln_firstColumn C lw_3_23 dX4_lay_58 ?_
    refine aw_iload_n C 1 dX4_lay_61 rfl ?_
    refine aw_iconst (v := 1) C dX4_lay_62 (by decide) ?_
    refine aw_isub C dX4_lay_63 ?_
    refine aw_ishl C dX4_lay_64 ?_
    refine cp_ln_lastColumn C lw_4_0 dX4_lay_65 ?_
    refine ca_name (fun s1 es1 => ?_)
    have h := oL_e es1 h
    refine aw_aload_n C 0 dX4_lay_68 rfl ?_
    refine cg_ln_districts C lw_3_12 dX4_lay_69 ?_
    refine aw_iconst (v := 0) C dX4_lay_72 (by decide) ?_
    obtain ⟨s3, cw4, h⟩ := oC_e h
    have h := oL_e (x := s3) rfl h
    refine aw_callSv (n := 2) (As := [.ref (N.2.1 7), .int (0 : Int32)]) (rest := []) C (c_J7_fill_53178 l D N s1 s3 7 (0 : Int32) cw4) lw_4_4 lw_4_5 lw_4_6 lw_4_7 rfl rfl (by decide +kernel) ⟨Nat.le_of_ble_eq_true rfl, Nat.le_of_ble_eq_true rfl⟩ rfl rfl (Nat.le_of_ble_eq_true rfl) dX4_lay_73 ?_
    refine aw_aload_n C 0 dX4_lay_76 rfl ?_
    refine cg_ln_districts C lw_3_12 dX4_lay_77 ?_
    refine aw_iconst (v := 0) C dX4_lay_80 (by decide) ?_
    refine aw_aload_n C 0 dX4_lay_81 rfl ?_
    refine cg_ln_all C lw_3_22 dX4_lay_82 ?_
    obtain ⟨q5, h⟩ := oA_e h
    refine ca_iast (k := 7) C (by decide) rfl q5 dX4_lay_85 ?_
    refine ca_name (fun s6 es6 => ?_)
    have h := oL_e es6 h
    refine aw_aload_n C 0 dX4_lay_86 rfl ?_
    refine cg_ln_shrines C lw_3_13 dX4_lay_87 ?_
    refine aw_iconst (v := 0) C dX4_lay_90 (by decide) ?_
    obtain ⟨s8, cw9, h⟩ := oC_e h
    have h := oL_e (x := s8) rfl h
    refine aw_callSv (n := 2) (As := [.ref (N.2.1 8), .int (0 : Int32)]) (rest := []) C (c_J7_fill_53178 l D N s6 s8 8 (0 : Int32) cw9) lw_4_4 lw_4_5 lw_4_6 lw_4_7 rfl rfl (by decide +kernel) ⟨Nat.le_of_ble_eq_true rfl, Nat.le_of_ble_eq_true rfl⟩ rfl rfl (Nat.le_of_ble_eq_true rfl) dX4_lay_91 ?_
    refine aw_aload_n C 0 dX4_lay_94 rfl ?_
    refine aw_iconst (v := 0) C dX4_lay_95 (by decide) ?_
    refine cp_ln_rails C lw_4_1 dX4_lay_96 ?_
    refine ca_name (fun s10 es10 => ?_)
    have h := oL_e es10 h
    refine aw_aload_n C 0 dX4_lay_99 rfl ?_
    refine aw_iconst (v := 0) C dX4_lay_100 (by decide) ?_
    refine cp_ln_heads C lw_4_2 dX4_lay_101 ?_
    refine ca_name (fun s11 es11 => ?_)
    have h := oL_e es11 h
    refine aw_aload_n C 0 dX4_lay_104 rfl ?_
    refine aw_iconst (v := 0) C dX4_lay_105 (by decide) ?_
    refine cp_ln_canals C lw_4_3 dX4_lay_106 ?_
    refine ca_name (fun s12 es12 => ?_)
    have h := oL_e es12 h
    cases h
    exact aw_ret hE dX4_lay_109
  · have h := bq_f q h
    refine aw_aload_n C 0 dX4_lay_36 rfl ?_
    refine aw_dup C dX4_lay_37 rfl ?_
    refine cg_ln_firstColumn C lw_3_23 dX4_lay_38 ?_
    refine aw_iconst (v := 1) C dX4_lay_41 (by decide) ?_
    refine aw_iload_n C 3 dX4_lay_42 rfl ?_
    refine aw_iload_n C 1 dX4_lay_43 rfl ?_
    refine aw_imul C dX4_lay_44 ?_
    refine aw_ishl C dX4_lay_45 ?_
    refine aw_ior C dX4_lay_46 ?_
    refine cp_ln_firstColumn C lw_3_23 dX4_lay_47 ?_
    refine ca_name (fun s13 es13 => ?_)
    have h := oL_e es13 h
    obtain ⟨y14, ey14⟩ : ∃ q : Int32, q = x3 + (1 : Int32) := ⟨_, rfl⟩
    have h := oL_e ey14 h
    refine aw_iinc (v := y14) (k := 3) (lv' := [(0, .ref (N.1 4)), (1, .int x1), (2, .int x2), (3, .int y14)]) C [1, 2, 3, 0] dX4_lay_50 rfl (by rw [ey14]; rfl) (by decide) rfl ?_
    refine aw_goto (tgt := 31) C dX4_lay_53 (by decide) ?_
    refine aw_sub (lv' := [(0, .ref (N.1 4)), (1, .int x1), (2, .int x2), (3, .int y14)]) [0, 1, 2, 3] rfl ?_
    exact hk31 s13 x1 x2 y14 h
def F_X4_lay_31 : Nat → St → Int32 → Int32 → Int32 → Option (St)
  | 0 => fun _ _ _ _ => none
  | n + 1 => F_X4_lay_31_b (F_X4_lay_31 n)
theorem T_X4_lay_31 {z1 : St} (C : Cx p rm_X4_lay s m args c D A cX4_lay 4 RX4 rm_X4_lay N) (hE : En p l e rm_X4_lay s m args below meth c Q D A cX4_lay .return_ (wC N z1) [])  : ∀ (n : Nat) (s0 : St) (x1 : Int32) (x2 : Int32) (x3 : Int32), F_X4_lay_31 n s0 x1 x2 x3 = some z1 → Aw p l e rm_X4_lay s m args below meth c Q D A 4 (wC N s0) 31 [(0, .ref (N.1 4)), (1, .int x1), (2, .int x2), (3, .int x3)] [] := by
  intro n
  induction n with
  | zero => intro s0 x1 x2 x3 h; cases h
  | succ n ih => intro s0 x1 x2 x3 h; exact T_X4_lay_31_b C hE ih s0 x1 x2 x3 h
def F_X4_lay_0 (s0 : St) (x1 : Int32) (x2 : Int32) : Option (St) :=
  oL (sI s0 26 x1) fun s1 =>
  oL (sI s1 21 (x1 * x2)) fun s2 =>
  oL (sI s2 22 (((1 : Int32) <<< ((s2.1 21) &&& 31)) - (1 : Int32))) fun s3 =>
  oL (sI s3 27 (0 : Int32)) fun s4 =>
  oL (0 : Int32) fun y5 =>
  F_X4_lay_31 100000 s4 x1 x2 y5
set_option maxHeartbeats 4000000 in
set_option maxRecDepth 100000 in
theorem T_X4_lay_0 {z1 : St} (C : Cx p rm_X4_lay s m args c D A cX4_lay 4 RX4 rm_X4_lay N) (hE : En p l e rm_X4_lay s m args below meth c Q D A cX4_lay .return_ (wC N z1) [])  (s0 : St) (x1 : Int32) (x2 : Int32) (h : F_X4_lay_0 s0 x1 x2 = some z1) : Aw p l e rm_X4_lay s m args below meth c Q D A 4 (wC N s0) 0 [(0, .ref (N.1 4)), (1, .int x1), (2, .int x2)] [] := by
  unfold F_X4_lay_0 at h
  refine aw_aload_n C 0 dX4_lay_0 rfl ?_
  refine aw_iload_n C 1 dX4_lay_1 rfl ?_
  refine cp_ln_wide C lw_3_20 dX4_lay_2 ?_
  refine ca_name (fun s1 es1 => ?_)
  have h := oL_e es1 h
  refine aw_aload_n C 0 dX4_lay_5 rfl ?_
  refine aw_iload_n C 1 dX4_lay_6 rfl ?_
  refine aw_iload_n C 2 dX4_lay_7 rfl ?_
  refine aw_imul C dX4_lay_8 ?_
  refine cp_ln_size C lw_3_21 dX4_lay_9 ?_
  refine ca_name (fun s2 es2 => ?_)
  have h := oL_e es2 h
  refine aw_aload_n C 0 dX4_lay_12 rfl ?_
  refine aw_iconst (v := 1) C dX4_lay_13 (by decide) ?_
  refine aw_aload_n C 0 dX4_lay_14 rfl ?_
  refine cg_ln_size C lw_3_21 dX4_lay_15 ?_
  refine aw_ishl C dX4_lay_18 ?_
  refine aw_iconst (v := 1) C dX4_lay_19 (by decide) ?_
  refine aw_isub C dX4_lay_20 ?_
  refine cp_ln_all C lw_3_22 dX4_lay_21 ?_
  refine ca_name (fun s3 es3 => ?_)
  have h := oL_e es3 h
  refine aw_aload_n C 0 dX4_lay_24 rfl ?_
  refine aw_iconst (v := 0) C dX4_lay_25 (by decide) ?_
  refine cp_ln_firstColumn C lw_3_23 dX4_lay_26 ?_
  refine ca_name (fun s4 es4 => ?_)
  have h := oL_e es4 h
  refine aw_iconst (v := 0) C dX4_lay_29 (by decide) ?_
  refine aw_topi (fun y5 ey5 => ?_)
  have h := oL_e ey5 h
  refine aw_istore_n (lv' := [(0, .ref (N.1 4)), (1, .int x1), (2, .int x2), (3, .int y5)]) C [1, 2, 3, 0] dX4_lay_30 rfl (by decide) rfl ?_
  refine aw_sub (lv' := [(0, .ref (N.1 4)), (1, .int x1), (2, .int x2), (3, .int y5)]) [0, 1, 2, 3] rfl ?_
  exact T_X4_lay_31 C hE 100000 s4 x1 x2 y5 h
def f_X4_lay (s0 : St) (x1 : Int32) (x2 : Int32) : Option (St) := F_X4_lay_0 s0 x1 x2
theorem c_X4_lay (l : Launch) (D : va_G) (N : Nm) (s0 z1 : St) (x1 : Int32) (x2 : Int32) (h : f_X4_lay s0 x1 x2 = some z1) : Metv l yX4_lay (tsU yX4_lay cX4_lay 4 none) rm_X4_lay D N [.ref (N.1 4), .int x1, .int x2] (wC N s0) (wC N z1) :=
  met_v (cc := cX4_lay) (nL := 4) (own := RX4) (by decide) rfl (Nat.le_of_ble_eq_true rfl) (fun p e s m args below meth c Q A C hE => aw_sub [0, 1, 2] rfl (T_X4_lay_0 C hE s0 x1 x2 h))
/-! AwardLine$Land.has(I)Z -/
def rm_X4_has : Room := { frames := 0, cells := 0, slots := 0, locals := 0 }
def F_X4_has_17 (s0 : St) (t0 : Int32) : Option (Int32 × St) :=
  some (t0, s0)
set_option maxHeartbeats 4000000 in
set_option maxRecDepth 100000 in
theorem T_X4_has_17 {r : Int32} {z1 : St} (C : Cx p rm_X4_has s m args c D A cX4_has 2 RX4 rm_X4_has N) (hE : En p l e rm_X4_has s m args below meth c Q D A cX4_has .ireturn (wC N z1) [.int r])  (s0 : St) (t0 : Int32) (h : F_X4_has_17 s0 t0 = some (r, z1)) : Aw p l e rm_X4_has s m args below meth c Q D A 2 (wC N s0) 17 [] [.int t0] := by
  unfold F_X4_has_17 at h
  cases h
  exact aw_ret hE dX4_has_17
def F_X4_has_16 (s0 : St) : Option (Int32 × St) :=
  F_X4_has_17 s0 (0 : Int32)
set_option maxHeartbeats 4000000 in
set_option maxRecDepth 100000 in
theorem T_X4_has_16 {r : Int32} {z1 : St} (C : Cx p rm_X4_has s m args c D A cX4_has 2 RX4 rm_X4_has N) (hE : En p l e rm_X4_has s m args below meth c Q D A cX4_has .ireturn (wC N z1) [.int r])  (s0 : St) (h : F_X4_has_16 s0 = some (r, z1)) : Aw p l e rm_X4_has s m args below meth c Q D A 2 (wC N s0) 16 [] [] := by
  unfold F_X4_has_16 at h
  refine aw_iconst (v := 0) C dX4_has_16 (by decide) ?_
  refine aw_sub (lv' := []) [] rfl ?_
  exact T_X4_has_17 C hE s0 (0 : Int32) h
def F_X4_has_0 (s0 : St) (x1 : Int32) : Option (Int32 × St) :=
  if x1 < 0 then (
    F_X4_has_16 s0)
  else (
    if (s0.1 21) ≤ x1 then (
      F_X4_has_16 s0)
    else (
      F_X4_has_17 s0 (1 : Int32)))
set_option maxHeartbeats 4000000 in
set_option maxRecDepth 100000 in
theorem T_X4_has_0 {r : Int32} {z1 : St} (C : Cx p rm_X4_has s m args c D A cX4_has 2 RX4 rm_X4_has N) (hE : En p l e rm_X4_has s m args below meth c Q D A cX4_has .ireturn (wC N z1) [.int r])  (s0 : St) (x1 : Int32) (h : F_X4_has_0 s0 x1 = some (r, z1)) : Aw p l e rm_X4_has s m args below meth c Q D A 2 (wC N s0) 0 [(0, .ref (N.1 4)), (1, .int x1)] [] := by
  unfold F_X4_has_0 at h
  refine aw_iload_n C 1 dX4_has_0 rfl ?_
  refine aw_if_lt (tgt := 16) C dX4_has_1 (by decide) (fun q => ?_) (fun q => ?_)
  · have h := bq_t q h
    refine aw_sub (lv' := []) [] rfl ?_
    exact T_X4_has_16 C hE s0 h
  · have h := bq_f q h
    refine aw_iload_n C 1 dX4_has_4 rfl ?_
    refine aw_aload_n C 0 dX4_has_5 rfl ?_
    refine cg_ln_size C lw_3_21 dX4_has_6 ?_
    refine aw_icmp_ge (tgt := 16) C dX4_has_9 (by decide) (fun q => ?_) (fun q => ?_)
    · have h := bq_t q h
      refine aw_sub (lv' := []) [] rfl ?_
      exact T_X4_has_16 C hE s0 h
    · have h := bq_f q h
      refine aw_iconst (v := 1) C dX4_has_12 (by decide) ?_
      refine aw_goto (tgt := 17) C dX4_has_13 (by decide) ?_
      refine aw_sub (lv' := []) [] rfl ?_
      exact T_X4_has_17 C hE s0 (1 : Int32) h
def f_X4_has (s0 : St) (x1 : Int32) : Option (Int32 × St) := oC (F_X4_has_0 s0 x1) fun w => oZ w.1 (some w)
theorem c_X4_has (l : Launch) (D : va_G) (N : Nm) (s0 z1 : St) (x1 : Int32) (r : Int32) (h : f_X4_has s0 x1 = some (r, z1)) : Meti l yX4_has (tsU yX4_has cX4_has 2 (some .boolean)) rm_X4_has D N [.ref (N.1 4), .int x1] (wC N s0) r (wC N z1) := by
  obtain ⟨w, h1, h2⟩ := oC_e h
  obtain ⟨hz, h2⟩ := oZ_e h2
  cases h2
  exact met_z (cc := cX4_has) (nL := 2) (own := RX4) (by decide) rfl (Nat.le_of_ble_eq_true rfl) (zN hz) (fun p e s m args below meth c Q A C hE => aw_sub [0, 1] rfl (T_X4_has_0 C hE s0 x1 h1))
/-! AwardLine$Land.isLine(I)Z -/
def rm_X4_isLine : Room := { frames := 0, cells := 0, slots := 0, locals := 0 }
def F_X4_isLine_17 (s0 : St) (t0 : Int32) : Option (Int32 × St) :=
  some (t0, s0)
set_option maxHeartbeats 4000000 in
set_option maxRecDepth 100000 in
theorem T_X4_isLine_17 {r : Int32} {z1 : St} (C : Cx p rm_X4_isLine s m args c D A cX4_isLine 2 RX4 rm_X4_isLine N) (hE : En p l e rm_X4_isLine s m args below meth c Q D A cX4_isLine .ireturn (wC N z1) [.int r])  (s0 : St) (t0 : Int32) (h : F_X4_isLine_17 s0 t0 = some (r, z1)) : Aw p l e rm_X4_isLine s m args below meth c Q D A 2 (wC N s0) 17 [] [.int t0] := by
  unfold F_X4_isLine_17 at h
  cases h
  exact aw_ret hE dX4_isLine_17
def F_X4_isLine_16 (s0 : St) : Option (Int32 × St) :=
  F_X4_isLine_17 s0 (0 : Int32)
set_option maxHeartbeats 4000000 in
set_option maxRecDepth 100000 in
theorem T_X4_isLine_16 {r : Int32} {z1 : St} (C : Cx p rm_X4_isLine s m args c D A cX4_isLine 2 RX4 rm_X4_isLine N) (hE : En p l e rm_X4_isLine s m args below meth c Q D A cX4_isLine .ireturn (wC N z1) [.int r])  (s0 : St) (h : F_X4_isLine_16 s0 = some (r, z1)) : Aw p l e rm_X4_isLine s m args below meth c Q D A 2 (wC N s0) 16 [] [] := by
  unfold F_X4_isLine_16 at h
  refine aw_iconst (v := 0) C dX4_isLine_16 (by decide) ?_
  refine aw_sub (lv' := []) [] rfl ?_
  exact T_X4_isLine_17 C hE s0 (0 : Int32) h
def F_X4_isLine_0 (s0 : St) (x1 : Int32) : Option (Int32 × St) :=
  if x1 < 0 then (
    F_X4_isLine_16 s0)
  else (
    if (s0.1 22) < x1 then (
      F_X4_isLine_16 s0)
    else (
      F_X4_isLine_17 s0 (1 : Int32)))
set_option maxHeartbeats 4000000 in
set_option maxRecDepth 100000 in
theorem T_X4_isLine_0 {r : Int32} {z1 : St} (C : Cx p rm_X4_isLine s m args c D A cX4_isLine 2 RX4 rm_X4_isLine N) (hE : En p l e rm_X4_isLine s m args below meth c Q D A cX4_isLine .ireturn (wC N z1) [.int r])  (s0 : St) (x1 : Int32) (h : F_X4_isLine_0 s0 x1 = some (r, z1)) : Aw p l e rm_X4_isLine s m args below meth c Q D A 2 (wC N s0) 0 [(0, .ref (N.1 4)), (1, .int x1)] [] := by
  unfold F_X4_isLine_0 at h
  refine aw_iload_n C 1 dX4_isLine_0 rfl ?_
  refine aw_if_lt (tgt := 16) C dX4_isLine_1 (by decide) (fun q => ?_) (fun q => ?_)
  · have h := bq_t q h
    refine aw_sub (lv' := []) [] rfl ?_
    exact T_X4_isLine_16 C hE s0 h
  · have h := bq_f q h
    refine aw_iload_n C 1 dX4_isLine_4 rfl ?_
    refine aw_aload_n C 0 dX4_isLine_5 rfl ?_
    refine cg_ln_all C lw_3_22 dX4_isLine_6 ?_
    refine aw_icmp_gt (tgt := 16) C dX4_isLine_9 (by decide) (fun q => ?_) (fun q => ?_)
    · have h := bq_t q h
      refine aw_sub (lv' := []) [] rfl ?_
      exact T_X4_isLine_16 C hE s0 h
    · have h := bq_f q h
      refine aw_iconst (v := 1) C dX4_isLine_12 (by decide) ?_
      refine aw_goto (tgt := 17) C dX4_isLine_13 (by decide) ?_
      refine aw_sub (lv' := []) [] rfl ?_
      exact T_X4_isLine_17 C hE s0 (1 : Int32) h
def f_X4_isLine (s0 : St) (x1 : Int32) : Option (Int32 × St) := oC (F_X4_isLine_0 s0 x1) fun w => oZ w.1 (some w)
theorem c_X4_isLine (l : Launch) (D : va_G) (N : Nm) (s0 z1 : St) (x1 : Int32) (r : Int32) (h : f_X4_isLine s0 x1 = some (r, z1)) : Meti l yX4_isLine (tsU yX4_isLine cX4_isLine 2 (some .boolean)) rm_X4_isLine D N [.ref (N.1 4), .int x1] (wC N s0) r (wC N z1) := by
  obtain ⟨w, h1, h2⟩ := oC_e h
  obtain ⟨hz, h2⟩ := oZ_e h2
  cases h2
  exact met_z (cc := cX4_isLine) (nL := 2) (own := RX4) (by decide) rfl (Nat.le_of_ble_eq_true rfl) (zN hz) (fun p e s m args below meth c Q A C hE => aw_sub [0, 1] rfl (T_X4_isLine_0 C hE s0 x1 h1))
/-! AwardLine$Land.describe(IIIZ)V -/
def rm_X4_describe : Room := { frames := 0, cells := 0, slots := 0, locals := 0 }
def F_X4_describe_137 (s0 : St) (t0 : Int32) : Option (St) :=
  oL (sI s0 23 t0) fun s1 =>
  some s1
set_option maxHeartbeats 4000000 in
set_option maxRecDepth 100000 in
theorem T_X4_describe_137 {z1 : St} (C : Cx p rm_X4_describe s m args c D A cX4_describe 7 RX4 rm_X4_describe N) (hE : En p l e rm_X4_describe s m args below meth c Q D A cX4_describe .return_ (wC N z1) [])  (s0 : St) (t0 : Int32) (h : F_X4_describe_137 s0 t0 = some z1) : Aw p l e rm_X4_describe s m args below meth c Q D A 7 (wC N s0) 137 [] [.int t0, .ref (N.1 4)] := by
  unfold F_X4_describe_137 at h
  refine cp_ln_rails C lw_4_1 dX4_describe_137 ?_
  refine ca_name (fun s1 es1 => ?_)
  have h := oL_e es1 h
  cases h
  exact aw_ret hE dX4_describe_140
def F_X4_describe_105 (k62 : St → Int32 → Int32 → Int32 → Int32 → Option (St)) (s0 : St) (x3 : Int32) (x4 : Int32) (x5 : Int32) (x6 : Int32) (t0 : Int32) (t1 : Int32) : Option (St) :=
  oA t1 2 <|
  oL (sA s0 8 (upd (s0.2.1 8) (Int32.toNatClampNeg t1) t0)) fun s2 =>
  oL (x6 + (1 : Int32)) fun y3 =>
  k62 s2 x3 x4 x5 y3
set_option maxHeartbeats 4000000 in
set_option maxRecDepth 100000 in
theorem T_X4_describe_105 {z1 : St} {k62 : St → Int32 → Int32 → Int32 → Int32 → Option (St)} (C : Cx p rm_X4_describe s m args c D A cX4_describe 7 RX4 rm_X4_describe N) (hE : En p l e rm_X4_describe s m args below meth c Q D A cX4_describe .return_ (wC N z1) []) (hk62 : ∀ (s0 : St) (x3 : Int32) (x4 : Int32) (x5 : Int32) (x6 : Int32), k62 s0 x3 x4 x5 x6 = some z1 → Aw p l e rm_X4_describe s m args below meth c Q D A 7 (wC N s0) 62 [(0, .ref (N.1 4)), (3, .int x3), (4, .int x4), (5, .int x5), (6, .int x6)] []) (s0 : St) (x3 : Int32) (x4 : Int32) (x5 : Int32) (x6 : Int32) (t0 : Int32) (t1 : Int32) (h : F_X4_describe_105 k62 s0 x3 x4 x5 x6 t0 t1 = some z1) : Aw p l e rm_X4_describe s m args below meth c Q D A 7 (wC N s0) 105 [(0, .ref (N.1 4)), (3, .int x3), (4, .int x4), (5, .int x5), (6, .int x6)] [.int t0, .int t1, .ref (N.2.1 8)] := by
  unfold F_X4_describe_105 at h
  obtain ⟨q1, h⟩ := oA_e h
  refine ca_iast (k := 8) C (by decide) rfl q1 dX4_describe_105 ?_
  refine ca_name (fun s2 es2 => ?_)
  have h := oL_e es2 h
  obtain ⟨y3, ey3⟩ : ∃ q : Int32, q = x6 + (1 : Int32) := ⟨_, rfl⟩
  have h := oL_e ey3 h
  refine aw_iinc (v := y3) (k := 4) (lv' := [(0, .ref (N.1 4)), (3, .int x3), (4, .int x4), (5, .int x5), (6, .int y3)]) C [1, 2, 3, 4, 0] dX4_describe_106 rfl (by rw [ey3]; rfl) (by decide) rfl ?_
  refine aw_goto (tgt := 62) C dX4_describe_109 (by decide) ?_
  refine aw_sub (lv' := [(0, .ref (N.1 4)), (3, .int x3), (4, .int x4), (5, .int x5), (6, .int y3)]) [0, 1, 2, 3, 4] rfl ?_
  exact hk62 s2 x3 x4 x5 y3 h
def F_X4_describe_62_b (k62 : St → Int32 → Int32 → Int32 → Int32 → Option (St)) (s0 : St) (x3 : Int32) (x4 : Int32) (x5 : Int32) (x6 : Int32) : Option (St) :=
  if (2 : Int32) ≤ x6 then (
    if x4 = 0 then (
      F_X4_describe_137 s0 ((s0.1 23) &&& (x5 ^^^ (-1 : Int32))))
    else (
      F_X4_describe_137 s0 ((s0.1 23) ||| x5)))
  else (
    if x6 = x3 then (
      oA x6 2 <|
      F_X4_describe_105 k62 s0 x3 x4 x5 x6 ((s0.2.1 8 (Int32.toNatClampNeg x6)) ||| x5) x6)
    else (
      oA x6 2 <|
      F_X4_describe_105 k62 s0 x3 x4 x5 x6 ((s0.2.1 8 (Int32.toNatClampNeg x6)) &&& (x5 ^^^ (-1 : Int32))) x6))
set_option maxHeartbeats 4000000 in
set_option maxRecDepth 100000 in
theorem T_X4_describe_62_b {z1 : St} {k62 : St → Int32 → Int32 → Int32 → Int32 → Option (St)} (C : Cx p rm_X4_describe s m args c D A cX4_describe 7 RX4 rm_X4_describe N) (hE : En p l e rm_X4_describe s m args below meth c Q D A cX4_describe .return_ (wC N z1) []) (hk62 : ∀ (s0 : St) (x3 : Int32) (x4 : Int32) (x5 : Int32) (x6 : Int32), k62 s0 x3 x4 x5 x6 = some z1 → Aw p l e rm_X4_describe s m args below meth c Q D A 7 (wC N s0) 62 [(0, .ref (N.1 4)), (3, .int x3), (4, .int x4), (5, .int x5), (6, .int x6)] []) (s0 : St) (x3 : Int32) (x4 : Int32) (x5 : Int32) (x6 : Int32) (h : F_X4_describe_62_b k62 s0 x3 x4 x5 x6 = some z1) : Aw p l e rm_X4_describe s m args below meth c Q D A 7 (wC N s0) 62 [(0, .ref (N.1 4)), (3, .int x3), (4, .int x4), (5, .int x5), (6, .int x6)] [] := by
  unfold F_X4_describe_62_b at h
  refine aw_iload C 4 dX4_describe_62 rfl ?_
  refine aw_iconst (v := 2) C dX4_describe_64 (by decide) ?_
  refine aw_icmp_ge (tgt := 112) C dX4_describe_65 (by decide) (fun q => ?_) (fun q => ?_)
  · have h := bq_t q h
    refine aw_aload_n C 0 dX4_describe_112 rfl ?_
    refine aw_iload C 2 dX4_describe_113 rfl ?_
    refine aw_if_eq (tgt := 128) C dX4_describe_115 (by decide) (fun q => ?_) (fun q => ?_)
    · have h := bq_t q h
      refine aw_aload_n C 0 dX4_describe_128 rfl ?_
      refine cg_ln_rails C lw_4_1 dX4_describe_129 ?_
      refine aw_iload C 3 dX4_describe_132 rfl ?_
      refine aw_iconst (v := -1) C dX4_describe_134 (by decide) ?_
      refine aw_ixor C dX4_describe_135 ?_
      refine aw_iand C dX4_describe_136 ?_
      refine aw_sub (lv' := []) [] rfl ?_
      exact T_X4_describe_137 C hE s0 ((s0.1 23) &&& (x5 ^^^ (-1 : Int32))) h
    · have h := bq_f q h
      refine aw_aload_n C 0 dX4_describe_118 rfl ?_
      refine cg_ln_rails C lw_4_1 dX4_describe_119 ?_
      refine aw_iload C 3 dX4_describe_122 rfl ?_
      refine aw_ior C dX4_describe_124 ?_
      refine aw_goto (tgt := 137) C dX4_describe_125 (by decide) ?_
      refine aw_sub (lv' := []) [] rfl ?_
      exact T_X4_describe_137 C hE s0 ((s0.1 23) ||| x5) h
  · have h := bq_f q h
    refine aw_aload_n C 0 dX4_describe_68 rfl ?_
    refine cg_ln_shrines C lw_3_13 dX4_describe_69 ?_
    refine aw_iload C 4 dX4_describe_72 rfl ?_
    refine aw_iload C 4 dX4_describe_74 rfl ?_
    refine aw_iload_n C 1 dX4_describe_76 rfl ?_
    refine aw_icmp_ne (tgt := 93) C dX4_describe_77 (by decide) (fun q => ?_) (fun q => ?_)
    · have h := bq_f q h
      refine aw_aload_n C 0 dX4_describe_93 rfl ?_
      refine cg_ln_shrines C lw_3_13 dX4_describe_94 ?_
      refine aw_iload C 4 dX4_describe_97 rfl ?_
      obtain ⟨q1, h⟩ := oA_e h
      refine ca_iald (k := 8) C (by decide) rfl q1 dX4_describe_99 ?_
      refine aw_iload C 3 dX4_describe_100 rfl ?_
      refine aw_iconst (v := -1) C dX4_describe_102 (by decide) ?_
      refine aw_ixor C dX4_describe_103 ?_
      refine aw_iand C dX4_describe_104 ?_
      refine aw_sub (lv' := [(0, .ref (N.1 4)), (3, .int x3), (4, .int x4), (5, .int x5), (6, .int x6)]) [0, 1, 2, 3, 4] rfl ?_
      exact T_X4_describe_105 C hE hk62 s0 x3 x4 x5 x6 ((s0.2.1 8 (Int32.toNatClampNeg x6)) &&& (x5 ^^^ (-1 : Int32))) x6 h
    · have h := bq_t q h
      refine aw_aload_n C 0 dX4_describe_80 rfl ?_
      refine cg_ln_shrines C lw_3_13 dX4_describe_81 ?_
      refine aw_iload C 4 dX4_describe_84 rfl ?_
      obtain ⟨q2, h⟩ := oA_e h
      refine ca_iald (k := 8) C (by decide) rfl q2 dX4_describe_86 ?_
      refine aw_iload C 3 dX4_describe_87 rfl ?_
      refine aw_ior C dX4_describe_89 ?_
      refine aw_goto (tgt := 105) C dX4_describe_90 (by decide) ?_
      refine aw_sub (lv' := [(0, .ref (N.1 4)), (3, .int x3), (4, .int x4), (5, .int x5), (6, .int x6)]) [0, 1, 2, 3, 4] rfl ?_
      exact T_X4_describe_105 C hE hk62 s0 x3 x4 x5 x6 ((s0.2.1 8 (Int32.toNatClampNeg x6)) ||| x5) x6 h
def F_X4_describe_62 : Nat → St → Int32 → Int32 → Int32 → Int32 → Option (St)
  | 0 => fun _ _ _ _ _ => none
  | n + 1 => F_X4_describe_62_b (F_X4_describe_62 n)
theorem T_X4_describe_62 {z1 : St} (C : Cx p rm_X4_describe s m args c D A cX4_describe 7 RX4 rm_X4_describe N) (hE : En p l e rm_X4_describe s m args below meth c Q D A cX4_describe .return_ (wC N z1) [])  : ∀ (n : Nat) (s0 : St) (x3 : Int32) (x4 : Int32) (x5 : Int32) (x6 : Int32), F_X4_describe_62 n s0 x3 x4 x5 x6 = some z1 → Aw p l e rm_X4_describe s m args below meth c Q D A 7 (wC N s0) 62 [(0, .ref (N.1 4)), (3, .int x3), (4, .int x4), (5, .int x5), (6, .int x6)] [] := by
  intro n
  induction n with
  | zero => intro s0 x3 x4 x5 x6 h; cases h
  | succ n ih => intro s0 x3 x4 x5 x6 h; exact T_X4_describe_62_b C hE ih s0 x3 x4 x5 x6 h
def F_X4_describe_52 (k8 : St → Int32 → Int32 → Int32 → Int32 → Int32 → Option (St)) (s0 : St) (x2 : Int32) (x3 : Int32) (x4 : Int32) (x5 : Int32) (x6 : Int32) (t0 : Int32) (t1 : Int32) : Option (St) :=
  oA t1 6 <|
  oL (sA s0 7 (upd (s0.2.1 7) (Int32.toNatClampNeg t1) t0)) fun s2 =>
  oL (x6 + (1 : Int32)) fun y3 =>
  k8 s2 x2 x3 x4 x5 y3
set_option maxHeartbeats 4000000 in
set_option maxRecDepth 100000 in
theorem T_X4_describe_52 {z1 : St} {k8 : St → Int32 → Int32 → Int32 → Int32 → Int32 → Option (St)} (C : Cx p rm_X4_describe s m args c D A cX4_describe 7 RX4 rm_X4_describe N) (hE : En p l e rm_X4_describe s m args below meth c Q D A cX4_describe .return_ (wC N z1) []) (hk8 : ∀ (s0 : St) (x2 : Int32) (x3 : Int32) (x4 : Int32) (x5 : Int32) (x6 : Int32), k8 s0 x2 x3 x4 x5 x6 = some z1 → Aw p l e rm_X4_describe s m args below meth c Q D A 7 (wC N s0) 8 [(0, .ref (N.1 4)), (2, .int x2), (3, .int x3), (4, .int x4), (5, .int x5), (6, .int x6)] []) (s0 : St) (x2 : Int32) (x3 : Int32) (x4 : Int32) (x5 : Int32) (x6 : Int32) (t0 : Int32) (t1 : Int32) (h : F_X4_describe_52 k8 s0 x2 x3 x4 x5 x6 t0 t1 = some z1) : Aw p l e rm_X4_describe s m args below meth c Q D A 7 (wC N s0) 52 [(0, .ref (N.1 4)), (2, .int x2), (3, .int x3), (4, .int x4), (5, .int x5), (6, .int x6)] [.int t0, .int t1, .ref (N.2.1 7)] := by
  unfold F_X4_describe_52 at h
  obtain ⟨q1, h⟩ := oA_e h
  refine ca_iast (k := 7) C (by decide) rfl q1 dX4_describe_52 ?_
  refine ca_name (fun s2 es2 => ?_)
  have h := oL_e es2 h
  obtain ⟨y3, ey3⟩ : ∃ q : Int32, q = x6 + (1 : Int32) := ⟨_, rfl⟩
  have h := oL_e ey3 h
  refine aw_iinc (v := y3) (k := 5) (lv' := [(0, .ref (N.1 4)), (2, .int x2), (3, .int x3), (4, .int x4), (5, .int x5), (6, .int y3)]) C [1, 2, 3, 4, 5, 0] dX4_describe_53 rfl (by rw [ey3]; rfl) (by decide) rfl ?_
  refine aw_goto (tgt := 8) C dX4_describe_56 (by decide) ?_
  refine aw_sub (lv' := [(0, .ref (N.1 4)), (2, .int x2), (3, .int x3), (4, .int x4), (5, .int x5), (6, .int y3)]) [0, 1, 2, 3, 4, 5] rfl ?_
  exact hk8 s2 x2 x3 x4 x5 y3 h
def F_X4_describe_8_b (k8 : St → Int32 → Int32 → Int32 → Int32 → Int32 → Option (St)) (s0 : St) (x2 : Int32) (x3 : Int32) (x4 : Int32) (x5 : Int32) (x6 : Int32) : Option (St) :=
  if (6 : Int32) ≤ x6 then (
    oL (0 : Int32) fun y1 =>
    F_X4_describe_62 100000 s0 x3 x4 x5 y1)
  else (
    if x6 = x2 then (
      oA x6 6 <|
      F_X4_describe_52 k8 s0 x2 x3 x4 x5 x6 ((s0.2.1 7 (Int32.toNatClampNeg x6)) ||| x5) x6)
    else (
      oA x6 6 <|
      F_X4_describe_52 k8 s0 x2 x3 x4 x5 x6 ((s0.2.1 7 (Int32.toNatClampNeg x6)) &&& (x5 ^^^ (-1 : Int32))) x6))
set_option maxHeartbeats 4000000 in
set_option maxRecDepth 100000 in
theorem T_X4_describe_8_b {z1 : St} {k8 : St → Int32 → Int32 → Int32 → Int32 → Int32 → Option (St)} (C : Cx p rm_X4_describe s m args c D A cX4_describe 7 RX4 rm_X4_describe N) (hE : En p l e rm_X4_describe s m args below meth c Q D A cX4_describe .return_ (wC N z1) []) (hk8 : ∀ (s0 : St) (x2 : Int32) (x3 : Int32) (x4 : Int32) (x5 : Int32) (x6 : Int32), k8 s0 x2 x3 x4 x5 x6 = some z1 → Aw p l e rm_X4_describe s m args below meth c Q D A 7 (wC N s0) 8 [(0, .ref (N.1 4)), (2, .int x2), (3, .int x3), (4, .int x4), (5, .int x5), (6, .int x6)] []) (s0 : St) (x2 : Int32) (x3 : Int32) (x4 : Int32) (x5 : Int32) (x6 : Int32) (h : F_X4_describe_8_b k8 s0 x2 x3 x4 x5 x6 = some z1) : Aw p l e rm_X4_describe s m args below meth c Q D A 7 (wC N s0) 8 [(0, .ref (N.1 4)), (2, .int x2), (3, .int x3), (4, .int x4), (5, .int x5), (6, .int x6)] [] := by
  unfold F_X4_describe_8_b at h
  refine aw_iload C 5 dX4_describe_8 rfl ?_
  refine aw_bipush (v := 6) C dX4_describe_10 (by decide) ?_
  refine aw_icmp_ge (tgt := 59) C dX4_describe_12 (by decide) (fun q => ?_) (fun q => ?_)
  · have h := bq_t q h
    refine aw_iconst (v := 0) C dX4_describe_59 (by decide) ?_
    refine aw_topi (fun y1 ey1 => ?_)
    have h := oL_e ey1 h
    refine aw_istore (lv' := [(0, .ref (N.1 4)), (2, .int x2), (3, .int x3), (4, .int x4), (5, .int x5), (6, .int y1)]) C [1, 2, 3, 4, 5, 0] dX4_describe_60 (by decide) rfl ?_
    refine aw_sub (lv' := [(0, .ref (N.1 4)), (3, .int x3), (4, .int x4), (5, .int x5), (6, .int y1)]) [0, 2, 3, 4, 5] rfl ?_
    exact T_X4_describe_62 C hE 100000 s0 x3 x4 x5 y1 h
  · have h := bq_f q h
    refine aw_aload_n C 0 dX4_describe_15 rfl ?_
    refine cg_ln_districts C lw_3_12 dX4_describe_16 ?_
    refine aw_iload C 5 dX4_describe_19 rfl ?_
    refine aw_iload C 5 dX4_describe_21 rfl ?_
    refine aw_iload_n C 1 dX4_describe_23 rfl ?_
    refine aw_icmp_ne (tgt := 40) C dX4_describe_24 (by decide) (fun q => ?_) (fun q => ?_)
    · have h := bq_f q h
      refine aw_aload_n C 0 dX4_describe_40 rfl ?_
      refine cg_ln_districts C lw_3_12 dX4_describe_41 ?_
      refine aw_iload C 5 dX4_describe_44 rfl ?_
      obtain ⟨q2, h⟩ := oA_e h
      refine ca_iald (k := 7) C (by decide) rfl q2 dX4_describe_46 ?_
      refine aw_iload C 4 dX4_describe_47 rfl ?_
      refine aw_iconst (v := -1) C dX4_describe_49 (by decide) ?_
      refine aw_ixor C dX4_describe_50 ?_
      refine aw_iand C dX4_describe_51 ?_
      refine aw_sub (lv' := [(0, .ref (N.1 4)), (2, .int x2), (3, .int x3), (4, .int x4), (5, .int x5), (6, .int x6)]) [0, 1, 2, 3, 4, 5] rfl ?_
      exact T_X4_describe_52 C hE hk8 s0 x2 x3 x4 x5 x6 ((s0.2.1 7 (Int32.toNatClampNeg x6)) &&& (x5 ^^^ (-1 : Int32))) x6 h
    · have h := bq_t q h
      refine aw_aload_n C 0 dX4_describe_27 rfl ?_
      refine cg_ln_districts C lw_3_12 dX4_describe_28 ?_
      refine aw_iload C 5 dX4_describe_31 rfl ?_
      obtain ⟨q3, h⟩ := oA_e h
      refine ca_iald (k := 7) C (by decide) rfl q3 dX4_describe_33 ?_
      refine aw_iload C 4 dX4_describe_34 rfl ?_
      refine aw_ior C dX4_describe_36 ?_
      refine aw_goto (tgt := 52) C dX4_describe_37 (by decide) ?_
      refine aw_sub (lv' := [(0, .ref (N.1 4)), (2, .int x2), (3, .int x3), (4, .int x4), (5, .int x5), (6, .int x6)]) [0, 1, 2, 3, 4, 5] rfl ?_
      exact T_X4_describe_52 C hE hk8 s0 x2 x3 x4 x5 x6 ((s0.2.1 7 (Int32.toNatClampNeg x6)) ||| x5) x6 h
def F_X4_describe_8 : Nat → St → Int32 → Int32 → Int32 → Int32 → Int32 → Option (St)
  | 0 => fun _ _ _ _ _ _ => none
  | n + 1 => F_X4_describe_8_b (F_X4_describe_8 n)
theorem T_X4_describe_8 {z1 : St} (C : Cx p rm_X4_describe s m args c D A cX4_describe 7 RX4 rm_X4_describe N) (hE : En p l e rm_X4_describe s m args below meth c Q D A cX4_describe .return_ (wC N z1) [])  : ∀ (n : Nat) (s0 : St) (x2 : Int32) (x3 : Int32) (x4 : Int32) (x5 : Int32) (x6 : Int32), F_X4_describe_8 n s0 x2 x3 x4 x5 x6 = some z1 → Aw p l e rm_X4_describe s m args below meth c Q D A 7 (wC N s0) 8 [(0, .ref (N.1 4)), (2, .int x2), (3, .int x3), (4, .int x4), (5, .int x5), (6, .int x6)] [] := by
  intro n
  induction n with
  | zero => intro s0 x2 x3 x4 x5 x6 h; cases h
  | succ n ih => intro s0 x2 x3 x4 x5 x6 h; exact T_X4_describe_8_b C hE ih s0 x2 x3 x4 x5 x6 h
def F_X4_describe_0 (s0 : St) (x1 : Int32) (x2 : Int32) (x3 : Int32) (x4 : Int32) : Option (St) :=
  oL ((1 : Int32) <<< (x1 &&& 31)) fun y1 =>
  oL (0 : Int32) fun y2 =>
  F_X4_describe_8 100000 s0 x2 x3 x4 y1 y2
set_option maxHeartbeats 4000000 in
set_option maxRecDepth 100000 in
theorem T_X4_describe_0 {z1 : St} (C : Cx p rm_X4_describe s m args c D A cX4_describe 7 RX4 rm_X4_describe N) (hE : En p l e rm_X4_describe s m args below meth c Q D A cX4_describe .return_ (wC N z1) [])  (s0 : St) (x1 : Int32) (x2 : Int32) (x3 : Int32) (x4 : Int32) (h : F_X4_describe_0 s0 x1 x2 x3 x4 = some z1) : Aw p l e rm_X4_describe s m args below meth c Q D A 7 (wC N s0) 0 [(0, .ref (N.1 4)), (1, .int x1), (2, .int x2), (3, .int x3), (4, .int x4)] [] := by
  unfold F_X4_describe_0 at h
  refine aw_iconst (v := 1) C dX4_describe_0 (by decide) ?_
  refine aw_iload_n C 1 dX4_describe_1 rfl ?_
  refine aw_ishl C dX4_describe_2 ?_
  refine aw_topi (fun y1 ey1 => ?_)
  have h := oL_e ey1 h
  refine aw_istore (lv' := [(0, .ref (N.1 4)), (1, .int x1), (2, .int x2), (3, .int x3), (4, .int x4), (5, .int y1)]) C [1, 2, 3, 4, 5, 0] dX4_describe_3 (by decide) rfl ?_
  refine aw_iconst (v := 0) C dX4_describe_5 (by decide) ?_
  refine aw_topi (fun y2 ey2 => ?_)
  have h := oL_e ey2 h
  refine aw_istore (lv' := [(0, .ref (N.1 4)), (1, .int x1), (2, .int x2), (3, .int x3), (4, .int x4), (5, .int y1), (6, .int y2)]) C [1, 2, 3, 4, 5, 6, 0] dX4_describe_6 (by decide) rfl ?_
  refine aw_sub (lv' := [(0, .ref (N.1 4)), (2, .int x2), (3, .int x3), (4, .int x4), (5, .int y1), (6, .int y2)]) [0, 2, 3, 4, 5, 6] rfl ?_
  exact T_X4_describe_8 C hE 100000 s0 x2 x3 x4 y1 y2 h
def f_X4_describe (s0 : St) (x1 : Int32) (x2 : Int32) (x3 : Int32) (x4 : Int32) : Option (St) := F_X4_describe_0 s0 x1 x2 x3 x4
theorem c_X4_describe (l : Launch) (D : va_G) (N : Nm) (s0 z1 : St) (x1 : Int32) (x2 : Int32) (x3 : Int32) (x4 : Int32) (h : f_X4_describe s0 x1 x2 x3 x4 = some z1) : Metv l yX4_describe (tsU yX4_describe cX4_describe 7 none) rm_X4_describe D N [.ref (N.1 4), .int x1, .int x2, .int x3, .int x4] (wC N s0) (wC N z1) :=
  met_v (cc := cX4_describe) (nL := 7) (own := RX4) (by decide) rfl (Nat.le_of_ble_eq_true rfl) (fun p e s m args below meth c Q A C hE => aw_sub [0, 1, 2, 3, 4] rfl (T_X4_describe_0 C hE s0 x1 x2 x3 x4 h))
/-! AwardLine$Land.dig(I)I -/
def rm_X4_dig : Room := { frames := 0, cells := 0, slots := 0, locals := 0 }
def F_X4_dig_0 (s0 : St) (x1 : Int32) : Option (Int32 × St) :=
  if (s0.1 25) < (6 : Int32) then (
    oA (s0.1 25) 6 <|
    oL (sA s0 9 (upd (s0.2.1 9) (Int32.toNatClampNeg (s0.1 25)) x1)) fun s2 =>
    oA (s2.1 25) 6 <|
    oL (sA s2 10 (upd (s2.2.1 10) (Int32.toNatClampNeg (s2.1 25)) (0 : Int32))) fun s4 =>
    oL (sI s4 24 ((s4.1 24) ||| ((1 : Int32) <<< (x1 &&& 31)))) fun s5 =>
    oL (sI s5 25 ((s5.1 25) + (1 : Int32))) fun s6 =>
    some ((s6.1 25) - (1 : Int32), s6))
  else (
    some ((-1 : Int32), s0))
set_option maxHeartbeats 4000000 in
set_option maxRecDepth 100000 in
theorem T_X4_dig_0 {r : Int32} {z1 : St} (C : Cx p rm_X4_dig s m args c D A cX4_dig 2 RX4 rm_X4_dig N) (hE : En p l e rm_X4_dig s m args below meth c Q D A cX4_dig .ireturn (wC N z1) [.int r])  (s0 : St) (x1 : Int32) (h : F_X4_dig_0 s0 x1 = some (r, z1)) : Aw p l e rm_X4_dig s m args below meth c Q D A 2 (wC N s0) 0 [(0, .ref (N.1 4)), (1, .int x1)] [] := by
  unfold F_X4_dig_0 at h
  refine aw_aload_n C 0 dX4_dig_0 rfl ?_
  refine cg_ln_canals C lw_4_3 dX4_dig_1 ?_
  refine aw_bipush (v := 6) C dX4_dig_4 (by decide) ?_
  refine aw_icmp_lt (tgt := 11) C dX4_dig_6 (by decide) (fun q => ?_) (fun q => ?_)
  · have h := bq_t q h
    refine aw_aload_n C 0 dX4_dig_11 rfl ?_
    refine cg_ln_headOf C lw_3_14 dX4_dig_12 ?_
    refine aw_aload_n C 0 dX4_dig_15 rfl ?_
    refine cg_ln_canals C lw_4_3 dX4_dig_16 ?_
    refine aw_iload_n C 1 dX4_dig_19 rfl ?_
    obtain ⟨q1, h⟩ := oA_e h
    refine ca_iast (k := 9) C (by decide) rfl q1 dX4_dig_20 ?_
    refine ca_name (fun s2 es2 => ?_)
    have h := oL_e es2 h
    refine aw_aload_n C 0 dX4_dig_21 rfl ?_
    refine cg_ln_drinkers C lw_3_15 dX4_dig_22 ?_
    refine aw_aload_n C 0 dX4_dig_25 rfl ?_
    refine cg_ln_canals C lw_4_3 dX4_dig_26 ?_
    refine aw_iconst (v := 0) C dX4_dig_29 (by decide) ?_
    obtain ⟨q3, h⟩ := oA_e h
    refine ca_iast (k := 10) C (by decide) rfl q3 dX4_dig_30 ?_
    refine ca_name (fun s4 es4 => ?_)
    have h := oL_e es4 h
    refine aw_aload_n C 0 dX4_dig_31 rfl ?_
    refine aw_dup C dX4_dig_32 rfl ?_
    refine cg_ln_heads C lw_4_2 dX4_dig_33 ?_
    refine aw_iconst (v := 1) C dX4_dig_36 (by decide) ?_
    refine aw_iload_n C 1 dX4_dig_37 rfl ?_
    refine aw_ishl C dX4_dig_38 ?_
    refine aw_ior C dX4_dig_39 ?_
    refine cp_ln_heads C lw_4_2 dX4_dig_40 ?_
    refine ca_name (fun s5 es5 => ?_)
    have h := oL_e es5 h
    refine aw_aload_n C 0 dX4_dig_43 rfl ?_
    refine aw_dup C dX4_dig_44 rfl ?_
    refine cg_ln_canals C lw_4_3 dX4_dig_45 ?_
    refine aw_iconst (v := 1) C dX4_dig_48 (by decide) ?_
    refine aw_iadd C dX4_dig_49 ?_
    refine cp_ln_canals C lw_4_3 dX4_dig_50 ?_
    refine ca_name (fun s6 es6 => ?_)
    have h := oL_e es6 h
    refine aw_aload_n C 0 dX4_dig_53 rfl ?_
    refine cg_ln_canals C lw_4_3 dX4_dig_54 ?_
    refine aw_iconst (v := 1) C dX4_dig_57 (by decide) ?_
    refine aw_isub C dX4_dig_58 ?_
    cases h
    exact aw_ret hE dX4_dig_59
  · have h := bq_f q h
    refine aw_iconst (v := -1) C dX4_dig_9 (by decide) ?_
    cases h
    exact aw_ret hE dX4_dig_10
def f_X4_dig (s0 : St) (x1 : Int32) : Option (Int32 × St) := F_X4_dig_0 s0 x1
theorem c_X4_dig (l : Launch) (D : va_G) (N : Nm) (s0 z1 : St) (x1 : Int32) (r : Int32) (h : f_X4_dig s0 x1 = some (r, z1)) : Meti l yX4_dig (tsU yX4_dig cX4_dig 2 (some .int)) rm_X4_dig D N [.ref (N.1 4), .int x1] (wC N s0) r (wC N z1) :=
  met_i (cc := cX4_dig) (nL := 2) (own := RX4) (by decide) rfl (Nat.le_of_ble_eq_true rfl) (fun p e s m args below meth c Q A C hE => aw_sub [0, 1] rfl (T_X4_dig_0 C hE s0 x1 h))
/-! AwardLine$Land.lead(II)I -/
def rm_X4_lead : Room := { frames := 1, cells := 0, slots := 0, locals := 20 }
def F_X4_lead_37 (s0 : St) : Option (Int32 × St) :=
  some ((-1 : Int32), s0)
set_option maxHeartbeats 4000000 in
set_option maxRecDepth 100000 in
theorem T_X4_lead_37 {r : Int32} {z1 : St} (C : Cx p rm_X4_lead s m args c D A cX4_lead 4 RX4 rm_X4_lead N) (hE : En p l e rm_X4_lead s m args below meth c Q D A cX4_lead .ireturn (wC N z1) [.int r])  (s0 : St) (h : F_X4_lead_37 s0 = some (r, z1)) : Aw p l e rm_X4_lead s m args below meth c Q D A 4 (wC N s0) 37 [] [] := by
  unfold F_X4_lead_37 at h
  refine aw_iconst (v := -1) C dX4_lead_37 (by decide) ?_
  cases h
  exact aw_ret hE dX4_lead_38
def F_X4_lead_0 (s0 : St) (x1 : Int32) (x2 : Int32) : Option (Int32 × St) :=
  oA x1 6 <|
  oA x1 6 <|
  oL ((s0.2.1 10 (Int32.toNatClampNeg x1)) ||| ((1 : Int32) <<< ((s0.2.1 9 (Int32.toNatClampNeg x1)) &&& 31))) fun y3 =>
  if (y3 >>> (x2 &&& 31)) &&& (1 : Int32) = 0 then (
    oA x1 6 <|
    oC (f_J6_bitCount_0f7a4 s0 (s0.2.1 10 (Int32.toNatClampNeg x1))) fun w7 =>
    oL w7.1 fun v5 => oL w7.2 fun s6 =>
    if v5 < (5 : Int32) then (
      oA x1 6 <|
      oA x1 6 <|
      oL (sA s6 10 (upd (s6.2.1 10) (Int32.toNatClampNeg x1) ((s6.2.1 10 (Int32.toNatClampNeg x1)) ||| ((1 : Int32) <<< (x2 &&& 31))))) fun s10 =>
      oA x1 6 <|
      oC (f_J6_bitCount_0f7a4 s10 (s10.2.1 10 (Int32.toNatClampNeg x1))) fun w14 =>
      oL w14.1 fun v12 => oL w14.2 fun s13 =>
      some (v12, s13))
    else (
      F_X4_lead_37 s6))
  else (
    F_X4_lead_37 s0)
set_option maxHeartbeats 4000000 in
set_option maxRecDepth 100000 in
theorem T_X4_lead_0 {r : Int32} {z1 : St} (C : Cx p rm_X4_lead s m args c D A cX4_lead 4 RX4 rm_X4_lead N) (hE : En p l e rm_X4_lead s m args below meth c Q D A cX4_lead .ireturn (wC N z1) [.int r])  (s0 : St) (x1 : Int32) (x2 : Int32) (h : F_X4_lead_0 s0 x1 x2 = some (r, z1)) : Aw p l e rm_X4_lead s m args below meth c Q D A 4 (wC N s0) 0 [(0, .ref (N.1 4)), (1, .int x1), (2, .int x2)] [] := by
  unfold F_X4_lead_0 at h
  refine aw_aload_n C 0 dX4_lead_0 rfl ?_
  refine cg_ln_drinkers C lw_3_15 dX4_lead_1 ?_
  refine aw_iload_n C 1 dX4_lead_4 rfl ?_
  obtain ⟨q1, h⟩ := oA_e h
  refine ca_iald (k := 10) C (by decide) rfl q1 dX4_lead_5 ?_
  refine aw_iconst (v := 1) C dX4_lead_6 (by decide) ?_
  refine aw_aload_n C 0 dX4_lead_7 rfl ?_
  refine cg_ln_headOf C lw_3_14 dX4_lead_8 ?_
  refine aw_iload_n C 1 dX4_lead_11 rfl ?_
  obtain ⟨q2, h⟩ := oA_e h
  refine ca_iald (k := 9) C (by decide) rfl q2 dX4_lead_12 ?_
  refine aw_ishl C dX4_lead_13 ?_
  refine aw_ior C dX4_lead_14 ?_
  refine aw_topi (fun y3 ey3 => ?_)
  have h := oL_e ey3 h
  refine aw_istore_n (lv' := [(0, .ref (N.1 4)), (1, .int x1), (2, .int x2), (3, .int y3)]) C [1, 2, 3, 0] dX4_lead_15 rfl (by decide) rfl ?_
  refine aw_iload_n C 3 dX4_lead_16 rfl ?_
  refine aw_iload_n C 2 dX4_lead_17 rfl ?_
  refine aw_ishr C dX4_lead_18 ?_
  refine aw_iconst (v := 1) C dX4_lead_19 (by decide) ?_
  refine aw_iand C dX4_lead_20 ?_
  refine aw_if_ne (tgt := 37) C dX4_lead_21 (by decide) (fun q => ?_) (fun q => ?_)
  · have h := bq_f q h
    refine aw_sub (lv' := []) [] rfl ?_
    exact T_X4_lead_37 C hE s0 h
  · have h := bq_t q h
    refine aw_aload_n C 0 dX4_lead_24 rfl ?_
    refine cg_ln_drinkers C lw_3_15 dX4_lead_25 ?_
    refine aw_iload_n C 1 dX4_lead_28 rfl ?_
    obtain ⟨q4, h⟩ := oA_e h
    refine ca_iald (k := 10) C (by decide) rfl q4 dX4_lead_29 ?_
    obtain ⟨⟨v5, s6⟩, cw7, h⟩ := oC_e h
    have h := oL_e (x := s6) rfl (oL_e (x := v5) rfl h)
    refine aw_callSi (n := 1) (As := [.int (s0.2.1 10 (Int32.toNatClampNeg x1))]) (rest := []) C (c_J6_bitCount_0f7a4 l D N s0 s6 (s0.2.1 10 (Int32.toNatClampNeg x1)) v5 cw7) lw_30_14 lw_30_15 lw_30_16 lw_30_17 rfl rfl (by decide +kernel) ⟨Nat.le_of_ble_eq_true rfl, Nat.le_of_ble_eq_true rfl⟩ rfl rfl (Nat.le_of_ble_eq_true rfl) dX4_lead_30 ?_
    refine aw_iconst (v := 5) C dX4_lead_33 (by decide) ?_
    refine aw_icmp_lt (tgt := 39) C dX4_lead_34 (by decide) (fun q => ?_) (fun q => ?_)
    · have h := bq_t q h
      refine aw_aload_n C 0 dX4_lead_39 rfl ?_
      refine cg_ln_drinkers C lw_3_15 dX4_lead_40 ?_
      refine aw_iload_n C 1 dX4_lead_43 rfl ?_
      refine aw_dup2 C dX4_lead_44 rfl rfl ?_
      obtain ⟨q8, h⟩ := oA_e h
      refine ca_iald (k := 10) C (by decide) rfl q8 dX4_lead_45 ?_
      refine aw_iconst (v := 1) C dX4_lead_46 (by decide) ?_
      refine aw_iload_n C 2 dX4_lead_47 rfl ?_
      refine aw_ishl C dX4_lead_48 ?_
      refine aw_ior C dX4_lead_49 ?_
      obtain ⟨q9, h⟩ := oA_e h
      refine ca_iast (k := 10) C (by decide) rfl q9 dX4_lead_50 ?_
      refine ca_name (fun s10 es10 => ?_)
      have h := oL_e es10 h
      refine aw_aload_n C 0 dX4_lead_51 rfl ?_
      refine cg_ln_drinkers C lw_3_15 dX4_lead_52 ?_
      refine aw_iload_n C 1 dX4_lead_55 rfl ?_
      obtain ⟨q11, h⟩ := oA_e h
      refine ca_iald (k := 10) C (by decide) rfl q11 dX4_lead_56 ?_
      obtain ⟨⟨v12, s13⟩, cw14, h⟩ := oC_e h
      have h := oL_e (x := s13) rfl (oL_e (x := v12) rfl h)
      refine aw_callSi (n := 1) (As := [.int (s10.2.1 10 (Int32.toNatClampNeg x1))]) (rest := []) C (c_J6_bitCount_0f7a4 l D N s10 s13 (s10.2.1 10 (Int32.toNatClampNeg x1)) v12 cw14) lw_30_14 lw_30_15 lw_30_16 lw_30_17 rfl rfl (by decide +kernel) ⟨Nat.le_of_ble_eq_true rfl, Nat.le_of_ble_eq_true rfl⟩ rfl rfl (Nat.le_of_ble_eq_true rfl) dX4_lead_57 ?_
      cases h
      exact aw_ret hE dX4_lead_60
    · have h := bq_f q h
      refine aw_sub (lv' := []) [] rfl ?_
      exact T_X4_lead_37 C hE s6 h
def f_X4_lead (s0 : St) (x1 : Int32) (x2 : Int32) : Option (Int32 × St) := F_X4_lead_0 s0 x1 x2
theorem c_X4_lead (l : Launch) (D : va_G) (N : Nm) (s0 z1 : St) (x1 : Int32) (x2 : Int32) (r : Int32) (h : f_X4_lead s0 x1 x2 = some (r, z1)) : Meti l yX4_lead (tsU yX4_lead cX4_lead 4 (some .int)) rm_X4_lead D N [.ref (N.1 4), .int x1, .int x2] (wC N s0) r (wC N z1) :=
  met_i (cc := cX4_lead) (nL := 4) (own := RX4) (by decide) rfl (Nat.le_of_ble_eq_true rfl) (fun p e s m args below meth c Q A C hE => aw_sub [0, 1, 2] rfl (T_X4_lead_0 C hE s0 x1 x2 h))
/-! AwardLine$Land.beside(I)I -/
def rm_X4_beside : Room := { frames := 0, cells := 0, slots := 0, locals := 0 }
def F_X4_beside_0 (s0 : St) (x1 : Int32) : Option (Int32 × St) :=
  oL ((x1 <<< ((s0.1 26) &&& 31)) ||| (ushr x1 (s0.1 26))) fun y1 =>
  oL ((x1 &&& ((s0.1 28) ^^^ (-1 : Int32))) <<< ((1 : Int32) &&& 31)) fun y2 =>
  oL (ushr (x1 &&& ((s0.1 27) ^^^ (-1 : Int32))) (1 : Int32)) fun y3 =>
  some (((y1 ||| y2) ||| y3) &&& (s0.1 22), s0)
set_option maxHeartbeats 4000000 in
set_option maxRecDepth 100000 in
theorem T_X4_beside_0 {r : Int32} {z1 : St} (C : Cx p rm_X4_beside s m args c D A cX4_beside 5 RX4 rm_X4_beside N) (hE : En p l e rm_X4_beside s m args below meth c Q D A cX4_beside .ireturn (wC N z1) [.int r])  (s0 : St) (x1 : Int32) (h : F_X4_beside_0 s0 x1 = some (r, z1)) : Aw p l e rm_X4_beside s m args below meth c Q D A 5 (wC N s0) 0 [(0, .ref (N.1 4)), (1, .int x1)] [] := by
  unfold F_X4_beside_0 at h
  refine aw_iload_n C 1 dX4_beside_0 rfl ?_
  refine aw_aload_n C 0 dX4_beside_1 rfl ?_
  refine cg_ln_wide C lw_3_20 dX4_beside_2 ?_
  refine aw_ishl C dX4_beside_5 ?_
  refine aw_iload_n C 1 dX4_beside_6 rfl ?_
  refine aw_aload_n C 0 dX4_beside_7 rfl ?_
  refine cg_ln_wide C lw_3_20 dX4_beside_8 ?_
  refine aw_iushr C dX4_beside_11 ?_
  refine aw_ior C dX4_beside_12 ?_
  refine aw_topi (fun y1 ey1 => ?_)
  have h := oL_e ey1 h
  refine aw_istore_n (lv' := [(0, .ref (N.1 4)), (1, .int x1), (2, .int y1)]) C [1, 2, 0] dX4_beside_13 rfl (by decide) rfl ?_
  refine aw_iload_n C 1 dX4_beside_14 rfl ?_
  refine aw_aload_n C 0 dX4_beside_15 rfl ?_
  refine cg_ln_lastColumn C lw_4_0 dX4_beside_16 ?_
  refine aw_iconst (v := -1) C dX4_beside_19 (by decide) ?_
  refine aw_ixor C dX4_beside_20 ?_
  refine aw_iand C dX4_beside_21 ?_
  refine aw_iconst (v := 1) C dX4_beside_22 (by decide) ?_
  refine aw_ishl C dX4_beside_23 ?_
  refine aw_topi (fun y2 ey2 => ?_)
  have h := oL_e ey2 h
  refine aw_istore_n (lv' := [(0, .ref (N.1 4)), (1, .int x1), (2, .int y1), (3, .int y2)]) C [1, 2, 3, 0] dX4_beside_24 rfl (by decide) rfl ?_
  refine aw_iload_n C 1 dX4_beside_25 rfl ?_
  refine aw_aload_n C 0 dX4_beside_26 rfl ?_
  refine cg_ln_firstColumn C lw_3_23 dX4_beside_27 ?_
  refine aw_iconst (v := -1) C dX4_beside_30 (by decide) ?_
  refine aw_ixor C dX4_beside_31 ?_
  refine aw_iand C dX4_beside_32 ?_
  refine aw_iconst (v := 1) C dX4_beside_33 (by decide) ?_
  refine aw_iushr C dX4_beside_34 ?_
  refine aw_topi (fun y3 ey3 => ?_)
  have h := oL_e ey3 h
  refine aw_istore (lv' := [(0, .ref (N.1 4)), (1, .int x1), (2, .int y1), (3, .int y2), (4, .int y3)]) C [1, 2, 3, 4, 0] dX4_beside_35 (by decide) rfl ?_
  refine aw_iload_n C 2 dX4_beside_37 rfl ?_
  refine aw_iload_n C 3 dX4_beside_38 rfl ?_
  refine aw_ior C dX4_beside_39 ?_
  refine aw_iload C 4 dX4_beside_40 rfl ?_
  refine aw_ior C dX4_beside_42 ?_
  refine aw_aload_n C 0 dX4_beside_43 rfl ?_
  refine cg_ln_all C lw_3_22 dX4_beside_44 ?_
  refine aw_iand C dX4_beside_47 ?_
  cases h
  exact aw_ret hE dX4_beside_48
def f_X4_beside (s0 : St) (x1 : Int32) : Option (Int32 × St) := F_X4_beside_0 s0 x1
theorem c_X4_beside (l : Launch) (D : va_G) (N : Nm) (s0 z1 : St) (x1 : Int32) (r : Int32) (h : f_X4_beside s0 x1 = some (r, z1)) : Meti l yX4_beside (tsU yX4_beside cX4_beside 5 (some .int)) rm_X4_beside D N [.ref (N.1 4), .int x1] (wC N s0) r (wC N z1) :=
  met_i (cc := cX4_beside) (nL := 5) (own := RX4) (by decide) rfl (Nat.le_of_ble_eq_true rfl) (fun p e s m args below meth c Q A C hE => aw_sub [0, 1] rfl (T_X4_beside_0 C hE s0 x1 h))
/-! AwardLine$Land.firstPiece(I)I -/
def rm_X4_firstPiece : Room := { frames := 1, cells := 0, slots := 0, locals := 24 }
def F_X4_firstPiece_42 (s0 : St) (x2 : Int32) : Option (Int32 × St) :=
  some (x2, s0)
set_option maxHeartbeats 4000000 in
set_option maxRecDepth 100000 in
theorem T_X4_firstPiece_42 {r : Int32} {z1 : St} (C : Cx p rm_X4_firstPiece s m args c D A cX4_firstPiece 5 RX4 rm_X4_firstPiece N) (hE : En p l e rm_X4_firstPiece s m args below meth c Q D A cX4_firstPiece .ireturn (wC N z1) [.int r])  (s0 : St) (x2 : Int32) (h : F_X4_firstPiece_42 s0 x2 = some (r, z1)) : Aw p l e rm_X4_firstPiece s m args below meth c Q D A 5 (wC N s0) 42 [(2, .int x2)] [] := by
  unfold F_X4_firstPiece_42 at h
  refine aw_iload_n C 0 dX4_firstPiece_42 rfl ?_
  cases h
  exact aw_ret hE dX4_firstPiece_43
def F_X4_firstPiece_7_b (k7 : St → Int32 → Int32 → Int32 → Option (Int32 × St)) (s0 : St) (x1 : Int32) (x2 : Int32) (x3 : Int32) : Option (Int32 × St) :=
  if (25 : Int32) ≤ x3 then (
    F_X4_firstPiece_42 s0 x2)
  else (
    oC (f_X4_beside s0 x2) fun w3 =>
    oL w3.1 fun v1 => oL w3.2 fun s2 =>
    oL (x2 ||| (v1 &&& x1)) fun y4 =>
    if y4 = x2 then (
      F_X4_firstPiece_42 s2 x2)
    else (
      oL (x3 + (1 : Int32)) fun y5 =>
      k7 s2 x1 y4 y5))
set_option maxHeartbeats 4000000 in
set_option maxRecDepth 100000 in
theorem T_X4_firstPiece_7_b {r : Int32} {z1 : St} {k7 : St → Int32 → Int32 → Int32 → Option (Int32 × St)} (C : Cx p rm_X4_firstPiece s m args c D A cX4_firstPiece 5 RX4 rm_X4_firstPiece N) (hE : En p l e rm_X4_firstPiece s m args below meth c Q D A cX4_firstPiece .ireturn (wC N z1) [.int r]) (hk7 : ∀ (s0 : St) (x1 : Int32) (x2 : Int32) (x3 : Int32), k7 s0 x1 x2 x3 = some (r, z1) → Aw p l e rm_X4_firstPiece s m args below meth c Q D A 5 (wC N s0) 7 [(0, .ref (N.1 4)), (1, .int x1), (2, .int x2), (3, .int x3)] []) (s0 : St) (x1 : Int32) (x2 : Int32) (x3 : Int32) (h : F_X4_firstPiece_7_b k7 s0 x1 x2 x3 = some (r, z1)) : Aw p l e rm_X4_firstPiece s m args below meth c Q D A 5 (wC N s0) 7 [(0, .ref (N.1 4)), (1, .int x1), (2, .int x2), (3, .int x3)] [] := by
  unfold F_X4_firstPiece_7_b at h
  refine aw_iload_n C 3 dX4_firstPiece_7 rfl ?_
  refine aw_bipush (v := 25) C dX4_firstPiece_8 (by decide) ?_
  refine aw_icmp_ge (tgt := 42) C dX4_firstPiece_10 (by decide) (fun q => ?_) (fun q => ?_)
  · have h := bq_t q h
    refine aw_sub (lv' := [(2, .int x2)]) [2] rfl ?_
    exact T_X4_firstPiece_42 C hE s0 x2 h
  · have h := bq_f q h
    refine aw_iload_n C 2 dX4_firstPiece_13 rfl ?_
    refine aw_aload_n C 0 dX4_firstPiece_14 rfl ?_
    refine aw_iload_n C 2 dX4_firstPiece_15 rfl ?_
    obtain ⟨⟨v1, s2⟩, cw3, h⟩ := oC_e h
    have h := oL_e (x := s2) rfl (oL_e (x := v1) rfl h)
    refine aw_callVi (n := 1) (As := [.int x2]) (rest := [.int x2]) (q0 := 4) C (c_X4_beside l D N s0 s2 x2 v1 cw3) lw_38_7 lw_38_8 lw_38_9 lw_1_15 lw_38_10 rfl rfl (by decide +kernel) ⟨Nat.le_of_ble_eq_true rfl, Nat.le_of_ble_eq_true rfl⟩ rfl rfl rfl rfl rfl (Nat.le_of_ble_eq_true rfl) dX4_firstPiece_16 ?_
    refine aw_iload_n C 1 dX4_firstPiece_19 rfl ?_
    refine aw_iand C dX4_firstPiece_20 ?_
    refine aw_ior C dX4_firstPiece_21 ?_
    refine aw_topi (fun y4 ey4 => ?_)
    have h := oL_e ey4 h
    refine aw_istore (lv' := [(0, .ref (N.1 4)), (1, .int x1), (2, .int x2), (3, .int x3), (4, .int y4)]) C [1, 2, 3, 4, 0] dX4_firstPiece_22 (by decide) rfl ?_
    refine aw_iload C 4 dX4_firstPiece_24 rfl ?_
    refine aw_iload_n C 2 dX4_firstPiece_26 rfl ?_
    refine aw_icmp_ne (tgt := 33) C dX4_firstPiece_27 (by decide) (fun q => ?_) (fun q => ?_)
    · have h := bq_f q h
      refine aw_iload C 4 dX4_firstPiece_33 rfl ?_
      refine aw_istore_n (lv' := [(0, .ref (N.1 4)), (1, .int x1), (2, .int y4), (3, .int x3), (4, .int y4)]) C [1, 2, 0, 3, 4] dX4_firstPiece_35 rfl (by decide) rfl ?_
      obtain ⟨y5, ey5⟩ : ∃ q : Int32, q = x3 + (1 : Int32) := ⟨_, rfl⟩
      have h := oL_e ey5 h
      refine aw_iinc (v := y5) (k := 3) (lv' := [(0, .ref (N.1 4)), (1, .int x1), (2, .int y4), (3, .int y5), (4, .int y4)]) C [1, 2, 3, 0, 4] dX4_firstPiece_36 rfl (by rw [ey5]; rfl) (by decide) rfl ?_
      refine aw_goto (tgt := 7) C dX4_firstPiece_39 (by decide) ?_
      refine aw_sub (lv' := [(0, .ref (N.1 4)), (1, .int x1), (2, .int y4), (3, .int y5)]) [0, 1, 2, 3] rfl ?_
      exact hk7 s2 x1 y4 y5 h
    · have h := bq_t q h
      refine aw_goto (tgt := 42) C dX4_firstPiece_30 (by decide) ?_
      refine aw_sub (lv' := [(2, .int x2)]) [2] rfl ?_
      exact T_X4_firstPiece_42 C hE s2 x2 h
def F_X4_firstPiece_7 : Nat → St → Int32 → Int32 → Int32 → Option (Int32 × St)
  | 0 => fun _ _ _ _ => none
  | n + 1 => F_X4_firstPiece_7_b (F_X4_firstPiece_7 n)
theorem T_X4_firstPiece_7 {r : Int32} {z1 : St} (C : Cx p rm_X4_firstPiece s m args c D A cX4_firstPiece 5 RX4 rm_X4_firstPiece N) (hE : En p l e rm_X4_firstPiece s m args below meth c Q D A cX4_firstPiece .ireturn (wC N z1) [.int r])  : ∀ (n : Nat) (s0 : St) (x1 : Int32) (x2 : Int32) (x3 : Int32), F_X4_firstPiece_7 n s0 x1 x2 x3 = some (r, z1) → Aw p l e rm_X4_firstPiece s m args below meth c Q D A 5 (wC N s0) 7 [(0, .ref (N.1 4)), (1, .int x1), (2, .int x2), (3, .int x3)] [] := by
  intro n
  induction n with
  | zero => intro s0 x1 x2 x3 h; cases h
  | succ n ih => intro s0 x1 x2 x3 h; exact T_X4_firstPiece_7_b C hE ih s0 x1 x2 x3 h
def F_X4_firstPiece_0 (s0 : St) (x1 : Int32) : Option (Int32 × St) :=
  oL (x1 &&& (-x1)) fun y1 =>
  oL (0 : Int32) fun y2 =>
  F_X4_firstPiece_7 100000 s0 x1 y1 y2
set_option maxHeartbeats 4000000 in
set_option maxRecDepth 100000 in
theorem T_X4_firstPiece_0 {r : Int32} {z1 : St} (C : Cx p rm_X4_firstPiece s m args c D A cX4_firstPiece 5 RX4 rm_X4_firstPiece N) (hE : En p l e rm_X4_firstPiece s m args below meth c Q D A cX4_firstPiece .ireturn (wC N z1) [.int r])  (s0 : St) (x1 : Int32) (h : F_X4_firstPiece_0 s0 x1 = some (r, z1)) : Aw p l e rm_X4_firstPiece s m args below meth c Q D A 5 (wC N s0) 0 [(0, .ref (N.1 4)), (1, .int x1)] [] := by
  unfold F_X4_firstPiece_0 at h
  refine aw_iload_n C 1 dX4_firstPiece_0 rfl ?_
  refine aw_iload_n C 1 dX4_firstPiece_1 rfl ?_
  refine aw_ineg C dX4_firstPiece_2 ?_
  refine aw_iand C dX4_firstPiece_3 ?_
  refine aw_topi (fun y1 ey1 => ?_)
  have h := oL_e ey1 h
  refine aw_istore_n (lv' := [(0, .ref (N.1 4)), (1, .int x1), (2, .int y1)]) C [1, 2, 0] dX4_firstPiece_4 rfl (by decide) rfl ?_
  refine aw_iconst (v := 0) C dX4_firstPiece_5 (by decide) ?_
  refine aw_topi (fun y2 ey2 => ?_)
  have h := oL_e ey2 h
  refine aw_istore_n (lv' := [(0, .ref (N.1 4)), (1, .int x1), (2, .int y1), (3, .int y2)]) C [1, 2, 3, 0] dX4_firstPiece_6 rfl (by decide) rfl ?_
  refine aw_sub (lv' := [(0, .ref (N.1 4)), (1, .int x1), (2, .int y1), (3, .int y2)]) [0, 1, 2, 3] rfl ?_
  exact T_X4_firstPiece_7 C hE 100000 s0 x1 y1 y2 h
def f_X4_firstPiece (s0 : St) (x1 : Int32) : Option (Int32 × St) := F_X4_firstPiece_0 s0 x1
theorem c_X4_firstPiece (l : Launch) (D : va_G) (N : Nm) (s0 z1 : St) (x1 : Int32) (r : Int32) (h : f_X4_firstPiece s0 x1 = some (r, z1)) : Meti l yX4_firstPiece (tsU yX4_firstPiece cX4_firstPiece 5 (some .int)) rm_X4_firstPiece D N [.ref (N.1 4), .int x1] (wC N s0) r (wC N z1) :=
  met_i (cc := cX4_firstPiece) (nL := 5) (own := RX4) (by decide) rfl (Nat.le_of_ble_eq_true rfl) (fun p e s m args below meth c Q A C hE => aw_sub [0, 1] rfl (T_X4_firstPiece_0 C hE s0 x1 h))
/-! AwardLine$Land.pieces(I)I -/
def rm_X4_pieces : Room := { frames := 2, cells := 0, slots := 0, locals := 48 }
def F_X4_pieces_37 (s0 : St) (x3 : Int32) : Option (Int32 × St) :=
  some (x3, s0)
set_option maxHeartbeats 4000000 in
set_option maxRecDepth 100000 in
theorem T_X4_pieces_37 {r : Int32} {z1 : St} (C : Cx p rm_X4_pieces s m args c D A cX4_pieces 5 RX4 rm_X4_pieces N) (hE : En p l e rm_X4_pieces s m args below meth c Q D A cX4_pieces .ireturn (wC N z1) [.int r])  (s0 : St) (x3 : Int32) (h : F_X4_pieces_37 s0 x3 = some (r, z1)) : Aw p l e rm_X4_pieces s m args below meth c Q D A 5 (wC N s0) 37 [(3, .int x3)] [] := by
  unfold F_X4_pieces_37 at h
  refine aw_iload_n C 0 dX4_pieces_37 rfl ?_
  cases h
  exact aw_ret hE dX4_pieces_38
def F_X4_pieces_7_b (k7 : St → Int32 → Int32 → Int32 → Option (Int32 × St)) (s0 : St) (x2 : Int32) (x3 : Int32) (x4 : Int32) : Option (Int32 × St) :=
  if (25 : Int32) ≤ x4 then (
    F_X4_pieces_37 s0 x3)
  else (
    if x2 = 0 then (
      F_X4_pieces_37 s0 x3)
    else (
      oC (f_X4_firstPiece s0 x2) fun w3 =>
      oL w3.1 fun v1 => oL w3.2 fun s2 =>
      oL (x2 &&& (v1 ^^^ (-1 : Int32))) fun y4 =>
      oL (x3 + (1 : Int32)) fun y5 =>
      oL (x4 + (1 : Int32)) fun y6 =>
      k7 s2 y4 y5 y6))
set_option maxHeartbeats 4000000 in
set_option maxRecDepth 100000 in
theorem T_X4_pieces_7_b {r : Int32} {z1 : St} {k7 : St → Int32 → Int32 → Int32 → Option (Int32 × St)} (C : Cx p rm_X4_pieces s m args c D A cX4_pieces 5 RX4 rm_X4_pieces N) (hE : En p l e rm_X4_pieces s m args below meth c Q D A cX4_pieces .ireturn (wC N z1) [.int r]) (hk7 : ∀ (s0 : St) (x2 : Int32) (x3 : Int32) (x4 : Int32), k7 s0 x2 x3 x4 = some (r, z1) → Aw p l e rm_X4_pieces s m args below meth c Q D A 5 (wC N s0) 7 [(0, .ref (N.1 4)), (2, .int x2), (3, .int x3), (4, .int x4)] []) (s0 : St) (x2 : Int32) (x3 : Int32) (x4 : Int32) (h : F_X4_pieces_7_b k7 s0 x2 x3 x4 = some (r, z1)) : Aw p l e rm_X4_pieces s m args below meth c Q D A 5 (wC N s0) 7 [(0, .ref (N.1 4)), (2, .int x2), (3, .int x3), (4, .int x4)] [] := by
  unfold F_X4_pieces_7_b at h
  refine aw_iload C 3 dX4_pieces_7 rfl ?_
  refine aw_bipush (v := 25) C dX4_pieces_9 (by decide) ?_
  refine aw_icmp_ge (tgt := 37) C dX4_pieces_11 (by decide) (fun q => ?_) (fun q => ?_)
  · have h := bq_t q h
    refine aw_sub (lv' := [(3, .int x3)]) [2] rfl ?_
    exact T_X4_pieces_37 C hE s0 x3 h
  · have h := bq_f q h
    refine aw_iload_n C 1 dX4_pieces_14 rfl ?_
    refine aw_if_eq (tgt := 37) C dX4_pieces_15 (by decide) (fun q => ?_) (fun q => ?_)
    · have h := bq_t q h
      refine aw_sub (lv' := [(3, .int x3)]) [2] rfl ?_
      exact T_X4_pieces_37 C hE s0 x3 h
    · have h := bq_f q h
      refine aw_iload_n C 1 dX4_pieces_18 rfl ?_
      refine aw_aload_n C 0 dX4_pieces_19 rfl ?_
      refine aw_iload_n C 1 dX4_pieces_20 rfl ?_
      obtain ⟨⟨v1, s2⟩, cw3, h⟩ := oC_e h
      have h := oL_e (x := s2) rfl (oL_e (x := v1) rfl h)
      refine aw_callVi (n := 1) (As := [.int x2]) (rest := [.int x2]) (q0 := 4) C (c_X4_firstPiece l D N s0 s2 x2 v1 cw3) lw_38_3 lw_38_4 lw_38_5 lw_1_15 lw_38_6 rfl rfl (by decide +kernel) ⟨Nat.le_of_ble_eq_true rfl, Nat.le_of_ble_eq_true rfl⟩ rfl rfl rfl rfl rfl (Nat.le_of_ble_eq_true rfl) dX4_pieces_21 ?_
      refine aw_iconst (v := -1) C dX4_pieces_24 (by decide) ?_
      refine aw_ixor C dX4_pieces_25 ?_
      refine aw_iand C dX4_pieces_26 ?_
      refine aw_topi (fun y4 ey4 => ?_)
      have h := oL_e ey4 h
      refine aw_istore_n (lv' := [(0, .ref (N.1 4)), (2, .int y4), (3, .int x3), (4, .int x4)]) C [1, 0, 2, 3] dX4_pieces_27 rfl (by decide) rfl ?_
      obtain ⟨y5, ey5⟩ : ∃ q : Int32, q = x3 + (1 : Int32) := ⟨_, rfl⟩
      have h := oL_e ey5 h
      refine aw_iinc (v := y5) (k := 2) (lv' := [(0, .ref (N.1 4)), (2, .int y4), (3, .int y5), (4, .int x4)]) C [1, 2, 0, 3] dX4_pieces_28 rfl (by rw [ey5]; rfl) (by decide) rfl ?_
      obtain ⟨y6, ey6⟩ : ∃ q : Int32, q = x4 + (1 : Int32) := ⟨_, rfl⟩
      have h := oL_e ey6 h
      refine aw_iinc (v := y6) (k := 3) (lv' := [(0, .ref (N.1 4)), (2, .int y4), (3, .int y5), (4, .int y6)]) C [1, 2, 3, 0] dX4_pieces_31 rfl (by rw [ey6]; rfl) (by decide) rfl ?_
      refine aw_goto (tgt := 7) C dX4_pieces_34 (by decide) ?_
      refine aw_sub (lv' := [(0, .ref (N.1 4)), (2, .int y4), (3, .int y5), (4, .int y6)]) [0, 1, 2, 3] rfl ?_
      exact hk7 s2 y4 y5 y6 h
def F_X4_pieces_7 : Nat → St → Int32 → Int32 → Int32 → Option (Int32 × St)
  | 0 => fun _ _ _ _ => none
  | n + 1 => F_X4_pieces_7_b (F_X4_pieces_7 n)
theorem T_X4_pieces_7 {r : Int32} {z1 : St} (C : Cx p rm_X4_pieces s m args c D A cX4_pieces 5 RX4 rm_X4_pieces N) (hE : En p l e rm_X4_pieces s m args below meth c Q D A cX4_pieces .ireturn (wC N z1) [.int r])  : ∀ (n : Nat) (s0 : St) (x2 : Int32) (x3 : Int32) (x4 : Int32), F_X4_pieces_7 n s0 x2 x3 x4 = some (r, z1) → Aw p l e rm_X4_pieces s m args below meth c Q D A 5 (wC N s0) 7 [(0, .ref (N.1 4)), (2, .int x2), (3, .int x3), (4, .int x4)] [] := by
  intro n
  induction n with
  | zero => intro s0 x2 x3 x4 h; cases h
  | succ n ih => intro s0 x2 x3 x4 h; exact T_X4_pieces_7_b C hE ih s0 x2 x3 x4 h
def F_X4_pieces_0 (s0 : St) (x1 : Int32) : Option (Int32 × St) :=
  oL (0 : Int32) fun y1 =>
  oL (0 : Int32) fun y2 =>
  F_X4_pieces_7 100000 s0 x1 y1 y2
set_option maxHeartbeats 4000000 in
set_option maxRecDepth 100000 in
theorem T_X4_pieces_0 {r : Int32} {z1 : St} (C : Cx p rm_X4_pieces s m args c D A cX4_pieces 5 RX4 rm_X4_pieces N) (hE : En p l e rm_X4_pieces s m args below meth c Q D A cX4_pieces .ireturn (wC N z1) [.int r])  (s0 : St) (x1 : Int32) (h : F_X4_pieces_0 s0 x1 = some (r, z1)) : Aw p l e rm_X4_pieces s m args below meth c Q D A 5 (wC N s0) 0 [(0, .ref (N.1 4)), (1, .int x1)] [] := by
  unfold F_X4_pieces_0 at h
  refine aw_iload_n C 1 dX4_pieces_0 rfl ?_
  refine aw_istore_n (lv' := [(0, .ref (N.1 4)), (1, .int x1), (2, .int x1)]) C [1, 2, 0] dX4_pieces_1 rfl (by decide) rfl ?_
  refine aw_iconst (v := 0) C dX4_pieces_2 (by decide) ?_
  refine aw_topi (fun y1 ey1 => ?_)
  have h := oL_e ey1 h
  refine aw_istore_n (lv' := [(0, .ref (N.1 4)), (1, .int x1), (2, .int x1), (3, .int y1)]) C [1, 2, 3, 0] dX4_pieces_3 rfl (by decide) rfl ?_
  refine aw_iconst (v := 0) C dX4_pieces_4 (by decide) ?_
  refine aw_topi (fun y2 ey2 => ?_)
  have h := oL_e ey2 h
  refine aw_istore (lv' := [(0, .ref (N.1 4)), (1, .int x1), (2, .int x1), (3, .int y1), (4, .int y2)]) C [1, 2, 3, 4, 0] dX4_pieces_5 (by decide) rfl ?_
  refine aw_sub (lv' := [(0, .ref (N.1 4)), (2, .int x1), (3, .int y1), (4, .int y2)]) [0, 2, 3, 4] rfl ?_
  exact T_X4_pieces_7 C hE 100000 s0 x1 y1 y2 h
def f_X4_pieces (s0 : St) (x1 : Int32) : Option (Int32 × St) := F_X4_pieces_0 s0 x1
theorem c_X4_pieces (l : Launch) (D : va_G) (N : Nm) (s0 z1 : St) (x1 : Int32) (r : Int32) (h : f_X4_pieces s0 x1 = some (r, z1)) : Meti l yX4_pieces (tsU yX4_pieces cX4_pieces 5 (some .int)) rm_X4_pieces D N [.ref (N.1 4), .int x1] (wC N s0) r (wC N z1) :=
  met_i (cc := cX4_pieces) (nL := 5) (own := RX4) (by decide) rfl (Nat.le_of_ble_eq_true rfl) (fun p e s m args below meth c Q A C hE => aw_sub [0, 1] rfl (T_X4_pieces_0 C hE s0 x1 h))
/-! AwardLine$Land.parted(II)Z -/
def rm_X4_parted : Room := { frames := 2, cells := 0, slots := 0, locals := 48 }
def F_X4_parted_55 (s0 : St) : Option (Int32 × St) :=
  some ((0 : Int32), s0)
set_option maxHeartbeats 4000000 in
set_option maxRecDepth 100000 in
theorem T_X4_parted_55 {r : Int32} {z1 : St} (C : Cx p rm_X4_parted s m args c D A cX4_parted 6 RX4 rm_X4_parted N) (hE : En p l e rm_X4_parted s m args below meth c Q D A cX4_parted .ireturn (wC N z1) [.int r])  (s0 : St) (h : F_X4_parted_55 s0 = some (r, z1)) : Aw p l e rm_X4_parted s m args below meth c Q D A 6 (wC N s0) 55 [] [] := by
  unfold F_X4_parted_55 at h
  refine aw_iconst (v := 0) C dX4_parted_55 (by decide) ?_
  cases h
  exact aw_ret hE dX4_parted_56
def F_X4_parted_42 (k5 : St → Int32 → Int32 → Int32 → Int32 → Option (Int32 × St)) (s0 : St) (x1 : Int32) (x2 : Int32) (x3 : Int32) (x4 : Int32) (x5 : Int32) : Option (Int32 × St) :=
  oL (x3 &&& (x5 ^^^ (-1 : Int32))) fun y1 =>
  oL (x4 + (1 : Int32)) fun y2 =>
  k5 s0 x1 x2 y1 y2
set_option maxHeartbeats 4000000 in
set_option maxRecDepth 100000 in
theorem T_X4_parted_42 {r : Int32} {z1 : St} {k5 : St → Int32 → Int32 → Int32 → Int32 → Option (Int32 × St)} (C : Cx p rm_X4_parted s m args c D A cX4_parted 6 RX4 rm_X4_parted N) (hE : En p l e rm_X4_parted s m args below meth c Q D A cX4_parted .ireturn (wC N z1) [.int r]) (hk5 : ∀ (s0 : St) (x1 : Int32) (x2 : Int32) (x3 : Int32) (x4 : Int32), k5 s0 x1 x2 x3 x4 = some (r, z1) → Aw p l e rm_X4_parted s m args below meth c Q D A 6 (wC N s0) 5 [(0, .ref (N.1 4)), (1, .int x1), (2, .int x2), (3, .int x3), (4, .int x4)] []) (s0 : St) (x1 : Int32) (x2 : Int32) (x3 : Int32) (x4 : Int32) (x5 : Int32) (h : F_X4_parted_42 k5 s0 x1 x2 x3 x4 x5 = some (r, z1)) : Aw p l e rm_X4_parted s m args below meth c Q D A 6 (wC N s0) 42 [(0, .ref (N.1 4)), (1, .int x1), (2, .int x2), (3, .int x3), (4, .int x4), (5, .int x5)] [] := by
  unfold F_X4_parted_42 at h
  refine aw_iload_n C 3 dX4_parted_42 rfl ?_
  refine aw_iload C 5 dX4_parted_43 rfl ?_
  refine aw_iconst (v := -1) C dX4_parted_45 (by decide) ?_
  refine aw_ixor C dX4_parted_46 ?_
  refine aw_iand C dX4_parted_47 ?_
  refine aw_topi (fun y1 ey1 => ?_)
  have h := oL_e ey1 h
  refine aw_istore_n (lv' := [(0, .ref (N.1 4)), (1, .int x1), (2, .int x2), (3, .int y1), (4, .int x4), (5, .int x5)]) C [1, 2, 3, 0, 4, 5] dX4_parted_48 rfl (by decide) rfl ?_
  obtain ⟨y2, ey2⟩ : ∃ q : Int32, q = x4 + (1 : Int32) := ⟨_, rfl⟩
  have h := oL_e ey2 h
  refine aw_iinc (v := y2) (k := 4) (lv' := [(0, .ref (N.1 4)), (1, .int x1), (2, .int x2), (3, .int y1), (4, .int y2), (5, .int x5)]) C [1, 2, 3, 4, 0, 5] dX4_parted_49 rfl (by rw [ey2]; rfl) (by decide) rfl ?_
  refine aw_goto (tgt := 5) C dX4_parted_52 (by decide) ?_
  refine aw_sub (lv' := [(0, .ref (N.1 4)), (1, .int x1), (2, .int x2), (3, .int y1), (4, .int y2)]) [0, 1, 2, 3, 4] rfl ?_
  exact hk5 s0 x1 x2 y1 y2 h
def F_X4_parted_5_b (k5 : St → Int32 → Int32 → Int32 → Int32 → Option (Int32 × St)) (s0 : St) (x1 : Int32) (x2 : Int32) (x3 : Int32) (x4 : Int32) : Option (Int32 × St) :=
  if (25 : Int32) ≤ x4 then (
    F_X4_parted_55 s0)
  else (
    if x3 = 0 then (
      F_X4_parted_55 s0)
    else (
      oC (f_X4_firstPiece s0 x3) fun w3 =>
      oL w3.1 fun v1 => oL w3.2 fun s2 =>
      if v1 = x1 then (
        F_X4_parted_42 k5 s2 x1 x2 x3 x4 v1)
      else (
        oC (f_X4_beside s2 v1) fun w6 =>
        oL w6.1 fun v4 => oL w6.2 fun s5 =>
        if v4 &&& x2 = 0 then (
          some ((1 : Int32), s5))
        else (
          F_X4_parted_42 k5 s5 x1 x2 x3 x4 v1))))
set_option maxHeartbeats 4000000 in
set_option maxRecDepth 100000 in
theorem T_X4_parted_5_b {r : Int32} {z1 : St} {k5 : St → Int32 → Int32 → Int32 → Int32 → Option (Int32 × St)} (C : Cx p rm_X4_parted s m args c D A cX4_parted 6 RX4 rm_X4_parted N) (hE : En p l e rm_X4_parted s m args below meth c Q D A cX4_parted .ireturn (wC N z1) [.int r]) (hk5 : ∀ (s0 : St) (x1 : Int32) (x2 : Int32) (x3 : Int32) (x4 : Int32), k5 s0 x1 x2 x3 x4 = some (r, z1) → Aw p l e rm_X4_parted s m args below meth c Q D A 6 (wC N s0) 5 [(0, .ref (N.1 4)), (1, .int x1), (2, .int x2), (3, .int x3), (4, .int x4)] []) (s0 : St) (x1 : Int32) (x2 : Int32) (x3 : Int32) (x4 : Int32) (h : F_X4_parted_5_b k5 s0 x1 x2 x3 x4 = some (r, z1)) : Aw p l e rm_X4_parted s m args below meth c Q D A 6 (wC N s0) 5 [(0, .ref (N.1 4)), (1, .int x1), (2, .int x2), (3, .int x3), (4, .int x4)] [] := by
  unfold F_X4_parted_5_b at h
  refine aw_iload C 4 dX4_parted_5 rfl ?_
  refine aw_bipush (v := 25) C dX4_parted_7 (by decide) ?_
  refine aw_icmp_ge (tgt := 55) C dX4_parted_9 (by decide) (fun q => ?_) (fun q => ?_)
  · have h := bq_t q h
    refine aw_sub (lv' := []) [] rfl ?_
    exact T_X4_parted_55 C hE s0 h
  · have h := bq_f q h
    refine aw_iload_n C 3 dX4_parted_12 rfl ?_
    refine aw_if_eq (tgt := 55) C dX4_parted_13 (by decide) (fun q => ?_) (fun q => ?_)
    · have h := bq_t q h
      refine aw_sub (lv' := []) [] rfl ?_
      exact T_X4_parted_55 C hE s0 h
    · have h := bq_f q h
      refine aw_aload_n C 0 dX4_parted_16 rfl ?_
      refine aw_iload_n C 3 dX4_parted_17 rfl ?_
      obtain ⟨⟨v1, s2⟩, cw3, h⟩ := oC_e h
      have h := oL_e (x := s2) rfl (oL_e (x := v1) rfl h)
      refine aw_callVi (n := 1) (As := [.int x3]) (rest := []) (q0 := 4) C (c_X4_firstPiece l D N s0 s2 x3 v1 cw3) lw_38_3 lw_38_4 lw_38_5 lw_1_15 lw_38_6 rfl rfl (by decide +kernel) ⟨Nat.le_of_ble_eq_true rfl, Nat.le_of_ble_eq_true rfl⟩ rfl rfl rfl rfl rfl (Nat.le_of_ble_eq_true rfl) dX4_parted_18 ?_
      refine aw_istore (lv' := [(0, .ref (N.1 4)), (1, .int x1), (2, .int x2), (3, .int x3), (4, .int x4), (5, .int v1)]) C [1, 2, 3, 4, 5, 0] dX4_parted_21 (by decide) rfl ?_
      refine aw_iload C 5 dX4_parted_23 rfl ?_
      refine aw_iload_n C 1 dX4_parted_25 rfl ?_
      refine aw_icmp_eq (tgt := 42) C dX4_parted_26 (by decide) (fun q => ?_) (fun q => ?_)
      · have h := bq_t q h
        refine aw_sub (lv' := [(0, .ref (N.1 4)), (1, .int x1), (2, .int x2), (3, .int x3), (4, .int x4), (5, .int v1)]) [0, 1, 2, 3, 4, 5] rfl ?_
        exact T_X4_parted_42 C hE hk5 s2 x1 x2 x3 x4 v1 h
      · have h := bq_f q h
        refine aw_aload_n C 0 dX4_parted_29 rfl ?_
        refine aw_iload C 5 dX4_parted_30 rfl ?_
        obtain ⟨⟨v4, s5⟩, cw6, h⟩ := oC_e h
        have h := oL_e (x := s5) rfl (oL_e (x := v4) rfl h)
        refine aw_callVi (n := 1) (As := [.int v1]) (rest := []) (q0 := 4) C (c_X4_beside l D N s2 s5 v1 v4 cw6) lw_38_7 lw_38_8 lw_38_9 lw_1_15 lw_38_10 rfl rfl (by decide +kernel) ⟨Nat.le_of_ble_eq_true rfl, Nat.le_of_ble_eq_true rfl⟩ rfl rfl rfl rfl rfl (Nat.le_of_ble_eq_true rfl) dX4_parted_32 ?_
        refine aw_iload_n C 2 dX4_parted_35 rfl ?_
        refine aw_iand C dX4_parted_36 ?_
        refine aw_if_ne (tgt := 42) C dX4_parted_37 (by decide) (fun q => ?_) (fun q => ?_)
        · have h := bq_f q h
          refine aw_sub (lv' := [(0, .ref (N.1 4)), (1, .int x1), (2, .int x2), (3, .int x3), (4, .int x4), (5, .int v1)]) [0, 1, 2, 3, 4, 5] rfl ?_
          exact T_X4_parted_42 C hE hk5 s5 x1 x2 x3 x4 v1 h
        · have h := bq_t q h
          refine aw_iconst (v := 1) C dX4_parted_40 (by decide) ?_
          cases h
          exact aw_ret hE dX4_parted_41
def F_X4_parted_5 : Nat → St → Int32 → Int32 → Int32 → Int32 → Option (Int32 × St)
  | 0 => fun _ _ _ _ _ => none
  | n + 1 => F_X4_parted_5_b (F_X4_parted_5 n)
theorem T_X4_parted_5 {r : Int32} {z1 : St} (C : Cx p rm_X4_parted s m args c D A cX4_parted 6 RX4 rm_X4_parted N) (hE : En p l e rm_X4_parted s m args below meth c Q D A cX4_parted .ireturn (wC N z1) [.int r])  : ∀ (n : Nat) (s0 : St) (x1 : Int32) (x2 : Int32) (x3 : Int32) (x4 : Int32), F_X4_parted_5 n s0 x1 x2 x3 x4 = some (r, z1) → Aw p l e rm_X4_parted s m args below meth c Q D A 6 (wC N s0) 5 [(0, .ref (N.1 4)), (1, .int x1), (2, .int x2), (3, .int x3), (4, .int x4)] [] := by
  intro n
  induction n with
  | zero => intro s0 x1 x2 x3 x4 h; cases h
  | succ n ih => intro s0 x1 x2 x3 x4 h; exact T_X4_parted_5_b C hE ih s0 x1 x2 x3 x4 h
def F_X4_parted_0 (s0 : St) (x1 : Int32) (x2 : Int32) : Option (Int32 × St) :=
  oL (0 : Int32) fun y1 =>
  F_X4_parted_5 100000 s0 x1 x2 x1 y1
set_option maxHeartbeats 4000000 in
set_option maxRecDepth 100000 in
theorem T_X4_parted_0 {r : Int32} {z1 : St} (C : Cx p rm_X4_parted s m args c D A cX4_parted 6 RX4 rm_X4_parted N) (hE : En p l e rm_X4_parted s m args below meth c Q D A cX4_parted .ireturn (wC N z1) [.int r])  (s0 : St) (x1 : Int32) (x2 : Int32) (h : F_X4_parted_0 s0 x1 x2 = some (r, z1)) : Aw p l e rm_X4_parted s m args below meth c Q D A 6 (wC N s0) 0 [(0, .ref (N.1 4)), (1, .int x1), (2, .int x2)] [] := by
  unfold F_X4_parted_0 at h
  refine aw_iload_n C 1 dX4_parted_0 rfl ?_
  refine aw_istore_n (lv' := [(0, .ref (N.1 4)), (1, .int x1), (2, .int x2), (3, .int x1)]) C [1, 2, 3, 0] dX4_parted_1 rfl (by decide) rfl ?_
  refine aw_iconst (v := 0) C dX4_parted_2 (by decide) ?_
  refine aw_topi (fun y1 ey1 => ?_)
  have h := oL_e ey1 h
  refine aw_istore (lv' := [(0, .ref (N.1 4)), (1, .int x1), (2, .int x2), (3, .int x1), (4, .int y1)]) C [1, 2, 3, 4, 0] dX4_parted_3 (by decide) rfl ?_
  refine aw_sub (lv' := [(0, .ref (N.1 4)), (1, .int x1), (2, .int x2), (3, .int x1), (4, .int y1)]) [0, 1, 2, 3, 4] rfl ?_
  exact T_X4_parted_5 C hE 100000 s0 x1 x2 x1 y1 h
def f_X4_parted (s0 : St) (x1 : Int32) (x2 : Int32) : Option (Int32 × St) := oC (F_X4_parted_0 s0 x1 x2) fun w => oZ w.1 (some w)
theorem c_X4_parted (l : Launch) (D : va_G) (N : Nm) (s0 z1 : St) (x1 : Int32) (x2 : Int32) (r : Int32) (h : f_X4_parted s0 x1 x2 = some (r, z1)) : Meti l yX4_parted (tsU yX4_parted cX4_parted 6 (some .boolean)) rm_X4_parted D N [.ref (N.1 4), .int x1, .int x2] (wC N s0) r (wC N z1) := by
  obtain ⟨w, h1, h2⟩ := oC_e h
  obtain ⟨hz, h2⟩ := oZ_e h2
  cases h2
  exact met_z (cc := cX4_parted) (nL := 6) (own := RX4) (by decide) rfl (Nat.le_of_ble_eq_true rfl) (zN hz) (fun p e s m args below meth c Q A C hE => aw_sub [0, 1, 2] rfl (T_X4_parted_0 C hE s0 x1 x2 h1))
/-! AwardLine$Land.pipes(II)I -/
def rm_X4_pipes : Room := { frames := 1, cells := 0, slots := 0, locals := 20 }
def F_X4_pipes_72 (k5 : St → Int32 → Int32 → Int32 → Int32 → Option (Int32 × St)) (s0 : St) (x1 : Int32) (x2 : Int32) (x3 : Int32) (x4 : Int32) : Option (Int32 × St) :=
  oL (x4 + (1 : Int32)) fun y1 =>
  k5 s0 x1 x2 x3 y1
set_option maxHeartbeats 4000000 in
set_option maxRecDepth 100000 in
theorem T_X4_pipes_72 {r : Int32} {z1 : St} {k5 : St → Int32 → Int32 → Int32 → Int32 → Option (Int32 × St)} (C : Cx p rm_X4_pipes s m args c D A cX4_pipes 6 RX4 rm_X4_pipes N) (hE : En p l e rm_X4_pipes s m args below meth c Q D A cX4_pipes .ireturn (wC N z1) [.int r]) (hk5 : ∀ (s0 : St) (x1 : Int32) (x2 : Int32) (x3 : Int32) (x4 : Int32), k5 s0 x1 x2 x3 x4 = some (r, z1) → Aw p l e rm_X4_pipes s m args below meth c Q D A 6 (wC N s0) 5 [(0, .ref (N.1 4)), (1, .int x1), (2, .int x2), (3, .int x3), (4, .int x4)] []) (s0 : St) (x1 : Int32) (x2 : Int32) (x3 : Int32) (x4 : Int32) (h : F_X4_pipes_72 k5 s0 x1 x2 x3 x4 = some (r, z1)) : Aw p l e rm_X4_pipes s m args below meth c Q D A 6 (wC N s0) 72 [(0, .ref (N.1 4)), (1, .int x1), (2, .int x2), (3, .int x3), (4, .int x4)] [] := by
  unfold F_X4_pipes_72 at h
  obtain ⟨y1, ey1⟩ : ∃ q : Int32, q = x4 + (1 : Int32) := ⟨_, rfl⟩
  have h := oL_e ey1 h
  refine aw_iinc (v := y1) (k := 4) (lv' := [(0, .ref (N.1 4)), (1, .int x1), (2, .int x2), (3, .int x3), (4, .int y1)]) C [1, 2, 3, 4, 0] dX4_pipes_72 rfl (by rw [ey1]; rfl) (by decide) rfl ?_
  refine aw_goto (tgt := 5) C dX4_pipes_75 (by decide) ?_
  refine aw_sub (lv' := [(0, .ref (N.1 4)), (1, .int x1), (2, .int x2), (3, .int x3), (4, .int y1)]) [0, 1, 2, 3, 4] rfl ?_
  exact hk5 s0 x1 x2 x3 y1 h
def F_X4_pipes_5_b (k5 : St → Int32 → Int32 → Int32 → Int32 → Option (Int32 × St)) (s0 : St) (x1 : Int32) (x2 : Int32) (x3 : Int32) (x4 : Int32) : Option (Int32 × St) :=
  if (s0.1 25) ≤ x4 then (
    some (x3, s0))
  else (
    oA x4 6 <|
    oL ((1 : Int32) <<< ((s0.2.1 9 (Int32.toNatClampNeg x4)) &&& 31)) fun y2 =>
    if y2 &&& x1 = 0 then (
      if y2 &&& x2 = 0 then (
        F_X4_pipes_72 k5 s0 x1 x2 x3 x4)
      else (
        oA x4 6 <|
        oC (f_J6_bitCount_0f7a4 s0 ((s0.2.1 10 (Int32.toNatClampNeg x4)) &&& x1)) fun w6 =>
        oL w6.1 fun v4 => oL w6.2 fun s5 =>
        oL (x3 + v4) fun y7 =>
        F_X4_pipes_72 k5 s5 x1 x2 y7 x4))
    else (
      oA x4 6 <|
      oC (f_J6_bitCount_0f7a4 s0 ((s0.2.1 10 (Int32.toNatClampNeg x4)) &&& x2)) fun w11 =>
      oL w11.1 fun v9 => oL w11.2 fun s10 =>
      oL (x3 + v9) fun y12 =>
      F_X4_pipes_72 k5 s10 x1 x2 y12 x4))
set_option maxHeartbeats 4000000 in
set_option maxRecDepth 100000 in
theorem T_X4_pipes_5_b {r : Int32} {z1 : St} {k5 : St → Int32 → Int32 → Int32 → Int32 → Option (Int32 × St)} (C : Cx p rm_X4_pipes s m args c D A cX4_pipes 6 RX4 rm_X4_pipes N) (hE : En p l e rm_X4_pipes s m args below meth c Q D A cX4_pipes .ireturn (wC N z1) [.int r]) (hk5 : ∀ (s0 : St) (x1 : Int32) (x2 : Int32) (x3 : Int32) (x4 : Int32), k5 s0 x1 x2 x3 x4 = some (r, z1) → Aw p l e rm_X4_pipes s m args below meth c Q D A 6 (wC N s0) 5 [(0, .ref (N.1 4)), (1, .int x1), (2, .int x2), (3, .int x3), (4, .int x4)] []) (s0 : St) (x1 : Int32) (x2 : Int32) (x3 : Int32) (x4 : Int32) (h : F_X4_pipes_5_b k5 s0 x1 x2 x3 x4 = some (r, z1)) : Aw p l e rm_X4_pipes s m args below meth c Q D A 6 (wC N s0) 5 [(0, .ref (N.1 4)), (1, .int x1), (2, .int x2), (3, .int x3), (4, .int x4)] [] := by
  unfold F_X4_pipes_5_b at h
  refine aw_iload C 4 dX4_pipes_5 rfl ?_
  refine aw_aload_n C 0 dX4_pipes_7 rfl ?_
  refine cg_ln_canals C lw_4_3 dX4_pipes_8 ?_
  refine aw_icmp_ge (tgt := 78) C dX4_pipes_11 (by decide) (fun q => ?_) (fun q => ?_)
  · have h := bq_t q h
    refine aw_iload_n C 3 dX4_pipes_78 rfl ?_
    cases h
    exact aw_ret hE dX4_pipes_79
  · have h := bq_f q h
    refine aw_iconst (v := 1) C dX4_pipes_14 (by decide) ?_
    refine aw_aload_n C 0 dX4_pipes_15 rfl ?_
    refine cg_ln_headOf C lw_3_14 dX4_pipes_16 ?_
    refine aw_iload C 4 dX4_pipes_19 rfl ?_
    obtain ⟨q1, h⟩ := oA_e h
    refine ca_iald (k := 9) C (by decide) rfl q1 dX4_pipes_21 ?_
    refine aw_ishl C dX4_pipes_22 ?_
    refine aw_topi (fun y2 ey2 => ?_)
    have h := oL_e ey2 h
    refine aw_istore (lv' := [(0, .ref (N.1 4)), (1, .int x1), (2, .int x2), (3, .int x3), (4, .int x4), (5, .int y2)]) C [1, 2, 3, 4, 5, 0] dX4_pipes_23 (by decide) rfl ?_
    refine aw_iload C 5 dX4_pipes_25 rfl ?_
    refine aw_iload_n C 1 dX4_pipes_27 rfl ?_
    refine aw_iand C dX4_pipes_28 ?_
    refine aw_if_eq (tgt := 50) C dX4_pipes_29 (by decide) (fun q => ?_) (fun q => ?_)
    · have h := bq_t q h
      refine aw_iload C 5 dX4_pipes_50 rfl ?_
      refine aw_iload_n C 2 dX4_pipes_52 rfl ?_
      refine aw_iand C dX4_pipes_53 ?_
      refine aw_if_eq (tgt := 72) C dX4_pipes_54 (by decide) (fun q => ?_) (fun q => ?_)
      · have h := bq_t q h
        refine aw_sub (lv' := [(0, .ref (N.1 4)), (1, .int x1), (2, .int x2), (3, .int x3), (4, .int x4)]) [0, 1, 2, 3, 4] rfl ?_
        exact T_X4_pipes_72 C hE hk5 s0 x1 x2 x3 x4 h
      · have h := bq_f q h
        refine aw_iload_n C 3 dX4_pipes_57 rfl ?_
        refine aw_aload_n C 0 dX4_pipes_58 rfl ?_
        refine cg_ln_drinkers C lw_3_15 dX4_pipes_59 ?_
        refine aw_iload C 4 dX4_pipes_62 rfl ?_
        obtain ⟨q3, h⟩ := oA_e h
        refine ca_iald (k := 10) C (by decide) rfl q3 dX4_pipes_64 ?_
        refine aw_iload_n C 1 dX4_pipes_65 rfl ?_
        refine aw_iand C dX4_pipes_66 ?_
        obtain ⟨⟨v4, s5⟩, cw6, h⟩ := oC_e h
        have h := oL_e (x := s5) rfl (oL_e (x := v4) rfl h)
        refine aw_callSi (n := 1) (As := [.int ((s0.2.1 10 (Int32.toNatClampNeg x4)) &&& x1)]) (rest := [.int x3]) C (c_J6_bitCount_0f7a4 l D N s0 s5 ((s0.2.1 10 (Int32.toNatClampNeg x4)) &&& x1) v4 cw6) lw_30_14 lw_30_15 lw_30_16 lw_30_17 rfl rfl (by decide +kernel) ⟨Nat.le_of_ble_eq_true rfl, Nat.le_of_ble_eq_true rfl⟩ rfl rfl (Nat.le_of_ble_eq_true rfl) dX4_pipes_67 ?_
        refine aw_iadd C dX4_pipes_70 ?_
        refine aw_topi (fun y7 ey7 => ?_)
        have h := oL_e ey7 h
        refine aw_istore_n (lv' := [(0, .ref (N.1 4)), (1, .int x1), (2, .int x2), (3, .int y7), (4, .int x4), (5, .int y2)]) C [1, 2, 3, 0, 4, 5] dX4_pipes_71 rfl (by decide) rfl ?_
        refine aw_sub (lv' := [(0, .ref (N.1 4)), (1, .int x1), (2, .int x2), (3, .int y7), (4, .int x4)]) [0, 1, 2, 3, 4] rfl ?_
        exact T_X4_pipes_72 C hE hk5 s5 x1 x2 y7 x4 h
    · have h := bq_f q h
      refine aw_iload_n C 3 dX4_pipes_32 rfl ?_
      refine aw_aload_n C 0 dX4_pipes_33 rfl ?_
      refine cg_ln_drinkers C lw_3_15 dX4_pipes_34 ?_
      refine aw_iload C 4 dX4_pipes_37 rfl ?_
      obtain ⟨q8, h⟩ := oA_e h
      refine ca_iald (k := 10) C (by decide) rfl q8 dX4_pipes_39 ?_
      refine aw_iload_n C 2 dX4_pipes_40 rfl ?_
      refine aw_iand C dX4_pipes_41 ?_
      obtain ⟨⟨v9, s10⟩, cw11, h⟩ := oC_e h
      have h := oL_e (x := s10) rfl (oL_e (x := v9) rfl h)
      refine aw_callSi (n := 1) (As := [.int ((s0.2.1 10 (Int32.toNatClampNeg x4)) &&& x2)]) (rest := [.int x3]) C (c_J6_bitCount_0f7a4 l D N s0 s10 ((s0.2.1 10 (Int32.toNatClampNeg x4)) &&& x2) v9 cw11) lw_30_14 lw_30_15 lw_30_16 lw_30_17 rfl rfl (by decide +kernel) ⟨Nat.le_of_ble_eq_true rfl, Nat.le_of_ble_eq_true rfl⟩ rfl rfl (Nat.le_of_ble_eq_true rfl) dX4_pipes_42 ?_
      refine aw_iadd C dX4_pipes_45 ?_
      refine aw_topi (fun y12 ey12 => ?_)
      have h := oL_e ey12 h
      refine aw_istore_n (lv' := [(0, .ref (N.1 4)), (1, .int x1), (2, .int x2), (3, .int y12), (4, .int x4), (5, .int y2)]) C [1, 2, 3, 0, 4, 5] dX4_pipes_46 rfl (by decide) rfl ?_
      refine aw_goto (tgt := 72) C dX4_pipes_47 (by decide) ?_
      refine aw_sub (lv' := [(0, .ref (N.1 4)), (1, .int x1), (2, .int x2), (3, .int y12), (4, .int x4)]) [0, 1, 2, 3, 4] rfl ?_
      exact T_X4_pipes_72 C hE hk5 s10 x1 x2 y12 x4 h
def F_X4_pipes_5 : Nat → St → Int32 → Int32 → Int32 → Int32 → Option (Int32 × St)
  | 0 => fun _ _ _ _ _ => none
  | n + 1 => F_X4_pipes_5_b (F_X4_pipes_5 n)
theorem T_X4_pipes_5 {r : Int32} {z1 : St} (C : Cx p rm_X4_pipes s m args c D A cX4_pipes 6 RX4 rm_X4_pipes N) (hE : En p l e rm_X4_pipes s m args below meth c Q D A cX4_pipes .ireturn (wC N z1) [.int r])  : ∀ (n : Nat) (s0 : St) (x1 : Int32) (x2 : Int32) (x3 : Int32) (x4 : Int32), F_X4_pipes_5 n s0 x1 x2 x3 x4 = some (r, z1) → Aw p l e rm_X4_pipes s m args below meth c Q D A 6 (wC N s0) 5 [(0, .ref (N.1 4)), (1, .int x1), (2, .int x2), (3, .int x3), (4, .int x4)] [] := by
  intro n
  induction n with
  | zero => intro s0 x1 x2 x3 x4 h; cases h
  | succ n ih => intro s0 x1 x2 x3 x4 h; exact T_X4_pipes_5_b C hE ih s0 x1 x2 x3 x4 h
def F_X4_pipes_0 (s0 : St) (x1 : Int32) (x2 : Int32) : Option (Int32 × St) :=
  oL (0 : Int32) fun y1 =>
  oL (0 : Int32) fun y2 =>
  F_X4_pipes_5 100000 s0 x1 x2 y1 y2
set_option maxHeartbeats 4000000 in
set_option maxRecDepth 100000 in
theorem T_X4_pipes_0 {r : Int32} {z1 : St} (C : Cx p rm_X4_pipes s m args c D A cX4_pipes 6 RX4 rm_X4_pipes N) (hE : En p l e rm_X4_pipes s m args below meth c Q D A cX4_pipes .ireturn (wC N z1) [.int r])  (s0 : St) (x1 : Int32) (x2 : Int32) (h : F_X4_pipes_0 s0 x1 x2 = some (r, z1)) : Aw p l e rm_X4_pipes s m args below meth c Q D A 6 (wC N s0) 0 [(0, .ref (N.1 4)), (1, .int x1), (2, .int x2)] [] := by
  unfold F_X4_pipes_0 at h
  refine aw_iconst (v := 0) C dX4_pipes_0 (by decide) ?_
  refine aw_topi (fun y1 ey1 => ?_)
  have h := oL_e ey1 h
  refine aw_istore_n (lv' := [(0, .ref (N.1 4)), (1, .int x1), (2, .int x2), (3, .int y1)]) C [1, 2, 3, 0] dX4_pipes_1 rfl (by decide) rfl ?_
  refine aw_iconst (v := 0) C dX4_pipes_2 (by decide) ?_
  refine aw_topi (fun y2 ey2 => ?_)
  have h := oL_e ey2 h
  refine aw_istore (lv' := [(0, .ref (N.1 4)), (1, .int x1), (2, .int x2), (3, .int y1), (4, .int y2)]) C [1, 2, 3, 4, 0] dX4_pipes_3 (by decide) rfl ?_
  refine aw_sub (lv' := [(0, .ref (N.1 4)), (1, .int x1), (2, .int x2), (3, .int y1), (4, .int y2)]) [0, 1, 2, 3, 4] rfl ?_
  exact T_X4_pipes_5 C hE 100000 s0 x1 x2 y1 y2 h
def f_X4_pipes (s0 : St) (x1 : Int32) (x2 : Int32) : Option (Int32 × St) := F_X4_pipes_0 s0 x1 x2
theorem c_X4_pipes (l : Launch) (D : va_G) (N : Nm) (s0 z1 : St) (x1 : Int32) (x2 : Int32) (r : Int32) (h : f_X4_pipes s0 x1 x2 = some (r, z1)) : Meti l yX4_pipes (tsU yX4_pipes cX4_pipes 6 (some .int)) rm_X4_pipes D N [.ref (N.1 4), .int x1, .int x2] (wC N s0) r (wC N z1) :=
  met_i (cc := cX4_pipes) (nL := 6) (own := RX4) (by decide) rfl (Nat.le_of_ble_eq_true rfl) (fun p e s m args below meth c Q A C hE => aw_sub [0, 1, 2] rfl (T_X4_pipes_0 C hE s0 x1 x2 h))
/-! AwardLine$Land.tracks(II)I -/
def rm_X4_tracks : Room := { frames := 1, cells := 0, slots := 0, locals := 24 }
def F_X4_tracks_0 (s0 : St) (x1 : Int32) (x2 : Int32) : Option (Int32 × St) :=
  if ((s0.1 23) >>> (x1 &&& 31)) &&& (1 : Int32) = 0 then (
    some ((0 : Int32), s0))
  else (
    oC (f_X4_beside s0 ((1 : Int32) <<< (x1 &&& 31))) fun w3 =>
    oL w3.1 fun v1 => oL w3.2 fun s2 =>
    oC (f_J6_bitCount_0f7a4 s2 ((v1 &&& x2) &&& (s2.1 23))) fun w6 =>
    oL w6.1 fun v4 => oL w6.2 fun s5 =>
    some (v4, s5))
set_option maxHeartbeats 4000000 in
set_option maxRecDepth 100000 in
theorem T_X4_tracks_0 {r : Int32} {z1 : St} (C : Cx p rm_X4_tracks s m args c D A cX4_tracks 3 RX4 rm_X4_tracks N) (hE : En p l e rm_X4_tracks s m args below meth c Q D A cX4_tracks .ireturn (wC N z1) [.int r])  (s0 : St) (x1 : Int32) (x2 : Int32) (h : F_X4_tracks_0 s0 x1 x2 = some (r, z1)) : Aw p l e rm_X4_tracks s m args below meth c Q D A 3 (wC N s0) 0 [(0, .ref (N.1 4)), (1, .int x1), (2, .int x2)] [] := by
  unfold F_X4_tracks_0 at h
  refine aw_aload_n C 0 dX4_tracks_0 rfl ?_
  refine cg_ln_rails C lw_4_1 dX4_tracks_1 ?_
  refine aw_iload_n C 1 dX4_tracks_4 rfl ?_
  refine aw_ishr C dX4_tracks_5 ?_
  refine aw_iconst (v := 1) C dX4_tracks_6 (by decide) ?_
  refine aw_iand C dX4_tracks_7 ?_
  refine aw_if_ne (tgt := 13) C dX4_tracks_8 (by decide) (fun q => ?_) (fun q => ?_)
  · have h := bq_f q h
    refine aw_aload_n C 0 dX4_tracks_13 rfl ?_
    refine aw_iconst (v := 1) C dX4_tracks_14 (by decide) ?_
    refine aw_iload_n C 1 dX4_tracks_15 rfl ?_
    refine aw_ishl C dX4_tracks_16 ?_
    obtain ⟨⟨v1, s2⟩, cw3, h⟩ := oC_e h
    have h := oL_e (x := s2) rfl (oL_e (x := v1) rfl h)
    refine aw_callVi (n := 1) (As := [.int ((1 : Int32) <<< (x1 &&& 31))]) (rest := []) (q0 := 4) C (c_X4_beside l D N s0 s2 ((1 : Int32) <<< (x1 &&& 31)) v1 cw3) lw_38_7 lw_38_8 lw_38_9 lw_1_15 lw_38_10 rfl rfl (by decide +kernel) ⟨Nat.le_of_ble_eq_true rfl, Nat.le_of_ble_eq_true rfl⟩ rfl rfl rfl rfl rfl (Nat.le_of_ble_eq_true rfl) dX4_tracks_17 ?_
    refine aw_iload_n C 2 dX4_tracks_20 rfl ?_
    refine aw_iand C dX4_tracks_21 ?_
    refine aw_aload_n C 0 dX4_tracks_22 rfl ?_
    refine cg_ln_rails C lw_4_1 dX4_tracks_23 ?_
    refine aw_iand C dX4_tracks_26 ?_
    obtain ⟨⟨v4, s5⟩, cw6, h⟩ := oC_e h
    have h := oL_e (x := s5) rfl (oL_e (x := v4) rfl h)
    refine aw_callSi (n := 1) (As := [.int ((v1 &&& x2) &&& (s2.1 23))]) (rest := []) C (c_J6_bitCount_0f7a4 l D N s2 s5 ((v1 &&& x2) &&& (s2.1 23)) v4 cw6) lw_30_14 lw_30_15 lw_30_16 lw_30_17 rfl rfl (by decide +kernel) ⟨Nat.le_of_ble_eq_true rfl, Nat.le_of_ble_eq_true rfl⟩ rfl rfl (Nat.le_of_ble_eq_true rfl) dX4_tracks_27 ?_
    cases h
    exact aw_ret hE dX4_tracks_30
  · have h := bq_t q h
    refine aw_iconst (v := 0) C dX4_tracks_11 (by decide) ?_
    cases h
    exact aw_ret hE dX4_tracks_12
def f_X4_tracks (s0 : St) (x1 : Int32) (x2 : Int32) : Option (Int32 × St) := F_X4_tracks_0 s0 x1 x2
theorem c_X4_tracks (l : Launch) (D : va_G) (N : Nm) (s0 z1 : St) (x1 : Int32) (x2 : Int32) (r : Int32) (h : f_X4_tracks s0 x1 x2 = some (r, z1)) : Meti l yX4_tracks (tsU yX4_tracks cX4_tracks 3 (some .int)) rm_X4_tracks D N [.ref (N.1 4), .int x1, .int x2] (wC N s0) r (wC N z1) :=
  met_i (cc := cX4_tracks) (nL := 3) (own := RX4) (by decide) rfl (Nat.le_of_ble_eq_true rfl) (fun p e s m args below meth c Q A C hE => aw_sub [0, 1, 2] rfl (T_X4_tracks_0 C hE s0 x1 x2 h))
/-! AwardLine$Land.cut(I)I -/
def rm_X4_cut : Room := { frames := 2, cells := 0, slots := 0, locals := 45 }
def F_X4_cut_0 (s0 : St) (x1 : Int32) : Option (Int32 × St) :=
  oC (f_X4_pipes s0 x1 ((s0.1 22) &&& (x1 ^^^ (-1 : Int32)))) fun w3 =>
  oL w3.1 fun v1 => oL w3.2 fun s2 =>
  some (v1, s2)
set_option maxHeartbeats 4000000 in
set_option maxRecDepth 100000 in
theorem T_X4_cut_0 {r : Int32} {z1 : St} (C : Cx p rm_X4_cut s m args c D A cX4_cut 2 RX4 rm_X4_cut N) (hE : En p l e rm_X4_cut s m args below meth c Q D A cX4_cut .ireturn (wC N z1) [.int r])  (s0 : St) (x1 : Int32) (h : F_X4_cut_0 s0 x1 = some (r, z1)) : Aw p l e rm_X4_cut s m args below meth c Q D A 2 (wC N s0) 0 [(0, .ref (N.1 4)), (1, .int x1)] [] := by
  unfold F_X4_cut_0 at h
  refine aw_aload_n C 0 dX4_cut_0 rfl ?_
  refine aw_iload_n C 1 dX4_cut_1 rfl ?_
  refine aw_aload_n C 0 dX4_cut_2 rfl ?_
  refine cg_ln_all C lw_3_22 dX4_cut_3 ?_
  refine aw_iload_n C 1 dX4_cut_6 rfl ?_
  refine aw_iconst (v := -1) C dX4_cut_7 (by decide) ?_
  refine aw_ixor C dX4_cut_8 ?_
  refine aw_iand C dX4_cut_9 ?_
  obtain ⟨⟨v1, s2⟩, cw3, h⟩ := oC_e h
  have h := oL_e (x := s2) rfl (oL_e (x := v1) rfl h)
  refine aw_callVi (n := 2) (As := [.int x1, .int ((s0.1 22) &&& (x1 ^^^ (-1 : Int32)))]) (rest := []) (q0 := 4) C (c_X4_pipes l D N s0 s2 x1 ((s0.1 22) &&& (x1 ^^^ (-1 : Int32))) v1 cw3) lw_38_15 lw_38_16 lw_38_17 lw_1_15 lw_38_18 rfl rfl (by decide +kernel) ⟨Nat.le_of_ble_eq_true rfl, Nat.le_of_ble_eq_true rfl⟩ rfl rfl rfl rfl rfl (Nat.le_of_ble_eq_true rfl) dX4_cut_10 ?_
  cases h
  exact aw_ret hE dX4_cut_13
def f_X4_cut (s0 : St) (x1 : Int32) : Option (Int32 × St) := F_X4_cut_0 s0 x1
theorem c_X4_cut (l : Launch) (D : va_G) (N : Nm) (s0 z1 : St) (x1 : Int32) (r : Int32) (h : f_X4_cut s0 x1 = some (r, z1)) : Meti l yX4_cut (tsU yX4_cut cX4_cut 2 (some .int)) rm_X4_cut D N [.ref (N.1 4), .int x1] (wC N s0) r (wC N z1) :=
  met_i (cc := cX4_cut) (nL := 2) (own := RX4) (by decide) rfl (Nat.le_of_ble_eq_true rfl) (fun p e s m args below meth c Q A C hE => aw_sub [0, 1] rfl (T_X4_cut_0 C hE s0 x1 h))
/-! AwardLine$Land.severed(I)I -/
def rm_X4_severed : Room := { frames := 2, cells := 0, slots := 0, locals := 46 }
def F_X4_severed_36 (k4 : St → Int32 → Int32 → Int32 → Option (Int32 × St)) (s0 : St) (x1 : Int32) (x2 : Int32) (x3 : Int32) : Option (Int32 × St) :=
  oL (x3 + (1 : Int32)) fun y1 =>
  k4 s0 x1 x2 y1
set_option maxHeartbeats 4000000 in
set_option maxRecDepth 100000 in
theorem T_X4_severed_36 {r : Int32} {z1 : St} {k4 : St → Int32 → Int32 → Int32 → Option (Int32 × St)} (C : Cx p rm_X4_severed s m args c D A cX4_severed 4 RX4 rm_X4_severed N) (hE : En p l e rm_X4_severed s m args below meth c Q D A cX4_severed .ireturn (wC N z1) [.int r]) (hk4 : ∀ (s0 : St) (x1 : Int32) (x2 : Int32) (x3 : Int32), k4 s0 x1 x2 x3 = some (r, z1) → Aw p l e rm_X4_severed s m args below meth c Q D A 4 (wC N s0) 4 [(0, .ref (N.1 4)), (1, .int x1), (2, .int x2), (3, .int x3)] []) (s0 : St) (x1 : Int32) (x2 : Int32) (x3 : Int32) (h : F_X4_severed_36 k4 s0 x1 x2 x3 = some (r, z1)) : Aw p l e rm_X4_severed s m args below meth c Q D A 4 (wC N s0) 36 [(0, .ref (N.1 4)), (1, .int x1), (2, .int x2), (3, .int x3)] [] := by
  unfold F_X4_severed_36 at h
  obtain ⟨y1, ey1⟩ : ∃ q : Int32, q = x3 + (1 : Int32) := ⟨_, rfl⟩
  have h := oL_e ey1 h
  refine aw_iinc (v := y1) (k := 3) (lv' := [(0, .ref (N.1 4)), (1, .int x1), (2, .int x2), (3, .int y1)]) C [1, 2, 3, 0] dX4_severed_36 rfl (by rw [ey1]; rfl) (by decide) rfl ?_
  refine aw_goto (tgt := 4) C dX4_severed_39 (by decide) ?_
  refine aw_sub (lv' := [(0, .ref (N.1 4)), (1, .int x1), (2, .int x2), (3, .int y1)]) [0, 1, 2, 3] rfl ?_
  exact hk4 s0 x1 x2 y1 h
def F_X4_severed_4_b (k4 : St → Int32 → Int32 → Int32 → Option (Int32 × St)) (s0 : St) (x1 : Int32) (x2 : Int32) (x3 : Int32) : Option (Int32 × St) :=
  if (s0.1 21) ≤ x3 then (
    some (x2, s0))
  else (
    if (x1 >>> (x3 &&& 31)) &&& (1 : Int32) = 0 then (
      F_X4_severed_36 k4 s0 x1 x2 x3)
    else (
      oC (f_X4_tracks s0 x3 ((s0.1 22) &&& (x1 ^^^ (-1 : Int32)))) fun w3 =>
      oL w3.1 fun v1 => oL w3.2 fun s2 =>
      oL (x2 + v1) fun y4 =>
      F_X4_severed_36 k4 s2 x1 y4 x3))
set_option maxHeartbeats 4000000 in
set_option maxRecDepth 100000 in
theorem T_X4_severed_4_b {r : Int32} {z1 : St} {k4 : St → Int32 → Int32 → Int32 → Option (Int32 × St)} (C : Cx p rm_X4_severed s m args c D A cX4_severed 4 RX4 rm_X4_severed N) (hE : En p l e rm_X4_severed s m args below meth c Q D A cX4_severed .ireturn (wC N z1) [.int r]) (hk4 : ∀ (s0 : St) (x1 : Int32) (x2 : Int32) (x3 : Int32), k4 s0 x1 x2 x3 = some (r, z1) → Aw p l e rm_X4_severed s m args below meth c Q D A 4 (wC N s0) 4 [(0, .ref (N.1 4)), (1, .int x1), (2, .int x2), (3, .int x3)] []) (s0 : St) (x1 : Int32) (x2 : Int32) (x3 : Int32) (h : F_X4_severed_4_b k4 s0 x1 x2 x3 = some (r, z1)) : Aw p l e rm_X4_severed s m args below meth c Q D A 4 (wC N s0) 4 [(0, .ref (N.1 4)), (1, .int x1), (2, .int x2), (3, .int x3)] [] := by
  unfold F_X4_severed_4_b at h
  refine aw_iload_n C 3 dX4_severed_4 rfl ?_
  refine aw_aload_n C 0 dX4_severed_5 rfl ?_
  refine cg_ln_size C lw_3_21 dX4_severed_6 ?_
  refine aw_icmp_ge (tgt := 42) C dX4_severed_9 (by decide) (fun q => ?_) (fun q => ?_)
  · have h := bq_t q h
    refine aw_iload_n C 2 dX4_severed_42 rfl ?_
    cases h
    exact aw_ret hE dX4_severed_43
  · have h := bq_f q h
    refine aw_iload_n C 1 dX4_severed_12 rfl ?_
    refine aw_iload_n C 3 dX4_severed_13 rfl ?_
    refine aw_ishr C dX4_severed_14 ?_
    refine aw_iconst (v := 1) C dX4_severed_15 (by decide) ?_
    refine aw_iand C dX4_severed_16 ?_
    refine aw_if_eq (tgt := 36) C dX4_severed_17 (by decide) (fun q => ?_) (fun q => ?_)
    · have h := bq_t q h
      refine aw_sub (lv' := [(0, .ref (N.1 4)), (1, .int x1), (2, .int x2), (3, .int x3)]) [0, 1, 2, 3] rfl ?_
      exact T_X4_severed_36 C hE hk4 s0 x1 x2 x3 h
    · have h := bq_f q h
      refine aw_iload_n C 2 dX4_severed_20 rfl ?_
      refine aw_aload_n C 0 dX4_severed_21 rfl ?_
      refine aw_iload_n C 3 dX4_severed_22 rfl ?_
      refine aw_aload_n C 0 dX4_severed_23 rfl ?_
      refine cg_ln_all C lw_3_22 dX4_severed_24 ?_
      refine aw_iload_n C 1 dX4_severed_27 rfl ?_
      refine aw_iconst (v := -1) C dX4_severed_28 (by decide) ?_
      refine aw_ixor C dX4_severed_29 ?_
      refine aw_iand C dX4_severed_30 ?_
      obtain ⟨⟨v1, s2⟩, cw3, h⟩ := oC_e h
      have h := oL_e (x := s2) rfl (oL_e (x := v1) rfl h)
      refine aw_callVi (n := 2) (As := [.int x3, .int ((s0.1 22) &&& (x1 ^^^ (-1 : Int32)))]) (rest := [.int x2]) (q0 := 4) C (c_X4_tracks l D N s0 s2 x3 ((s0.1 22) &&& (x1 ^^^ (-1 : Int32))) v1 cw3) lw_38_23 lw_39_0 lw_39_1 lw_1_15 lw_39_2 rfl rfl (by decide +kernel) ⟨Nat.le_of_ble_eq_true rfl, Nat.le_of_ble_eq_true rfl⟩ rfl rfl rfl rfl rfl (Nat.le_of_ble_eq_true rfl) dX4_severed_31 ?_
      refine aw_iadd C dX4_severed_34 ?_
      refine aw_topi (fun y4 ey4 => ?_)
      have h := oL_e ey4 h
      refine aw_istore_n (lv' := [(0, .ref (N.1 4)), (1, .int x1), (2, .int y4), (3, .int x3)]) C [1, 2, 0, 3] dX4_severed_35 rfl (by decide) rfl ?_
      refine aw_sub (lv' := [(0, .ref (N.1 4)), (1, .int x1), (2, .int y4), (3, .int x3)]) [0, 1, 2, 3] rfl ?_
      exact T_X4_severed_36 C hE hk4 s2 x1 y4 x3 h
def F_X4_severed_4 : Nat → St → Int32 → Int32 → Int32 → Option (Int32 × St)
  | 0 => fun _ _ _ _ => none
  | n + 1 => F_X4_severed_4_b (F_X4_severed_4 n)
theorem T_X4_severed_4 {r : Int32} {z1 : St} (C : Cx p rm_X4_severed s m args c D A cX4_severed 4 RX4 rm_X4_severed N) (hE : En p l e rm_X4_severed s m args below meth c Q D A cX4_severed .ireturn (wC N z1) [.int r])  : ∀ (n : Nat) (s0 : St) (x1 : Int32) (x2 : Int32) (x3 : Int32), F_X4_severed_4 n s0 x1 x2 x3 = some (r, z1) → Aw p l e rm_X4_severed s m args below meth c Q D A 4 (wC N s0) 4 [(0, .ref (N.1 4)), (1, .int x1), (2, .int x2), (3, .int x3)] [] := by
  intro n
  induction n with
  | zero => intro s0 x1 x2 x3 h; cases h
  | succ n ih => intro s0 x1 x2 x3 h; exact T_X4_severed_4_b C hE ih s0 x1 x2 x3 h
def F_X4_severed_0 (s0 : St) (x1 : Int32) : Option (Int32 × St) :=
  oL (0 : Int32) fun y1 =>
  oL (0 : Int32) fun y2 =>
  F_X4_severed_4 100000 s0 x1 y1 y2
set_option maxHeartbeats 4000000 in
set_option maxRecDepth 100000 in
theorem T_X4_severed_0 {r : Int32} {z1 : St} (C : Cx p rm_X4_severed s m args c D A cX4_severed 4 RX4 rm_X4_severed N) (hE : En p l e rm_X4_severed s m args below meth c Q D A cX4_severed .ireturn (wC N z1) [.int r])  (s0 : St) (x1 : Int32) (h : F_X4_severed_0 s0 x1 = some (r, z1)) : Aw p l e rm_X4_severed s m args below meth c Q D A 4 (wC N s0) 0 [(0, .ref (N.1 4)), (1, .int x1)] [] := by
  unfold F_X4_severed_0 at h
  refine aw_iconst (v := 0) C dX4_severed_0 (by decide) ?_
  refine aw_topi (fun y1 ey1 => ?_)
  have h := oL_e ey1 h
  refine aw_istore_n (lv' := [(0, .ref (N.1 4)), (1, .int x1), (2, .int y1)]) C [1, 2, 0] dX4_severed_1 rfl (by decide) rfl ?_
  refine aw_iconst (v := 0) C dX4_severed_2 (by decide) ?_
  refine aw_topi (fun y2 ey2 => ?_)
  have h := oL_e ey2 h
  refine aw_istore_n (lv' := [(0, .ref (N.1 4)), (1, .int x1), (2, .int y1), (3, .int y2)]) C [1, 2, 3, 0] dX4_severed_3 rfl (by decide) rfl ?_
  refine aw_sub (lv' := [(0, .ref (N.1 4)), (1, .int x1), (2, .int y1), (3, .int y2)]) [0, 1, 2, 3] rfl ?_
  exact T_X4_severed_4 C hE 100000 s0 x1 y1 y2 h
def f_X4_severed (s0 : St) (x1 : Int32) : Option (Int32 × St) := F_X4_severed_0 s0 x1
theorem c_X4_severed (l : Launch) (D : va_G) (N : Nm) (s0 z1 : St) (x1 : Int32) (r : Int32) (h : f_X4_severed s0 x1 = some (r, z1)) : Meti l yX4_severed (tsU yX4_severed cX4_severed 4 (some .int)) rm_X4_severed D N [.ref (N.1 4), .int x1] (wC N s0) r (wC N z1) :=
  met_i (cc := cX4_severed) (nL := 4) (own := RX4) (by decide) rfl (Nat.le_of_ble_eq_true rfl) (fun p e s m args below meth c Q A C hE => aw_sub [0, 1] rfl (T_X4_severed_0 C hE s0 x1 h))
/-! AwardLine$Land.desecrated(I)I -/
def rm_X4_desecrated : Room := { frames := 1, cells := 0, slots := 0, locals := 20 }
def F_X4_desecrated_0 (s0 : St) (x1 : Int32) : Option (Int32 × St) :=
  oA (0 : Int32) 2 <|
  oC (f_J6_bitCount_0f7a4 s0 ((s0.2.1 8 (Int32.toNatClampNeg (0 : Int32))) &&& (x1 ^^^ (-1 : Int32)))) fun w4 =>
  oL w4.1 fun v2 => oL w4.2 fun s3 =>
  oA (1 : Int32) 2 <|
  oC (f_J6_bitCount_0f7a4 s3 ((s3.2.1 8 (Int32.toNatClampNeg (1 : Int32))) &&& x1)) fun w8 =>
  oL w8.1 fun v6 => oL w8.2 fun s7 =>
  some (v2 + v6, s7)
set_option maxHeartbeats 4000000 in
set_option maxRecDepth 100000 in
theorem T_X4_desecrated_0 {r : Int32} {z1 : St} (C : Cx p rm_X4_desecrated s m args c D A cX4_desecrated 2 RX4 rm_X4_desecrated N) (hE : En p l e rm_X4_desecrated s m args below meth c Q D A cX4_desecrated .ireturn (wC N z1) [.int r])  (s0 : St) (x1 : Int32) (h : F_X4_desecrated_0 s0 x1 = some (r, z1)) : Aw p l e rm_X4_desecrated s m args below meth c Q D A 2 (wC N s0) 0 [(0, .ref (N.1 4)), (1, .int x1)] [] := by
  unfold F_X4_desecrated_0 at h
  refine aw_aload_n C 0 dX4_desecrated_0 rfl ?_
  refine cg_ln_shrines C lw_3_13 dX4_desecrated_1 ?_
  refine aw_iconst (v := 0) C dX4_desecrated_4 (by decide) ?_
  obtain ⟨q1, h⟩ := oA_e h
  refine ca_iald (k := 8) C (by decide) rfl q1 dX4_desecrated_5 ?_
  refine aw_iload_n C 1 dX4_desecrated_6 rfl ?_
  refine aw_iconst (v := -1) C dX4_desecrated_7 (by decide) ?_
  refine aw_ixor C dX4_desecrated_8 ?_
  refine aw_iand C dX4_desecrated_9 ?_
  obtain ⟨⟨v2, s3⟩, cw4, h⟩ := oC_e h
  have h := oL_e (x := s3) rfl (oL_e (x := v2) rfl h)
  refine aw_callSi (n := 1) (As := [.int ((s0.2.1 8 (Int32.toNatClampNeg (0 : Int32))) &&& (x1 ^^^ (-1 : Int32)))]) (rest := []) C (c_J6_bitCount_0f7a4 l D N s0 s3 ((s0.2.1 8 (Int32.toNatClampNeg (0 : Int32))) &&& (x1 ^^^ (-1 : Int32))) v2 cw4) lw_30_14 lw_30_15 lw_30_16 lw_30_17 rfl rfl (by decide +kernel) ⟨Nat.le_of_ble_eq_true rfl, Nat.le_of_ble_eq_true rfl⟩ rfl rfl (Nat.le_of_ble_eq_true rfl) dX4_desecrated_10 ?_
  refine aw_aload_n C 0 dX4_desecrated_13 rfl ?_
  refine cg_ln_shrines C lw_3_13 dX4_desecrated_14 ?_
  refine aw_iconst (v := 1) C dX4_desecrated_17 (by decide) ?_
  obtain ⟨q5, h⟩ := oA_e h
  refine ca_iald (k := 8) C (by decide) rfl q5 dX4_desecrated_18 ?_
  refine aw_iload_n C 1 dX4_desecrated_19 rfl ?_
  refine aw_iand C dX4_desecrated_20 ?_
  obtain ⟨⟨v6, s7⟩, cw8, h⟩ := oC_e h
  have h := oL_e (x := s7) rfl (oL_e (x := v6) rfl h)
  refine aw_callSi (n := 1) (As := [.int ((s3.2.1 8 (Int32.toNatClampNeg (1 : Int32))) &&& x1)]) (rest := [.int v2]) C (c_J6_bitCount_0f7a4 l D N s3 s7 ((s3.2.1 8 (Int32.toNatClampNeg (1 : Int32))) &&& x1) v6 cw8) lw_30_14 lw_30_15 lw_30_16 lw_30_17 rfl rfl (by decide +kernel) ⟨Nat.le_of_ble_eq_true rfl, Nat.le_of_ble_eq_true rfl⟩ rfl rfl (Nat.le_of_ble_eq_true rfl) dX4_desecrated_21 ?_
  refine aw_iadd C dX4_desecrated_24 ?_
  cases h
  exact aw_ret hE dX4_desecrated_25
def f_X4_desecrated (s0 : St) (x1 : Int32) : Option (Int32 × St) := F_X4_desecrated_0 s0 x1
theorem c_X4_desecrated (l : Launch) (D : va_G) (N : Nm) (s0 z1 : St) (x1 : Int32) (r : Int32) (h : f_X4_desecrated s0 x1 = some (r, z1)) : Meti l yX4_desecrated (tsU yX4_desecrated cX4_desecrated 2 (some .int)) rm_X4_desecrated D N [.ref (N.1 4), .int x1] (wC N s0) r (wC N z1) :=
  met_i (cc := cX4_desecrated) (nL := 2) (own := RX4) (by decide) rfl (Nat.le_of_ble_eq_true rfl) (fun p e s m args below meth c Q A C hE => aw_sub [0, 1] rfl (T_X4_desecrated_0 C hE s0 x1 h))
end WK
