section WK
variable {p : Program} {l : Launch} {e : Env} {s : State} {m : MethodId} {args : Array Value} {below : List Frame} {meth : Method} {c : Code} {Q : State → Prop} {D : va_G} {A : Nat → Prop} {N : Nm}
/-! AwardLineModel.isLine(I)Z -/
def rm_X12_isLine : Room := { frames := 1, cells := 0, slots := 0, locals := 20 }
def F_X12_isLine_19 (s0 : St) (t0 : Int32) : Option (Int32 × St) :=
  some (t0, s0)
set_option maxHeartbeats 4000000 in
set_option maxRecDepth 100000 in
theorem T_X12_isLine_19 {r : Int32} {z1 : St} (C : Cx p rm_X12_isLine s m args c D A cX12_isLine 2 RX12 rm_X12_isLine N) (hE : En p l e rm_X12_isLine s m args below meth c Q D A cX12_isLine .ireturn (wR N z1) [.int r])  (s0 : St) (t0 : Int32) (h : F_X12_isLine_19 s0 t0 = some (r, z1)) : Aw p l e rm_X12_isLine s m args below meth c Q D A 2 (wR N s0) 19 [] [.int t0] := by
  unfold F_X12_isLine_19 at h
  cases h
  exact aw_ret hE dX12_isLine_19
def F_X12_isLine_18 (s0 : St) : Option (Int32 × St) :=
  F_X12_isLine_19 s0 (0 : Int32)
set_option maxHeartbeats 4000000 in
set_option maxRecDepth 100000 in
theorem T_X12_isLine_18 {r : Int32} {z1 : St} (C : Cx p rm_X12_isLine s m args c D A cX12_isLine 2 RX12 rm_X12_isLine N) (hE : En p l e rm_X12_isLine s m args below meth c Q D A cX12_isLine .ireturn (wR N z1) [.int r])  (s0 : St) (h : F_X12_isLine_18 s0 = some (r, z1)) : Aw p l e rm_X12_isLine s m args below meth c Q D A 2 (wR N s0) 18 [] [] := by
  unfold F_X12_isLine_18 at h
  refine aw_iconst (v := 0) C dX12_isLine_18 (by decide) ?_
  refine aw_sub (lv' := []) [] rfl ?_
  exact T_X12_isLine_19 C hE s0 (0 : Int32) h
def F_X12_isLine_0 (s0 : St) (x1 : Int32) : Option (Int32 × St) :=
  if x1 < 0 then (
    F_X12_isLine_18 s0)
  else (
    oC (f_X12_cells s0) fun w3 =>
    oL w3.1 fun v1 => oL w3.2 fun s2 =>
    if (1 : Int32) <<< (v1 &&& 31) ≤ x1 then (
      F_X12_isLine_18 s2)
    else (
      F_X12_isLine_19 s2 (1 : Int32)))
set_option maxHeartbeats 4000000 in
set_option maxRecDepth 100000 in
theorem T_X12_isLine_0 {r : Int32} {z1 : St} (C : Cx p rm_X12_isLine s m args c D A cX12_isLine 2 RX12 rm_X12_isLine N) (hE : En p l e rm_X12_isLine s m args below meth c Q D A cX12_isLine .ireturn (wR N z1) [.int r])  (s0 : St) (x1 : Int32) (h : F_X12_isLine_0 s0 x1 = some (r, z1)) : Aw p l e rm_X12_isLine s m args below meth c Q D A 2 (wR N s0) 0 [(0, .ref (N.1 0)), (1, .int x1)] [] := by
  unfold F_X12_isLine_0 at h
  refine aw_iload_n C 1 dX12_isLine_0 rfl ?_
  refine aw_if_lt (tgt := 18) C dX12_isLine_1 (by decide) (fun q => ?_) (fun q => ?_)
  · have h := bq_t q h
    refine aw_sub (lv' := []) [] rfl ?_
    exact T_X12_isLine_18 C hE s0 h
  · have h := bq_f q h
    refine aw_iload_n C 1 dX12_isLine_4 rfl ?_
    refine aw_iconst (v := 1) C dX12_isLine_5 (by decide) ?_
    refine aw_aload_n C 0 dX12_isLine_6 rfl ?_
    obtain ⟨⟨v1, s2⟩, cw3, h⟩ := oC_e h
    have h := oL_e (x := s2) rfl (oL_e (x := v1) rfl h)
    refine aw_callVi (n := 0) (As := []) (rest := [.int (1 : Int32), .int x1]) (q0 := 0) C (c_X12_cells l D N s0 s2 v1 cw3) lw_23_23 lw_24_0 lw_24_1 lw_1_5 lw_24_2 rfl rfl (by decide +kernel) ⟨Nat.le_of_ble_eq_true rfl, Nat.le_of_ble_eq_true rfl⟩ rfl rfl rfl rfl rfl (Nat.le_of_ble_eq_true rfl) dX12_isLine_7 ?_
    refine aw_ishl C dX12_isLine_10 ?_
    refine aw_icmp_ge (tgt := 18) C dX12_isLine_11 (by decide) (fun q => ?_) (fun q => ?_)
    · have h := bq_t q h
      refine aw_sub (lv' := []) [] rfl ?_
      exact T_X12_isLine_18 C hE s2 h
    · have h := bq_f q h
      refine aw_iconst (v := 1) C dX12_isLine_14 (by decide) ?_
      refine aw_goto (tgt := 19) C dX12_isLine_15 (by decide) ?_
      refine aw_sub (lv' := []) [] rfl ?_
      exact T_X12_isLine_19 C hE s2 (1 : Int32) h
def f_X12_isLine (s0 : St) (x1 : Int32) : Option (Int32 × St) := oC (F_X12_isLine_0 s0 x1) fun w => oZ w.1 (some w)
theorem c_X12_isLine (l : Launch) (D : va_G) (N : Nm) (s0 z1 : St) (x1 : Int32) (r : Int32) (h : f_X12_isLine s0 x1 = some (r, z1)) : Meti l yX12_isLine (tsU yX12_isLine cX12_isLine 2 (some .boolean)) rm_X12_isLine D N [.ref (N.1 0), .int x1] (wR N s0) r (wR N z1) := by
  obtain ⟨w, h1, h2⟩ := oC_e h
  obtain ⟨hz, h2⟩ := oZ_e h2
  cases h2
  exact met_z (cc := cX12_isLine) (nL := 2) (own := RX12) (by decide) rfl (Nat.le_of_ble_eq_true rfl) (zN hz) (fun p e s m args below meth c Q A C hE => aw_sub [0, 1] rfl (T_X12_isLine_0 C hE s0 x1 h1))
/-! AwardLineModel.isDraft(I)Z -/
def rm_X12_isDraft : Room := { frames := 0, cells := 0, slots := 0, locals := 0 }
def F_X12_isDraft_17 (s0 : St) (t0 : Int32) : Option (Int32 × St) :=
  some (t0, s0)
set_option maxHeartbeats 4000000 in
set_option maxRecDepth 100000 in
theorem T_X12_isDraft_17 {r : Int32} {z1 : St} (C : Cx p rm_X12_isDraft s m args c D A cX12_isDraft 2 RX12 rm_X12_isDraft N) (hE : En p l e rm_X12_isDraft s m args below meth c Q D A cX12_isDraft .ireturn (wR N z1) [.int r])  (s0 : St) (t0 : Int32) (h : F_X12_isDraft_17 s0 t0 = some (r, z1)) : Aw p l e rm_X12_isDraft s m args below meth c Q D A 2 (wR N s0) 17 [] [.int t0] := by
  unfold F_X12_isDraft_17 at h
  cases h
  exact aw_ret hE dX12_isDraft_17
def F_X12_isDraft_16 (s0 : St) : Option (Int32 × St) :=
  F_X12_isDraft_17 s0 (0 : Int32)
set_option maxHeartbeats 4000000 in
set_option maxRecDepth 100000 in
theorem T_X12_isDraft_16 {r : Int32} {z1 : St} (C : Cx p rm_X12_isDraft s m args c D A cX12_isDraft 2 RX12 rm_X12_isDraft N) (hE : En p l e rm_X12_isDraft s m args below meth c Q D A cX12_isDraft .ireturn (wR N z1) [.int r])  (s0 : St) (h : F_X12_isDraft_16 s0 = some (r, z1)) : Aw p l e rm_X12_isDraft s m args below meth c Q D A 2 (wR N s0) 16 [] [] := by
  unfold F_X12_isDraft_16 at h
  refine aw_iconst (v := 0) C dX12_isDraft_16 (by decide) ?_
  refine aw_sub (lv' := []) [] rfl ?_
  exact T_X12_isDraft_17 C hE s0 (0 : Int32) h
def F_X12_isDraft_0 (s0 : St) (x1 : Int32) : Option (Int32 × St) :=
  if x1 < 0 then (
    F_X12_isDraft_16 s0)
  else (
    if (s0.1 25) ≤ x1 then (
      F_X12_isDraft_16 s0)
    else (
      F_X12_isDraft_17 s0 (1 : Int32)))
set_option maxHeartbeats 4000000 in
set_option maxRecDepth 100000 in
theorem T_X12_isDraft_0 {r : Int32} {z1 : St} (C : Cx p rm_X12_isDraft s m args c D A cX12_isDraft 2 RX12 rm_X12_isDraft N) (hE : En p l e rm_X12_isDraft s m args below meth c Q D A cX12_isDraft .ireturn (wR N z1) [.int r])  (s0 : St) (x1 : Int32) (h : F_X12_isDraft_0 s0 x1 = some (r, z1)) : Aw p l e rm_X12_isDraft s m args below meth c Q D A 2 (wR N s0) 0 [(0, .ref (N.1 0)), (1, .int x1)] [] := by
  unfold F_X12_isDraft_0 at h
  refine aw_iload_n C 1 dX12_isDraft_0 rfl ?_
  refine aw_if_lt (tgt := 16) C dX12_isDraft_1 (by decide) (fun q => ?_) (fun q => ?_)
  · have h := bq_t q h
    refine aw_sub (lv' := []) [] rfl ?_
    exact T_X12_isDraft_16 C hE s0 h
  · have h := bq_f q h
    refine aw_iload_n C 1 dX12_isDraft_4 rfl ?_
    refine aw_aload_n C 0 dX12_isDraft_5 rfl ?_
    refine rg_md_drafts C lw_9_14 dX12_isDraft_6 ?_
    refine aw_icmp_ge (tgt := 16) C dX12_isDraft_9 (by decide) (fun q => ?_) (fun q => ?_)
    · have h := bq_t q h
      refine aw_sub (lv' := []) [] rfl ?_
      exact T_X12_isDraft_16 C hE s0 h
    · have h := bq_f q h
      refine aw_iconst (v := 1) C dX12_isDraft_12 (by decide) ?_
      refine aw_goto (tgt := 17) C dX12_isDraft_13 (by decide) ?_
      refine aw_sub (lv' := []) [] rfl ?_
      exact T_X12_isDraft_17 C hE s0 (1 : Int32) h
def f_X12_isDraft (s0 : St) (x1 : Int32) : Option (Int32 × St) := oC (F_X12_isDraft_0 s0 x1) fun w => oZ w.1 (some w)
theorem c_X12_isDraft (l : Launch) (D : va_G) (N : Nm) (s0 z1 : St) (x1 : Int32) (r : Int32) (h : f_X12_isDraft s0 x1 = some (r, z1)) : Meti l yX12_isDraft (tsU yX12_isDraft cX12_isDraft 2 (some .boolean)) rm_X12_isDraft D N [.ref (N.1 0), .int x1] (wR N s0) r (wR N z1) := by
  obtain ⟨w, h1, h2⟩ := oC_e h
  obtain ⟨hz, h2⟩ := oZ_e h2
  cases h2
  exact met_z (cc := cX12_isDraft) (nL := 2) (own := RX12) (by decide) rfl (Nat.le_of_ble_eq_true rfl) (zN hz) (fun p e s m args below meth c Q A C hE => aw_sub [0, 1] rfl (T_X12_isDraft_0 C hE s0 x1 h1))
/-! AwardLineModel.isPerson(I)Z -/
def rm_X12_isPerson : Room := { frames := 0, cells := 0, slots := 0, locals := 0 }
def F_X12_isPerson_15 (s0 : St) (t0 : Int32) : Option (Int32 × St) :=
  some (t0, s0)
set_option maxHeartbeats 4000000 in
set_option maxRecDepth 100000 in
theorem T_X12_isPerson_15 {r : Int32} {z1 : St} (C : Cx p rm_X12_isPerson s m args c D A cX12_isPerson 1 RX12 rm_X12_isPerson N) (hE : En p l e rm_X12_isPerson s m args below meth c Q D A cX12_isPerson .ireturn (wR N z1) [.int r])  (s0 : St) (t0 : Int32) (h : F_X12_isPerson_15 s0 t0 = some (r, z1)) : Aw p l e rm_X12_isPerson s m args below meth c Q D A 1 (wR N s0) 15 [] [.int t0] := by
  unfold F_X12_isPerson_15 at h
  cases h
  exact aw_ret hE dX12_isPerson_15
def F_X12_isPerson_14 (s0 : St) : Option (Int32 × St) :=
  F_X12_isPerson_15 s0 (0 : Int32)
set_option maxHeartbeats 4000000 in
set_option maxRecDepth 100000 in
theorem T_X12_isPerson_14 {r : Int32} {z1 : St} (C : Cx p rm_X12_isPerson s m args c D A cX12_isPerson 1 RX12 rm_X12_isPerson N) (hE : En p l e rm_X12_isPerson s m args below meth c Q D A cX12_isPerson .ireturn (wR N z1) [.int r])  (s0 : St) (h : F_X12_isPerson_14 s0 = some (r, z1)) : Aw p l e rm_X12_isPerson s m args below meth c Q D A 1 (wR N s0) 14 [] [] := by
  unfold F_X12_isPerson_14 at h
  refine aw_iconst (v := 0) C dX12_isPerson_14 (by decide) ?_
  refine aw_sub (lv' := []) [] rfl ?_
  exact T_X12_isPerson_15 C hE s0 (0 : Int32) h
def F_X12_isPerson_0 (s0 : St) (x0 : Int32) : Option (Int32 × St) :=
  if x0 < 0 then (
    F_X12_isPerson_14 s0)
  else (
    if (8 : Int32) ≤ x0 then (
      F_X12_isPerson_14 s0)
    else (
      F_X12_isPerson_15 s0 (1 : Int32)))
set_option maxHeartbeats 4000000 in
set_option maxRecDepth 100000 in
theorem T_X12_isPerson_0 {r : Int32} {z1 : St} (C : Cx p rm_X12_isPerson s m args c D A cX12_isPerson 1 RX12 rm_X12_isPerson N) (hE : En p l e rm_X12_isPerson s m args below meth c Q D A cX12_isPerson .ireturn (wR N z1) [.int r])  (s0 : St) (x0 : Int32) (h : F_X12_isPerson_0 s0 x0 = some (r, z1)) : Aw p l e rm_X12_isPerson s m args below meth c Q D A 1 (wR N s0) 0 [(0, .int x0)] [] := by
  unfold F_X12_isPerson_0 at h
  refine aw_iload_n C 0 dX12_isPerson_0 rfl ?_
  refine aw_if_lt (tgt := 14) C dX12_isPerson_1 (by decide) (fun q => ?_) (fun q => ?_)
  · have h := bq_t q h
    refine aw_sub (lv' := []) [] rfl ?_
    exact T_X12_isPerson_14 C hE s0 h
  · have h := bq_f q h
    refine aw_iload_n C 0 dX12_isPerson_4 rfl ?_
    refine aw_bipush (v := 8) C dX12_isPerson_5 (by decide) ?_
    refine aw_icmp_ge (tgt := 14) C dX12_isPerson_7 (by decide) (fun q => ?_) (fun q => ?_)
    · have h := bq_t q h
      refine aw_sub (lv' := []) [] rfl ?_
      exact T_X12_isPerson_14 C hE s0 h
    · have h := bq_f q h
      refine aw_iconst (v := 1) C dX12_isPerson_10 (by decide) ?_
      refine aw_goto (tgt := 15) C dX12_isPerson_11 (by decide) ?_
      refine aw_sub (lv' := []) [] rfl ?_
      exact T_X12_isPerson_15 C hE s0 (1 : Int32) h
def f_X12_isPerson (s0 : St) (x0 : Int32) : Option (Int32 × St) := oC (F_X12_isPerson_0 s0 x0) fun w => oZ w.1 (some w)
theorem c_X12_isPerson (l : Launch) (D : va_G) (N : Nm) (s0 z1 : St) (x0 : Int32) (r : Int32) (h : f_X12_isPerson s0 x0 = some (r, z1)) : Meti l yX12_isPerson (tsU yX12_isPerson cX12_isPerson 1 (some .boolean)) rm_X12_isPerson D N [.int x0] (wR N s0) r (wR N z1) := by
  obtain ⟨w, h1, h2⟩ := oC_e h
  obtain ⟨hz, h2⟩ := oZ_e h2
  cases h2
  exact met_z (cc := cX12_isPerson) (nL := 1) (own := RX12) (by decide) rfl (Nat.le_of_ble_eq_true rfl) (zN hz) (fun p e s m args below meth c Q A C hE => aw_sub [0] rfl (T_X12_isPerson_0 C hE s0 x0 h1))
/-! AwardLineModel.days(I)I -/
def rm_X12_days : Room := { frames := 0, cells := 0, slots := 0, locals := 0 }
def F_X12_days_28 (s0 : St) : Option (Int32 × St) :=
  some ((-1 : Int32), s0)
set_option maxHeartbeats 4000000 in
set_option maxRecDepth 100000 in
theorem T_X12_days_28 {r : Int32} {z1 : St} (C : Cx p rm_X12_days s m args c D A cX12_days 2 RX12 rm_X12_days N) (hE : En p l e rm_X12_days s m args below meth c Q D A cX12_days .ireturn (wR N z1) [.int r])  (s0 : St) (h : F_X12_days_28 s0 = some (r, z1)) : Aw p l e rm_X12_days s m args below meth c Q D A 2 (wR N s0) 28 [] [] := by
  unfold F_X12_days_28 at h
  refine aw_iconst (v := -1) C dX12_days_28 (by decide) ?_
  cases h
  exact aw_ret hE dX12_days_29
def F_X12_days_0 (s0 : St) (x1 : Int32) : Option (Int32 × St) :=
  oL (sI s0 0 (0 : Int32)) fun s1 =>
  if x1 < 0 then (
    F_X12_days_28 s1)
  else (
    if (999 : Int32) < x1 then (
      F_X12_days_28 s1)
    else (
      if (s1.1 21) + x1 ≤ (999 : Int32) then (
        oL (sI s1 21 ((s1.1 21) + x1)) fun s2 =>
        some ((s2.1 21), s2))
      else (
        F_X12_days_28 s1)))
set_option maxHeartbeats 4000000 in
set_option maxRecDepth 100000 in
theorem T_X12_days_0 {r : Int32} {z1 : St} (C : Cx p rm_X12_days s m args c D A cX12_days 2 RX12 rm_X12_days N) (hE : En p l e rm_X12_days s m args below meth c Q D A cX12_days .ireturn (wR N z1) [.int r])  (s0 : St) (x1 : Int32) (h : F_X12_days_0 s0 x1 = some (r, z1)) : Aw p l e rm_X12_days s m args below meth c Q D A 2 (wR N s0) 0 [(0, .ref (N.1 0)), (1, .int x1)] [] := by
  unfold F_X12_days_0 at h
  refine aw_aload_n C 0 dX12_days_0 rfl ?_
  refine aw_iconst (v := 0) C dX12_days_1 (by decide) ?_
  refine rp_md_thrown C lw_10_11 dX12_days_2 ?_
  refine ra_name (fun s1 es1 => ?_)
  have h := oL_e es1 h
  refine aw_iload_n C 1 dX12_days_5 rfl ?_
  refine aw_if_lt (tgt := 28) C dX12_days_6 (by decide) (fun q => ?_) (fun q => ?_)
  · have h := bq_t q h
    refine aw_sub (lv' := []) [] rfl ?_
    exact T_X12_days_28 C hE s1 h
  · have h := bq_f q h
    refine aw_iload_n C 1 dX12_days_9 rfl ?_
    refine aw_sipush (v := 999) C dX12_days_10 (by decide) ?_
    refine aw_icmp_gt (tgt := 28) C dX12_days_13 (by decide) (fun q => ?_) (fun q => ?_)
    · have h := bq_t q h
      refine aw_sub (lv' := []) [] rfl ?_
      exact T_X12_days_28 C hE s1 h
    · have h := bq_f q h
      refine aw_aload_n C 0 dX12_days_16 rfl ?_
      refine rg_md_today C lw_22_23 dX12_days_17 ?_
      refine aw_iload_n C 1 dX12_days_20 rfl ?_
      refine aw_iadd C dX12_days_21 ?_
      refine aw_sipush (v := 999) C dX12_days_22 (by decide) ?_
      refine aw_icmp_le (tgt := 30) C dX12_days_25 (by decide) (fun q => ?_) (fun q => ?_)
      · have h := bq_t q h
        refine aw_aload_n C 0 dX12_days_30 rfl ?_
        refine aw_dup C dX12_days_31 rfl ?_
        refine rg_md_today C lw_22_23 dX12_days_32 ?_
        refine aw_iload_n C 1 dX12_days_35 rfl ?_
        refine aw_iadd C dX12_days_36 ?_
        refine rp_md_today C lw_22_23 dX12_days_37 ?_
        refine ra_name (fun s2 es2 => ?_)
        have h := oL_e es2 h
        refine aw_aload_n C 0 dX12_days_40 rfl ?_
        refine rg_md_today C lw_22_23 dX12_days_41 ?_
        cases h
        exact aw_ret hE dX12_days_44
      · have h := bq_f q h
        refine aw_sub (lv' := []) [] rfl ?_
        exact T_X12_days_28 C hE s1 h
def f_X12_days (s0 : St) (x1 : Int32) : Option (Int32 × St) := F_X12_days_0 s0 x1
theorem c_X12_days (l : Launch) (D : va_G) (N : Nm) (s0 z1 : St) (x1 : Int32) (r : Int32) (h : f_X12_days s0 x1 = some (r, z1)) : Meti l yX12_days (tsU yX12_days cX12_days 2 (some .int)) rm_X12_days D N [.ref (N.1 0), .int x1] (wR N s0) r (wR N z1) :=
  met_i (cc := cX12_days) (nL := 2) (own := RX12) (by decide) rfl (Nat.le_of_ble_eq_true rfl) (fun p e s m args below meth c Q A C hE => aw_sub [0, 1] rfl (T_X12_days_0 C hE s0 x1 h))
/-! AwardLineModel.village(IIIZ)Z -/
def rm_X12_village : Room := { frames := 2, cells := 0, slots := 0, locals := 41 }
def F_X12_village_32 (s0 : St) : Option (Int32 × St) :=
  some ((0 : Int32), s0)
set_option maxHeartbeats 4000000 in
set_option maxRecDepth 100000 in
theorem T_X12_village_32 {r : Int32} {z1 : St} (C : Cx p rm_X12_village s m args c D A cX12_village 5 RX12 rm_X12_village N) (hE : En p l e rm_X12_village s m args below meth c Q D A cX12_village .ireturn (wR N z1) [.int r])  (s0 : St) (h : F_X12_village_32 s0 = some (r, z1)) : Aw p l e rm_X12_village s m args below meth c Q D A 5 (wR N s0) 32 [] [] := by
  unfold F_X12_village_32 at h
  refine aw_iconst (v := 0) C dX12_village_32 (by decide) ?_
  cases h
  exact aw_ret hE dX12_village_33
def F_X12_village_0 (s0 : St) (x1 : Int32) (x2 : Int32) (x3 : Int32) (x4 : Int32) : Option (Int32 × St) :=
  oL (sI s0 0 (0 : Int32)) fun s1 =>
  oC (f_X12_isVillage s1 x1) fun w4 =>
  oL w4.1 fun v2 => oL w4.2 fun s3 =>
  if v2 = 0 then (
    F_X12_village_32 s3)
  else (
    if x2 < 0 then (
      F_X12_village_32 s3)
    else (
      if (5 : Int32) < x2 then (
        F_X12_village_32 s3)
      else (
        if x3 < (-1 : Int32) then (
          F_X12_village_32 s3)
        else (
          if x3 ≤ (1 : Int32) then (
            oA x1 25 <|
            oL (sA s3 7 (upd (s3.2.1 7) (Int32.toNatClampNeg x1) x2)) fun s6 =>
            oA x1 25 <|
            oL (sA s6 8 (upd (s6.2.1 8) (Int32.toNatClampNeg x1) x3)) fun s8 =>
            oA x1 25 <|
            oL (sA s8 9 (upd (s8.2.1 9) (Int32.toNatClampNeg x1) (vp_nar .boolean x4))) fun s10 =>
            some ((1 : Int32), s10))
          else (
            F_X12_village_32 s3)))))
set_option maxHeartbeats 4000000 in
set_option maxRecDepth 100000 in
theorem T_X12_village_0 {r : Int32} {z1 : St} (C : Cx p rm_X12_village s m args c D A cX12_village 5 RX12 rm_X12_village N) (hE : En p l e rm_X12_village s m args below meth c Q D A cX12_village .ireturn (wR N z1) [.int r])  (s0 : St) (x1 : Int32) (x2 : Int32) (x3 : Int32) (x4 : Int32) (h : F_X12_village_0 s0 x1 x2 x3 x4 = some (r, z1)) : Aw p l e rm_X12_village s m args below meth c Q D A 5 (wR N s0) 0 [(0, .ref (N.1 0)), (1, .int x1), (2, .int x2), (3, .int x3), (4, .int x4)] [] := by
  unfold F_X12_village_0 at h
  refine aw_aload_n C 0 dX12_village_0 rfl ?_
  refine aw_iconst (v := 0) C dX12_village_1 (by decide) ?_
  refine rp_md_thrown C lw_10_11 dX12_village_2 ?_
  refine ra_name (fun s1 es1 => ?_)
  have h := oL_e es1 h
  refine aw_aload_n C 0 dX12_village_5 rfl ?_
  refine aw_iload_n C 1 dX12_village_6 rfl ?_
  obtain ⟨⟨v2, s3⟩, cw4, h⟩ := oC_e h
  have h := oL_e (x := s3) rfl (oL_e (x := v2) rfl h)
  refine aw_callVi (n := 1) (As := [.int x1]) (rest := []) (q0 := 0) C (c_X12_isVillage l D N s1 s3 x1 v2 cw4) lw_23_19 lw_23_20 lw_23_21 lw_1_5 lw_23_22 rfl rfl (by decide +kernel) ⟨Nat.le_of_ble_eq_true rfl, Nat.le_of_ble_eq_true rfl⟩ rfl rfl rfl rfl rfl (Nat.le_of_ble_eq_true rfl) dX12_village_7 ?_
  refine aw_if_eq (tgt := 32) C dX12_village_10 (by decide) (fun q => ?_) (fun q => ?_)
  · have h := bq_t q h
    refine aw_sub (lv' := []) [] rfl ?_
    exact T_X12_village_32 C hE s3 h
  · have h := bq_f q h
    refine aw_iload_n C 2 dX12_village_13 rfl ?_
    refine aw_if_lt (tgt := 32) C dX12_village_14 (by decide) (fun q => ?_) (fun q => ?_)
    · have h := bq_t q h
      refine aw_sub (lv' := []) [] rfl ?_
      exact T_X12_village_32 C hE s3 h
    · have h := bq_f q h
      refine aw_iload_n C 2 dX12_village_17 rfl ?_
      refine aw_iconst (v := 5) C dX12_village_18 (by decide) ?_
      refine aw_icmp_gt (tgt := 32) C dX12_village_19 (by decide) (fun q => ?_) (fun q => ?_)
      · have h := bq_t q h
        refine aw_sub (lv' := []) [] rfl ?_
        exact T_X12_village_32 C hE s3 h
      · have h := bq_f q h
        refine aw_iload_n C 3 dX12_village_22 rfl ?_
        refine aw_iconst (v := -1) C dX12_village_23 (by decide) ?_
        refine aw_icmp_lt (tgt := 32) C dX12_village_24 (by decide) (fun q => ?_) (fun q => ?_)
        · have h := bq_t q h
          refine aw_sub (lv' := []) [] rfl ?_
          exact T_X12_village_32 C hE s3 h
        · have h := bq_f q h
          refine aw_iload_n C 3 dX12_village_27 rfl ?_
          refine aw_iconst (v := 1) C dX12_village_28 (by decide) ?_
          refine aw_icmp_le (tgt := 34) C dX12_village_29 (by decide) (fun q => ?_) (fun q => ?_)
          · have h := bq_t q h
            refine aw_aload_n C 0 dX12_village_34 rfl ?_
            refine rg_md_district C lw_8_8 dX12_village_35 ?_
            refine aw_iload_n C 1 dX12_village_38 rfl ?_
            refine aw_iload_n C 2 dX12_village_39 rfl ?_
            obtain ⟨q5, h⟩ := oA_e h
            refine ra_iast (k := 7) C (by decide) rfl q5 dX12_village_40 ?_
            refine ra_name (fun s6 es6 => ?_)
            have h := oL_e es6 h
            refine aw_aload_n C 0 dX12_village_41 rfl ?_
            refine rg_md_shrine C lw_8_9 dX12_village_42 ?_
            refine aw_iload_n C 1 dX12_village_45 rfl ?_
            refine aw_iload_n C 3 dX12_village_46 rfl ?_
            obtain ⟨q7, h⟩ := oA_e h
            refine ra_iast (k := 8) C (by decide) rfl q7 dX12_village_47 ?_
            refine ra_name (fun s8 es8 => ?_)
            have h := oL_e es8 h
            refine aw_aload_n C 0 dX12_village_48 rfl ?_
            refine rg_md_rail C lw_8_10 dX12_village_49 ?_
            refine aw_iload_n C 1 dX12_village_52 rfl ?_
            refine aw_iload C 4 dX12_village_53 rfl ?_
            obtain ⟨q9, h⟩ := oA_e h
            refine ra_zast (k := 9) C (by decide) rfl q9 dX12_village_55 ?_
            refine ra_name (fun s10 es10 => ?_)
            have h := oL_e es10 h
            refine aw_iconst (v := 1) C dX12_village_56 (by decide) ?_
            cases h
            exact aw_ret hE dX12_village_57
          · have h := bq_f q h
            refine aw_sub (lv' := []) [] rfl ?_
            exact T_X12_village_32 C hE s3 h
def f_X12_village (s0 : St) (x1 : Int32) (x2 : Int32) (x3 : Int32) (x4 : Int32) : Option (Int32 × St) := oC (F_X12_village_0 s0 x1 x2 x3 x4) fun w => oZ w.1 (some w)
theorem c_X12_village (l : Launch) (D : va_G) (N : Nm) (s0 z1 : St) (x1 : Int32) (x2 : Int32) (x3 : Int32) (x4 : Int32) (r : Int32) (h : f_X12_village s0 x1 x2 x3 x4 = some (r, z1)) : Meti l yX12_village (tsU yX12_village cX12_village 5 (some .boolean)) rm_X12_village D N [.ref (N.1 0), .int x1, .int x2, .int x3, .int x4] (wR N s0) r (wR N z1) := by
  obtain ⟨w, h1, h2⟩ := oC_e h
  obtain ⟨hz, h2⟩ := oZ_e h2
  cases h2
  exact met_z (cc := cX12_village) (nL := 5) (own := RX12) (by decide) rfl (Nat.le_of_ble_eq_true rfl) (zN hz) (fun p e s m args below meth c Q A C hE => aw_sub [0, 1, 2, 3, 4] rfl (T_X12_village_0 C hE s0 x1 x2 x3 x4 h1))
/-! AwardLineModel.errs(II)Z -/
def rm_X12_errs : Room := { frames := 0, cells := 0, slots := 0, locals := 0 }
def F_X12_errs_24 (s0 : St) : Option (Int32 × St) :=
  some ((0 : Int32), s0)
set_option maxHeartbeats 4000000 in
set_option maxRecDepth 100000 in
theorem T_X12_errs_24 {r : Int32} {z1 : St} (C : Cx p rm_X12_errs s m args c D A cX12_errs 3 RX12 rm_X12_errs N) (hE : En p l e rm_X12_errs s m args below meth c Q D A cX12_errs .ireturn (wR N z1) [.int r])  (s0 : St) (h : F_X12_errs_24 s0 = some (r, z1)) : Aw p l e rm_X12_errs s m args below meth c Q D A 3 (wR N s0) 24 [] [] := by
  unfold F_X12_errs_24 at h
  refine aw_iconst (v := 0) C dX12_errs_24 (by decide) ?_
  cases h
  exact aw_ret hE dX12_errs_25
def F_X12_errs_0 (s0 : St) (x1 : Int32) (x2 : Int32) : Option (Int32 × St) :=
  oL (sI s0 0 (0 : Int32)) fun s1 =>
  if x1 < 0 then (
    F_X12_errs_24 s1)
  else (
    if (4 : Int32) ≤ x1 then (
      F_X12_errs_24 s1)
    else (
      if x2 < 0 then (
        F_X12_errs_24 s1)
      else (
        if x2 ≤ (50 : Int32) then (
          oA x1 4 <|
          oL (sA s1 10 (upd (s1.2.1 10) (Int32.toNatClampNeg x1) x2)) fun s3 =>
          some ((1 : Int32), s3))
        else (
          F_X12_errs_24 s1))))
set_option maxHeartbeats 4000000 in
set_option maxRecDepth 100000 in
theorem T_X12_errs_0 {r : Int32} {z1 : St} (C : Cx p rm_X12_errs s m args c D A cX12_errs 3 RX12 rm_X12_errs N) (hE : En p l e rm_X12_errs s m args below meth c Q D A cX12_errs .ireturn (wR N z1) [.int r])  (s0 : St) (x1 : Int32) (x2 : Int32) (h : F_X12_errs_0 s0 x1 x2 = some (r, z1)) : Aw p l e rm_X12_errs s m args below meth c Q D A 3 (wR N s0) 0 [(0, .ref (N.1 0)), (1, .int x1), (2, .int x2)] [] := by
  unfold F_X12_errs_0 at h
  refine aw_aload_n C 0 dX12_errs_0 rfl ?_
  refine aw_iconst (v := 0) C dX12_errs_1 (by decide) ?_
  refine rp_md_thrown C lw_10_11 dX12_errs_2 ?_
  refine ra_name (fun s1 es1 => ?_)
  have h := oL_e es1 h
  refine aw_iload_n C 1 dX12_errs_5 rfl ?_
  refine aw_if_lt (tgt := 24) C dX12_errs_6 (by decide) (fun q => ?_) (fun q => ?_)
  · have h := bq_t q h
    refine aw_sub (lv' := []) [] rfl ?_
    exact T_X12_errs_24 C hE s1 h
  · have h := bq_f q h
    refine aw_iload_n C 1 dX12_errs_9 rfl ?_
    refine aw_iconst (v := 4) C dX12_errs_10 (by decide) ?_
    refine aw_icmp_ge (tgt := 24) C dX12_errs_11 (by decide) (fun q => ?_) (fun q => ?_)
    · have h := bq_t q h
      refine aw_sub (lv' := []) [] rfl ?_
      exact T_X12_errs_24 C hE s1 h
    · have h := bq_f q h
      refine aw_iload_n C 2 dX12_errs_14 rfl ?_
      refine aw_if_lt (tgt := 24) C dX12_errs_15 (by decide) (fun q => ?_) (fun q => ?_)
      · have h := bq_t q h
        refine aw_sub (lv' := []) [] rfl ?_
        exact T_X12_errs_24 C hE s1 h
      · have h := bq_f q h
        refine aw_iload_n C 2 dX12_errs_18 rfl ?_
        refine aw_bipush (v := 50) C dX12_errs_19 (by decide) ?_
        refine aw_icmp_le (tgt := 26) C dX12_errs_21 (by decide) (fun q => ?_) (fun q => ?_)
        · have h := bq_t q h
          refine aw_aload_n C 0 dX12_errs_26 rfl ?_
          refine rg_md_err C lw_8_11 dX12_errs_27 ?_
          refine aw_iload_n C 1 dX12_errs_30 rfl ?_
          refine aw_iload_n C 2 dX12_errs_31 rfl ?_
          obtain ⟨q2, h⟩ := oA_e h
          refine ra_iast (k := 10) C (by decide) rfl q2 dX12_errs_32 ?_
          refine ra_name (fun s3 es3 => ?_)
          have h := oL_e es3 h
          refine aw_iconst (v := 1) C dX12_errs_33 (by decide) ?_
          cases h
          exact aw_ret hE dX12_errs_34
        · have h := bq_f q h
          refine aw_sub (lv' := []) [] rfl ?_
          exact T_X12_errs_24 C hE s1 h
def f_X12_errs (s0 : St) (x1 : Int32) (x2 : Int32) : Option (Int32 × St) := oC (F_X12_errs_0 s0 x1 x2) fun w => oZ w.1 (some w)
theorem c_X12_errs (l : Launch) (D : va_G) (N : Nm) (s0 z1 : St) (x1 : Int32) (x2 : Int32) (r : Int32) (h : f_X12_errs s0 x1 x2 = some (r, z1)) : Meti l yX12_errs (tsU yX12_errs cX12_errs 3 (some .boolean)) rm_X12_errs D N [.ref (N.1 0), .int x1, .int x2] (wR N s0) r (wR N z1) := by
  obtain ⟨w, h1, h2⟩ := oC_e h
  obtain ⟨hz, h2⟩ := oZ_e h2
  cases h2
  exact met_z (cc := cX12_errs) (nL := 3) (own := RX12) (by decide) rfl (Nat.le_of_ble_eq_true rfl) (zN hz) (fun p e s m args below meth c Q A C hE => aw_sub [0, 1, 2] rfl (T_X12_errs_0 C hE s0 x1 x2 h1))
/-! AwardLineModel.noted(IIIII)I -/
def rm_X12_noted : Room := { frames := 0, cells := 0, slots := 0, locals := 0 }
def F_X12_noted_0 (s0 : St) (x1 : Int32) (x2 : Int32) (x3 : Int32) (x4 : Int32) (x5 : Int32) : Option (Int32 × St) :=
  oA (s0.1 27) 80 <|
  oL (sA s0 16 (upd (s0.2.1 16) (Int32.toNatClampNeg (s0.1 27)) x1)) fun s2 =>
  oA (s2.1 27) 80 <|
  oL (sA s2 17 (upd (s2.2.1 17) (Int32.toNatClampNeg (s2.1 27)) (s2.1 21))) fun s4 =>
  oA (s4.1 27) 80 <|
  oL (sA s4 18 (upd (s4.2.1 18) (Int32.toNatClampNeg (s4.1 27)) x2)) fun s6 =>
  oA (s6.1 27) 80 <|
  oL (sA s6 19 (upd (s6.2.1 19) (Int32.toNatClampNeg (s6.1 27)) x3)) fun s8 =>
  oA (s8.1 27) 80 <|
  oL (sA s8 20 (upd (s8.2.1 20) (Int32.toNatClampNeg (s8.1 27)) x4)) fun s10 =>
  oA (s10.1 27) 80 <|
  oL (sA s10 21 (upd (s10.2.1 21) (Int32.toNatClampNeg (s10.1 27)) x5)) fun s12 =>
  oL (sI s12 27 ((s12.1 27) + (1 : Int32))) fun s13 =>
  some ((s13.1 27) - (1 : Int32), s13)
set_option maxHeartbeats 4000000 in
set_option maxRecDepth 100000 in
theorem T_X12_noted_0 {r : Int32} {z1 : St} (C : Cx p rm_X12_noted s m args c D A cX12_noted 6 RX12 rm_X12_noted N) (hE : En p l e rm_X12_noted s m args below meth c Q D A cX12_noted .ireturn (wR N z1) [.int r])  (s0 : St) (x1 : Int32) (x2 : Int32) (x3 : Int32) (x4 : Int32) (x5 : Int32) (h : F_X12_noted_0 s0 x1 x2 x3 x4 x5 = some (r, z1)) : Aw p l e rm_X12_noted s m args below meth c Q D A 6 (wR N s0) 0 [(0, .ref (N.1 0)), (1, .int x1), (2, .int x2), (3, .int x3), (4, .int x4), (5, .int x5)] [] := by
  unfold F_X12_noted_0 at h
  refine aw_aload_n C 0 dX12_noted_0 rfl ?_
  refine rg_md_kind C lw_8_17 dX12_noted_1 ?_
  refine aw_aload_n C 0 dX12_noted_4 rfl ?_
  refine rg_md_notes C lw_9_16 dX12_noted_5 ?_
  refine aw_iload_n C 1 dX12_noted_8 rfl ?_
  obtain ⟨q1, h⟩ := oA_e h
  refine ra_iast (k := 16) C (by decide) rfl q1 dX12_noted_9 ?_
  refine ra_name (fun s2 es2 => ?_)
  have h := oL_e es2 h
  refine aw_aload_n C 0 dX12_noted_10 rfl ?_
  refine rg_md_noteTold C lw_8_18 dX12_noted_11 ?_
  refine aw_aload_n C 0 dX12_noted_14 rfl ?_
  refine rg_md_notes C lw_9_16 dX12_noted_15 ?_
  refine aw_aload_n C 0 dX12_noted_18 rfl ?_
  refine rg_md_today C lw_22_23 dX12_noted_19 ?_
  obtain ⟨q3, h⟩ := oA_e h
  refine ra_iast (k := 17) C (by decide) rfl q3 dX12_noted_22 ?_
  refine ra_name (fun s4 es4 => ?_)
  have h := oL_e es4 h
  refine aw_aload_n C 0 dX12_noted_23 rfl ?_
  refine rg_md_one C lw_8_19 dX12_noted_24 ?_
  refine aw_aload_n C 0 dX12_noted_27 rfl ?_
  refine rg_md_notes C lw_9_16 dX12_noted_28 ?_
  refine aw_iload_n C 2 dX12_noted_31 rfl ?_
  obtain ⟨q5, h⟩ := oA_e h
  refine ra_iast (k := 18) C (by decide) rfl q5 dX12_noted_32 ?_
  refine ra_name (fun s6 es6 => ?_)
  have h := oL_e es6 h
  refine aw_aload_n C 0 dX12_noted_33 rfl ?_
  refine rg_md_two C lw_8_20 dX12_noted_34 ?_
  refine aw_aload_n C 0 dX12_noted_37 rfl ?_
  refine rg_md_notes C lw_9_16 dX12_noted_38 ?_
  refine aw_iload_n C 3 dX12_noted_41 rfl ?_
  obtain ⟨q7, h⟩ := oA_e h
  refine ra_iast (k := 19) C (by decide) rfl q7 dX12_noted_42 ?_
  refine ra_name (fun s8 es8 => ?_)
  have h := oL_e es8 h
  refine aw_aload_n C 0 dX12_noted_43 rfl ?_
  refine rg_md_three C lw_8_21 dX12_noted_44 ?_
  refine aw_aload_n C 0 dX12_noted_47 rfl ?_
  refine rg_md_notes C lw_9_16 dX12_noted_48 ?_
  refine aw_iload C 4 dX12_noted_51 rfl ?_
  obtain ⟨q9, h⟩ := oA_e h
  refine ra_iast (k := 20) C (by decide) rfl q9 dX12_noted_53 ?_
  refine ra_name (fun s10 es10 => ?_)
  have h := oL_e es10 h
  refine aw_aload_n C 0 dX12_noted_54 rfl ?_
  refine rg_md_four C lw_8_22 dX12_noted_55 ?_
  refine aw_aload_n C 0 dX12_noted_58 rfl ?_
  refine rg_md_notes C lw_9_16 dX12_noted_59 ?_
  refine aw_iload C 5 dX12_noted_62 rfl ?_
  obtain ⟨q11, h⟩ := oA_e h
  refine ra_iast (k := 21) C (by decide) rfl q11 dX12_noted_64 ?_
  refine ra_name (fun s12 es12 => ?_)
  have h := oL_e es12 h
  refine aw_aload_n C 0 dX12_noted_65 rfl ?_
  refine aw_dup C dX12_noted_66 rfl ?_
  refine rg_md_notes C lw_9_16 dX12_noted_67 ?_
  refine aw_iconst (v := 1) C dX12_noted_70 (by decide) ?_
  refine aw_iadd C dX12_noted_71 ?_
  refine rp_md_notes C lw_9_16 dX12_noted_72 ?_
  refine ra_name (fun s13 es13 => ?_)
  have h := oL_e es13 h
  refine aw_aload_n C 0 dX12_noted_75 rfl ?_
  refine rg_md_notes C lw_9_16 dX12_noted_76 ?_
  refine aw_iconst (v := 1) C dX12_noted_79 (by decide) ?_
  refine aw_isub C dX12_noted_80 ?_
  cases h
  exact aw_ret hE dX12_noted_81
def f_X12_noted (s0 : St) (x1 : Int32) (x2 : Int32) (x3 : Int32) (x4 : Int32) (x5 : Int32) : Option (Int32 × St) := F_X12_noted_0 s0 x1 x2 x3 x4 x5
theorem c_X12_noted (l : Launch) (D : va_G) (N : Nm) (s0 z1 : St) (x1 : Int32) (x2 : Int32) (x3 : Int32) (x4 : Int32) (x5 : Int32) (r : Int32) (h : f_X12_noted s0 x1 x2 x3 x4 x5 = some (r, z1)) : Meti l yX12_noted (tsU yX12_noted cX12_noted 6 (some .int)) rm_X12_noted D N [.ref (N.1 0), .int x1, .int x2, .int x3, .int x4, .int x5] (wR N s0) r (wR N z1) :=
  met_i (cc := cX12_noted) (nL := 6) (own := RX12) (by decide) rfl (Nat.le_of_ble_eq_true rfl) (fun p e s m args below meth c Q A C hE => aw_sub [0, 1, 2, 3, 4, 5] rfl (T_X12_noted_0 C hE s0 x1 x2 x3 x4 x5 h))
/-! AwardLineModel.count(IIII)I -/
def rm_X12_count : Room := { frames := 2, cells := 0, slots := 0, locals := 41 }
def F_X12_count_55 (s0 : St) : Option (Int32 × St) :=
  some ((-1 : Int32), s0)
set_option maxHeartbeats 4000000 in
set_option maxRecDepth 100000 in
theorem T_X12_count_55 {r : Int32} {z1 : St} (C : Cx p rm_X12_count s m args c D A cX12_count 5 RX12 rm_X12_count N) (hE : En p l e rm_X12_count s m args below meth c Q D A cX12_count .ireturn (wR N z1) [.int r])  (s0 : St) (h : F_X12_count_55 s0 = some (r, z1)) : Aw p l e rm_X12_count s m args below meth c Q D A 5 (wR N s0) 55 [] [] := by
  unfold F_X12_count_55 at h
  refine aw_iconst (v := -1) C dX12_count_55 (by decide) ?_
  cases h
  exact aw_ret hE dX12_count_56
def F_X12_count_0 (s0 : St) (x1 : Int32) (x2 : Int32) (x3 : Int32) (x4 : Int32) : Option (Int32 × St) :=
  oL (sI s0 0 (0 : Int32)) fun s1 =>
  if x1 < 0 then (
    F_X12_count_55 s1)
  else (
    if (4 : Int32) ≤ x1 then (
      F_X12_count_55 s1)
    else (
      oC (f_X12_isVillage s1 x2) fun w4 =>
      oL w4.1 fun v2 => oL w4.2 fun s3 =>
      if v2 = 0 then (
        F_X12_count_55 s3)
      else (
        if x3 < 0 then (
          F_X12_count_55 s3)
        else (
          if (999 : Int32) < x3 then (
            F_X12_count_55 s3)
          else (
            if x4 < 0 then (
              F_X12_count_55 s3)
            else (
              if (999 : Int32) < x4 then (
                F_X12_count_55 s3)
              else (
                if (s3.1 27) = (80 : Int32) then (
                  F_X12_count_55 s3)
                else (
                  oC (f_X12_noted s3 (3 : Int32) x1 x2 x3 x4) fun w7 =>
                  oL w7.1 fun v5 => oL w7.2 fun s6 =>
                  some (v5, s6)))))))))
set_option maxHeartbeats 4000000 in
set_option maxRecDepth 100000 in
theorem T_X12_count_0 {r : Int32} {z1 : St} (C : Cx p rm_X12_count s m args c D A cX12_count 5 RX12 rm_X12_count N) (hE : En p l e rm_X12_count s m args below meth c Q D A cX12_count .ireturn (wR N z1) [.int r])  (s0 : St) (x1 : Int32) (x2 : Int32) (x3 : Int32) (x4 : Int32) (h : F_X12_count_0 s0 x1 x2 x3 x4 = some (r, z1)) : Aw p l e rm_X12_count s m args below meth c Q D A 5 (wR N s0) 0 [(0, .ref (N.1 0)), (1, .int x1), (2, .int x2), (3, .int x3), (4, .int x4)] [] := by
  unfold F_X12_count_0 at h
  refine aw_aload_n C 0 dX12_count_0 rfl ?_
  refine aw_iconst (v := 0) C dX12_count_1 (by decide) ?_
  refine rp_md_thrown C lw_10_11 dX12_count_2 ?_
  refine ra_name (fun s1 es1 => ?_)
  have h := oL_e es1 h
  refine aw_iload_n C 1 dX12_count_5 rfl ?_
  refine aw_if_lt (tgt := 55) C dX12_count_6 (by decide) (fun q => ?_) (fun q => ?_)
  · have h := bq_t q h
    refine aw_sub (lv' := []) [] rfl ?_
    exact T_X12_count_55 C hE s1 h
  · have h := bq_f q h
    refine aw_iload_n C 1 dX12_count_9 rfl ?_
    refine aw_iconst (v := 4) C dX12_count_10 (by decide) ?_
    refine aw_icmp_ge (tgt := 55) C dX12_count_11 (by decide) (fun q => ?_) (fun q => ?_)
    · have h := bq_t q h
      refine aw_sub (lv' := []) [] rfl ?_
      exact T_X12_count_55 C hE s1 h
    · have h := bq_f q h
      refine aw_aload_n C 0 dX12_count_14 rfl ?_
      refine aw_iload_n C 2 dX12_count_15 rfl ?_
      obtain ⟨⟨v2, s3⟩, cw4, h⟩ := oC_e h
      have h := oL_e (x := s3) rfl (oL_e (x := v2) rfl h)
      refine aw_callVi (n := 1) (As := [.int x2]) (rest := []) (q0 := 0) C (c_X12_isVillage l D N s1 s3 x2 v2 cw4) lw_23_19 lw_23_20 lw_23_21 lw_1_5 lw_23_22 rfl rfl (by decide +kernel) ⟨Nat.le_of_ble_eq_true rfl, Nat.le_of_ble_eq_true rfl⟩ rfl rfl rfl rfl rfl (Nat.le_of_ble_eq_true rfl) dX12_count_16 ?_
      refine aw_if_eq (tgt := 55) C dX12_count_19 (by decide) (fun q => ?_) (fun q => ?_)
      · have h := bq_t q h
        refine aw_sub (lv' := []) [] rfl ?_
        exact T_X12_count_55 C hE s3 h
      · have h := bq_f q h
        refine aw_iload_n C 3 dX12_count_22 rfl ?_
        refine aw_if_lt (tgt := 55) C dX12_count_23 (by decide) (fun q => ?_) (fun q => ?_)
        · have h := bq_t q h
          refine aw_sub (lv' := []) [] rfl ?_
          exact T_X12_count_55 C hE s3 h
        · have h := bq_f q h
          refine aw_iload_n C 3 dX12_count_26 rfl ?_
          refine aw_sipush (v := 999) C dX12_count_27 (by decide) ?_
          refine aw_icmp_gt (tgt := 55) C dX12_count_30 (by decide) (fun q => ?_) (fun q => ?_)
          · have h := bq_t q h
            refine aw_sub (lv' := []) [] rfl ?_
            exact T_X12_count_55 C hE s3 h
          · have h := bq_f q h
            refine aw_iload C 4 dX12_count_33 rfl ?_
            refine aw_if_lt (tgt := 55) C dX12_count_35 (by decide) (fun q => ?_) (fun q => ?_)
            · have h := bq_t q h
              refine aw_sub (lv' := []) [] rfl ?_
              exact T_X12_count_55 C hE s3 h
            · have h := bq_f q h
              refine aw_iload C 4 dX12_count_38 rfl ?_
              refine aw_sipush (v := 999) C dX12_count_40 (by decide) ?_
              refine aw_icmp_gt (tgt := 55) C dX12_count_43 (by decide) (fun q => ?_) (fun q => ?_)
              · have h := bq_t q h
                refine aw_sub (lv' := []) [] rfl ?_
                exact T_X12_count_55 C hE s3 h
              · have h := bq_f q h
                refine aw_aload_n C 0 dX12_count_46 rfl ?_
                refine rg_md_notes C lw_9_16 dX12_count_47 ?_
                refine aw_bipush (v := 80) C dX12_count_50 (by decide) ?_
                refine aw_icmp_ne (tgt := 57) C dX12_count_52 (by decide) (fun q => ?_) (fun q => ?_)
                · have h := bq_f q h
                  refine aw_aload_n C 0 dX12_count_57 rfl ?_
                  refine aw_iconst (v := 3) C dX12_count_58 (by decide) ?_
                  refine aw_iload_n C 1 dX12_count_59 rfl ?_
                  refine aw_iload_n C 2 dX12_count_60 rfl ?_
                  refine aw_iload_n C 3 dX12_count_61 rfl ?_
                  refine aw_iload C 4 dX12_count_62 rfl ?_
                  obtain ⟨⟨v5, s6⟩, cw7, h⟩ := oC_e h
                  have h := oL_e (x := s6) rfl (oL_e (x := v5) rfl h)
                  refine aw_callVi (n := 5) (As := [.int (3 : Int32), .int x1, .int x2, .int x3, .int x4]) (rest := []) (q0 := 0) C (c_X12_noted l D N s3 s6 (3 : Int32) x1 x2 x3 x4 v5 cw7) lw_25_7 lw_25_8 lw_25_9 lw_1_5 lw_25_10 rfl rfl (by decide +kernel) ⟨Nat.le_of_ble_eq_true rfl, Nat.le_of_ble_eq_true rfl⟩ rfl rfl rfl rfl rfl (Nat.le_of_ble_eq_true rfl) dX12_count_64 ?_
                  cases h
                  exact aw_ret hE dX12_count_67
                · have h := bq_t q h
                  refine aw_sub (lv' := []) [] rfl ?_
                  exact T_X12_count_55 C hE s3 h
def f_X12_count (s0 : St) (x1 : Int32) (x2 : Int32) (x3 : Int32) (x4 : Int32) : Option (Int32 × St) := F_X12_count_0 s0 x1 x2 x3 x4
theorem c_X12_count (l : Launch) (D : va_G) (N : Nm) (s0 z1 : St) (x1 : Int32) (x2 : Int32) (x3 : Int32) (x4 : Int32) (r : Int32) (h : f_X12_count s0 x1 x2 x3 x4 = some (r, z1)) : Meti l yX12_count (tsU yX12_count cX12_count 5 (some .int)) rm_X12_count D N [.ref (N.1 0), .int x1, .int x2, .int x3, .int x4] (wR N s0) r (wR N z1) :=
  met_i (cc := cX12_count) (nL := 5) (own := RX12) (by decide) rfl (Nat.le_of_ble_eq_true rfl) (fun p e s m args below meth c Q A C hE => aw_sub [0, 1, 2, 3, 4] rfl (T_X12_count_0 C hE s0 x1 x2 x3 x4 h))
/-! AwardLineModel.note(IIII)I -/
def rm_X12_note : Room := { frames := 1, cells := 0, slots := 0, locals := 25 }
def F_X12_note_44 (s0 : St) : Option (Int32 × St) :=
  some ((-1 : Int32), s0)
set_option maxHeartbeats 4000000 in
set_option maxRecDepth 100000 in
theorem T_X12_note_44 {r : Int32} {z1 : St} (C : Cx p rm_X12_note s m args c D A cX12_note 5 RX12 rm_X12_note N) (hE : En p l e rm_X12_note s m args below meth c Q D A cX12_note .ireturn (wR N z1) [.int r])  (s0 : St) (h : F_X12_note_44 s0 = some (r, z1)) : Aw p l e rm_X12_note s m args below meth c Q D A 5 (wR N s0) 44 [] [] := by
  unfold F_X12_note_44 at h
  refine aw_iconst (v := -1) C dX12_note_44 (by decide) ?_
  cases h
  exact aw_ret hE dX12_note_45
def F_X12_note_93 (s0 : St) (x1 : Int32) (x2 : Int32) (x3 : Int32) (x4 : Int32) : Option (Int32 × St) :=
  oC (f_X12_noted s0 x1 x2 x3 x4 (0 : Int32)) fun w3 =>
  oL w3.1 fun v1 => oL w3.2 fun s2 =>
  some (v1, s2)
set_option maxHeartbeats 4000000 in
set_option maxRecDepth 100000 in
theorem T_X12_note_93 {r : Int32} {z1 : St} (C : Cx p rm_X12_note s m args c D A cX12_note 5 RX12 rm_X12_note N) (hE : En p l e rm_X12_note s m args below meth c Q D A cX12_note .ireturn (wR N z1) [.int r])  (s0 : St) (x1 : Int32) (x2 : Int32) (x3 : Int32) (x4 : Int32) (h : F_X12_note_93 s0 x1 x2 x3 x4 = some (r, z1)) : Aw p l e rm_X12_note s m args below meth c Q D A 5 (wR N s0) 93 [(0, .ref (N.1 0)), (1, .int x1), (2, .int x2), (3, .int x3), (4, .int x4)] [] := by
  unfold F_X12_note_93 at h
  refine aw_aload_n C 0 dX12_note_93 rfl ?_
  refine aw_iload_n C 1 dX12_note_94 rfl ?_
  refine aw_iload_n C 2 dX12_note_95 rfl ?_
  refine aw_iload_n C 3 dX12_note_96 rfl ?_
  refine aw_iload C 4 dX12_note_97 rfl ?_
  refine aw_iconst (v := 0) C dX12_note_99 (by decide) ?_
  obtain ⟨⟨v1, s2⟩, cw3, h⟩ := oC_e h
  have h := oL_e (x := s2) rfl (oL_e (x := v1) rfl h)
  refine aw_callVi (n := 5) (As := [.int x1, .int x2, .int x3, .int x4, .int (0 : Int32)]) (rest := []) (q0 := 0) C (c_X12_noted l D N s0 s2 x1 x2 x3 x4 (0 : Int32) v1 cw3) lw_25_7 lw_25_8 lw_25_9 lw_1_5 lw_25_10 rfl rfl (by decide +kernel) ⟨Nat.le_of_ble_eq_true rfl, Nat.le_of_ble_eq_true rfl⟩ rfl rfl rfl rfl rfl (Nat.le_of_ble_eq_true rfl) dX12_note_100 ?_
  cases h
  exact aw_ret hE dX12_note_103
def F_X12_note_76 (s0 : St) (x1 : Int32) (x2 : Int32) (x3 : Int32) (x4 : Int32) : Option (Int32 × St) :=
  if x1 = 0 then (
    oA x2 12 <|
    if (s0.2.1 14 (Int32.toNatClampNeg x2)) ≤ x4 then (
      F_X12_note_93 s0 x1 x2 x3 x4)
    else (
      some ((-1 : Int32), s0)))
  else (
    F_X12_note_93 s0 x1 x2 x3 x4)
set_option maxHeartbeats 4000000 in
set_option maxRecDepth 100000 in
theorem T_X12_note_76 {r : Int32} {z1 : St} (C : Cx p rm_X12_note s m args c D A cX12_note 5 RX12 rm_X12_note N) (hE : En p l e rm_X12_note s m args below meth c Q D A cX12_note .ireturn (wR N z1) [.int r])  (s0 : St) (x1 : Int32) (x2 : Int32) (x3 : Int32) (x4 : Int32) (h : F_X12_note_76 s0 x1 x2 x3 x4 = some (r, z1)) : Aw p l e rm_X12_note s m args below meth c Q D A 5 (wR N s0) 76 [(0, .ref (N.1 0)), (1, .int x1), (2, .int x2), (3, .int x3), (4, .int x4)] [] := by
  unfold F_X12_note_76 at h
  refine aw_iload_n C 1 dX12_note_76 rfl ?_
  refine aw_if_ne (tgt := 93) C dX12_note_77 (by decide) (fun q => ?_) (fun q => ?_)
  · have h := bq_f q h
    refine aw_sub (lv' := [(0, .ref (N.1 0)), (1, .int x1), (2, .int x2), (3, .int x3), (4, .int x4)]) [0, 1, 2, 3, 4] rfl ?_
    exact T_X12_note_93 C hE s0 x1 x2 x3 x4 h
  · have h := bq_t q h
    refine aw_iload C 4 dX12_note_80 rfl ?_
    refine aw_aload_n C 0 dX12_note_82 rfl ?_
    refine rg_md_draftDay C lw_8_15 dX12_note_83 ?_
    refine aw_iload_n C 2 dX12_note_86 rfl ?_
    obtain ⟨q1, h⟩ := oA_e h
    refine ra_iald (k := 14) C (by decide) rfl q1 dX12_note_87 ?_
    refine aw_icmp_ge (tgt := 93) C dX12_note_88 (by decide) (fun q => ?_) (fun q => ?_)
    · have h := bq_t q h
      refine aw_sub (lv' := [(0, .ref (N.1 0)), (1, .int x1), (2, .int x2), (3, .int x3), (4, .int x4)]) [0, 1, 2, 3, 4] rfl ?_
      exact T_X12_note_93 C hE s0 x1 x2 x3 x4 h
    · have h := bq_f q h
      refine aw_iconst (v := -1) C dX12_note_91 (by decide) ?_
      cases h
      exact aw_ret hE dX12_note_92
def F_X12_note_74 (s0 : St) : Option (Int32 × St) :=
  some ((-1 : Int32), s0)
set_option maxHeartbeats 4000000 in
set_option maxRecDepth 100000 in
theorem T_X12_note_74 {r : Int32} {z1 : St} (C : Cx p rm_X12_note s m args c D A cX12_note 5 RX12 rm_X12_note N) (hE : En p l e rm_X12_note s m args below meth c Q D A cX12_note .ireturn (wR N z1) [.int r])  (s0 : St) (h : F_X12_note_74 s0 = some (r, z1)) : Aw p l e rm_X12_note s m args below meth c Q D A 5 (wR N s0) 74 [] [] := by
  unfold F_X12_note_74 at h
  refine aw_iconst (v := -1) C dX12_note_74 (by decide) ?_
  cases h
  exact aw_ret hE dX12_note_75
def F_X12_note_0 (s0 : St) (x1 : Int32) (x2 : Int32) (x3 : Int32) (x4 : Int32) : Option (Int32 × St) :=
  oL (sI s0 0 (0 : Int32)) fun s1 =>
  if x1 < 0 then (
    F_X12_note_44 s1)
  else (
    if (2 : Int32) < x1 then (
      F_X12_note_44 s1)
    else (
      oC (f_X12_isPerson s1 x3) fun w4 =>
      oL w4.1 fun v2 => oL w4.2 fun s3 =>
      if v2 = 0 then (
        F_X12_note_44 s3)
      else (
        if x4 < 0 then (
          F_X12_note_44 s3)
        else (
          if (s3.1 21) < x4 then (
            F_X12_note_44 s3)
          else (
            if (s3.1 27) = (80 : Int32) then (
              F_X12_note_44 s3)
            else (
              if x1 = (1 : Int32) then (
                oC (f_X12_isPerson s3 x2) fun w10 =>
                oL w10.1 fun v8 => oL w10.2 fun s9 =>
                if v8 = 0 then (
                  F_X12_note_74 s9)
                else (
                  if x2 = x3 then (
                    F_X12_note_74 s9)
                  else (
                    F_X12_note_76 s9 x1 x2 x3 x4)))
              else (
                oC (f_X12_isDraft s3 x2) fun w7 =>
                oL w7.1 fun v5 => oL w7.2 fun s6 =>
                if v5 = 0 then (
                  F_X12_note_74 s6)
                else (
                  F_X12_note_76 s6 x1 x2 x3 x4))))))))
set_option maxHeartbeats 4000000 in
set_option maxRecDepth 100000 in
theorem T_X12_note_0 {r : Int32} {z1 : St} (C : Cx p rm_X12_note s m args c D A cX12_note 5 RX12 rm_X12_note N) (hE : En p l e rm_X12_note s m args below meth c Q D A cX12_note .ireturn (wR N z1) [.int r])  (s0 : St) (x1 : Int32) (x2 : Int32) (x3 : Int32) (x4 : Int32) (h : F_X12_note_0 s0 x1 x2 x3 x4 = some (r, z1)) : Aw p l e rm_X12_note s m args below meth c Q D A 5 (wR N s0) 0 [(0, .ref (N.1 0)), (1, .int x1), (2, .int x2), (3, .int x3), (4, .int x4)] [] := by
  unfold F_X12_note_0 at h
  refine aw_aload_n C 0 dX12_note_0 rfl ?_
  refine aw_iconst (v := 0) C dX12_note_1 (by decide) ?_
  refine rp_md_thrown C lw_10_11 dX12_note_2 ?_
  refine ra_name (fun s1 es1 => ?_)
  have h := oL_e es1 h
  refine aw_iload_n C 1 dX12_note_5 rfl ?_
  refine aw_if_lt (tgt := 44) C dX12_note_6 (by decide) (fun q => ?_) (fun q => ?_)
  · have h := bq_t q h
    refine aw_sub (lv' := []) [] rfl ?_
    exact T_X12_note_44 C hE s1 h
  · have h := bq_f q h
    refine aw_iload_n C 1 dX12_note_9 rfl ?_
    refine aw_iconst (v := 2) C dX12_note_10 (by decide) ?_
    refine aw_icmp_gt (tgt := 44) C dX12_note_11 (by decide) (fun q => ?_) (fun q => ?_)
    · have h := bq_t q h
      refine aw_sub (lv' := []) [] rfl ?_
      exact T_X12_note_44 C hE s1 h
    · have h := bq_f q h
      refine aw_iload_n C 3 dX12_note_14 rfl ?_
      obtain ⟨⟨v2, s3⟩, cw4, h⟩ := oC_e h
      have h := oL_e (x := s3) rfl (oL_e (x := v2) rfl h)
      refine aw_callSi (n := 1) (As := [.int x3]) (rest := []) C (c_X12_isPerson l D N s1 s3 x3 v2 cw4) lw_26_4 lw_26_5 lw_1_5 lw_26_6 rfl rfl (by decide +kernel) ⟨Nat.le_of_ble_eq_true rfl, Nat.le_of_ble_eq_true rfl⟩ rfl rfl (Nat.le_of_ble_eq_true rfl) dX12_note_15 ?_
      refine aw_if_eq (tgt := 44) C dX12_note_18 (by decide) (fun q => ?_) (fun q => ?_)
      · have h := bq_t q h
        refine aw_sub (lv' := []) [] rfl ?_
        exact T_X12_note_44 C hE s3 h
      · have h := bq_f q h
        refine aw_iload C 4 dX12_note_21 rfl ?_
        refine aw_if_lt (tgt := 44) C dX12_note_23 (by decide) (fun q => ?_) (fun q => ?_)
        · have h := bq_t q h
          refine aw_sub (lv' := []) [] rfl ?_
          exact T_X12_note_44 C hE s3 h
        · have h := bq_f q h
          refine aw_iload C 4 dX12_note_26 rfl ?_
          refine aw_aload_n C 0 dX12_note_28 rfl ?_
          refine rg_md_today C lw_22_23 dX12_note_29 ?_
          refine aw_icmp_gt (tgt := 44) C dX12_note_32 (by decide) (fun q => ?_) (fun q => ?_)
          · have h := bq_t q h
            refine aw_sub (lv' := []) [] rfl ?_
            exact T_X12_note_44 C hE s3 h
          · have h := bq_f q h
            refine aw_aload_n C 0 dX12_note_35 rfl ?_
            refine rg_md_notes C lw_9_16 dX12_note_36 ?_
            refine aw_bipush (v := 80) C dX12_note_39 (by decide) ?_
            refine aw_icmp_ne (tgt := 46) C dX12_note_41 (by decide) (fun q => ?_) (fun q => ?_)
            · have h := bq_f q h
              refine aw_iload_n C 1 dX12_note_46 rfl ?_
              refine aw_iconst (v := 1) C dX12_note_47 (by decide) ?_
              refine aw_icmp_ne (tgt := 66) C dX12_note_48 (by decide) (fun q => ?_) (fun q => ?_)
              · have h := bq_f q h
                refine aw_aload_n C 0 dX12_note_66 rfl ?_
                refine aw_iload_n C 2 dX12_note_67 rfl ?_
                obtain ⟨⟨v5, s6⟩, cw7, h⟩ := oC_e h
                have h := oL_e (x := s6) rfl (oL_e (x := v5) rfl h)
                refine aw_callVi (n := 1) (As := [.int x2]) (rest := []) (q0 := 0) C (c_X12_isDraft l D N s3 s6 x2 v5 cw7) lw_26_7 lw_26_8 lw_26_9 lw_1_5 lw_26_10 rfl rfl (by decide +kernel) ⟨Nat.le_of_ble_eq_true rfl, Nat.le_of_ble_eq_true rfl⟩ rfl rfl rfl rfl rfl (Nat.le_of_ble_eq_true rfl) dX12_note_68 ?_
                refine aw_if_ne (tgt := 76) C dX12_note_71 (by decide) (fun q => ?_) (fun q => ?_)
                · have h := bq_f q h
                  refine aw_sub (lv' := [(0, .ref (N.1 0)), (1, .int x1), (2, .int x2), (3, .int x3), (4, .int x4)]) [0, 1, 2, 3, 4] rfl ?_
                  exact T_X12_note_76 C hE s6 x1 x2 x3 x4 h
                · have h := bq_t q h
                  refine aw_sub (lv' := []) [] rfl ?_
                  exact T_X12_note_74 C hE s6 h
              · have h := bq_t q h
                refine aw_iload_n C 2 dX12_note_51 rfl ?_
                obtain ⟨⟨v8, s9⟩, cw10, h⟩ := oC_e h
                have h := oL_e (x := s9) rfl (oL_e (x := v8) rfl h)
                refine aw_callSi (n := 1) (As := [.int x2]) (rest := []) C (c_X12_isPerson l D N s3 s9 x2 v8 cw10) lw_26_4 lw_26_5 lw_1_5 lw_26_6 rfl rfl (by decide +kernel) ⟨Nat.le_of_ble_eq_true rfl, Nat.le_of_ble_eq_true rfl⟩ rfl rfl (Nat.le_of_ble_eq_true rfl) dX12_note_52 ?_
                refine aw_if_eq (tgt := 74) C dX12_note_55 (by decide) (fun q => ?_) (fun q => ?_)
                · have h := bq_t q h
                  refine aw_sub (lv' := []) [] rfl ?_
                  exact T_X12_note_74 C hE s9 h
                · have h := bq_f q h
                  refine aw_iload_n C 2 dX12_note_58 rfl ?_
                  refine aw_iload_n C 3 dX12_note_59 rfl ?_
                  refine aw_icmp_ne (tgt := 76) C dX12_note_60 (by decide) (fun q => ?_) (fun q => ?_)
                  · have h := bq_f q h
                    refine aw_sub (lv' := [(0, .ref (N.1 0)), (1, .int x1), (2, .int x2), (3, .int x3), (4, .int x4)]) [0, 1, 2, 3, 4] rfl ?_
                    exact T_X12_note_76 C hE s9 x1 x2 x3 x4 h
                  · have h := bq_t q h
                    refine aw_goto (tgt := 74) C dX12_note_63 (by decide) ?_
                    refine aw_sub (lv' := []) [] rfl ?_
                    exact T_X12_note_74 C hE s9 h
            · have h := bq_t q h
              refine aw_sub (lv' := []) [] rfl ?_
              exact T_X12_note_44 C hE s3 h
def f_X12_note (s0 : St) (x1 : Int32) (x2 : Int32) (x3 : Int32) (x4 : Int32) : Option (Int32 × St) := F_X12_note_0 s0 x1 x2 x3 x4
theorem c_X12_note (l : Launch) (D : va_G) (N : Nm) (s0 z1 : St) (x1 : Int32) (x2 : Int32) (x3 : Int32) (x4 : Int32) (r : Int32) (h : f_X12_note s0 x1 x2 x3 x4 = some (r, z1)) : Meti l yX12_note (tsU yX12_note cX12_note 5 (some .int)) rm_X12_note D N [.ref (N.1 0), .int x1, .int x2, .int x3, .int x4] (wR N s0) r (wR N z1) :=
  met_i (cc := cX12_note) (nL := 5) (own := RX12) (by decide) rfl (Nat.le_of_ble_eq_true rfl) (fun p e s m args below meth c Q A C hE => aw_sub [0, 1, 2, 3, 4] rfl (T_X12_note_0 C hE s0 x1 x2 x3 x4 h))
/-! AwardLineModel.strike(I)I -/
def rm_X12_strike : Room := { frames := 1, cells := 0, slots := 0, locals := 25 }
def F_X12_strike_26 (s0 : St) : Option (Int32 × St) :=
  some ((-1 : Int32), s0)
set_option maxHeartbeats 4000000 in
set_option maxRecDepth 100000 in
theorem T_X12_strike_26 {r : Int32} {z1 : St} (C : Cx p rm_X12_strike s m args c D A cX12_strike 2 RX12 rm_X12_strike N) (hE : En p l e rm_X12_strike s m args below meth c Q D A cX12_strike .ireturn (wR N z1) [.int r])  (s0 : St) (h : F_X12_strike_26 s0 = some (r, z1)) : Aw p l e rm_X12_strike s m args below meth c Q D A 2 (wR N s0) 26 [] [] := by
  unfold F_X12_strike_26 at h
  refine aw_iconst (v := -1) C dX12_strike_26 (by decide) ?_
  cases h
  exact aw_ret hE dX12_strike_27
def F_X12_strike_0 (s0 : St) (x1 : Int32) : Option (Int32 × St) :=
  oL (sI s0 0 (0 : Int32)) fun s1 =>
  if x1 < 0 then (
    F_X12_strike_26 s1)
  else (
    if (s1.1 27) ≤ x1 then (
      F_X12_strike_26 s1)
    else (
      if (s1.1 27) = (80 : Int32) then (
        F_X12_strike_26 s1)
      else (
        oC (f_X12_noted s1 (4 : Int32) x1 (0 : Int32) (0 : Int32) (0 : Int32)) fun w4 =>
        oL w4.1 fun v2 => oL w4.2 fun s3 =>
        some (v2, s3))))
set_option maxHeartbeats 4000000 in
set_option maxRecDepth 100000 in
theorem T_X12_strike_0 {r : Int32} {z1 : St} (C : Cx p rm_X12_strike s m args c D A cX12_strike 2 RX12 rm_X12_strike N) (hE : En p l e rm_X12_strike s m args below meth c Q D A cX12_strike .ireturn (wR N z1) [.int r])  (s0 : St) (x1 : Int32) (h : F_X12_strike_0 s0 x1 = some (r, z1)) : Aw p l e rm_X12_strike s m args below meth c Q D A 2 (wR N s0) 0 [(0, .ref (N.1 0)), (1, .int x1)] [] := by
  unfold F_X12_strike_0 at h
  refine aw_aload_n C 0 dX12_strike_0 rfl ?_
  refine aw_iconst (v := 0) C dX12_strike_1 (by decide) ?_
  refine rp_md_thrown C lw_10_11 dX12_strike_2 ?_
  refine ra_name (fun s1 es1 => ?_)
  have h := oL_e es1 h
  refine aw_iload_n C 1 dX12_strike_5 rfl ?_
  refine aw_if_lt (tgt := 26) C dX12_strike_6 (by decide) (fun q => ?_) (fun q => ?_)
  · have h := bq_t q h
    refine aw_sub (lv' := []) [] rfl ?_
    exact T_X12_strike_26 C hE s1 h
  · have h := bq_f q h
    refine aw_iload_n C 1 dX12_strike_9 rfl ?_
    refine aw_aload_n C 0 dX12_strike_10 rfl ?_
    refine rg_md_notes C lw_9_16 dX12_strike_11 ?_
    refine aw_icmp_ge (tgt := 26) C dX12_strike_14 (by decide) (fun q => ?_) (fun q => ?_)
    · have h := bq_t q h
      refine aw_sub (lv' := []) [] rfl ?_
      exact T_X12_strike_26 C hE s1 h
    · have h := bq_f q h
      refine aw_aload_n C 0 dX12_strike_17 rfl ?_
      refine rg_md_notes C lw_9_16 dX12_strike_18 ?_
      refine aw_bipush (v := 80) C dX12_strike_21 (by decide) ?_
      refine aw_icmp_ne (tgt := 28) C dX12_strike_23 (by decide) (fun q => ?_) (fun q => ?_)
      · have h := bq_f q h
        refine aw_aload_n C 0 dX12_strike_28 rfl ?_
        refine aw_iconst (v := 4) C dX12_strike_29 (by decide) ?_
        refine aw_iload_n C 1 dX12_strike_30 rfl ?_
        refine aw_iconst (v := 0) C dX12_strike_31 (by decide) ?_
        refine aw_iconst (v := 0) C dX12_strike_32 (by decide) ?_
        refine aw_iconst (v := 0) C dX12_strike_33 (by decide) ?_
        obtain ⟨⟨v2, s3⟩, cw4, h⟩ := oC_e h
        have h := oL_e (x := s3) rfl (oL_e (x := v2) rfl h)
        refine aw_callVi (n := 5) (As := [.int (4 : Int32), .int x1, .int (0 : Int32), .int (0 : Int32), .int (0 : Int32)]) (rest := []) (q0 := 0) C (c_X12_noted l D N s1 s3 (4 : Int32) x1 (0 : Int32) (0 : Int32) (0 : Int32) v2 cw4) lw_25_7 lw_25_8 lw_25_9 lw_1_5 lw_25_10 rfl rfl (by decide +kernel) ⟨Nat.le_of_ble_eq_true rfl, Nat.le_of_ble_eq_true rfl⟩ rfl rfl rfl rfl rfl (Nat.le_of_ble_eq_true rfl) dX12_strike_34 ?_
        cases h
        exact aw_ret hE dX12_strike_37
      · have h := bq_t q h
        refine aw_sub (lv' := []) [] rfl ?_
        exact T_X12_strike_26 C hE s1 h
def f_X12_strike (s0 : St) (x1 : Int32) : Option (Int32 × St) := F_X12_strike_0 s0 x1
theorem c_X12_strike (l : Launch) (D : va_G) (N : Nm) (s0 z1 : St) (x1 : Int32) (r : Int32) (h : f_X12_strike s0 x1 = some (r, z1)) : Meti l yX12_strike (tsU yX12_strike cX12_strike 2 (some .int)) rm_X12_strike D N [.ref (N.1 0), .int x1] (wR N s0) r (wR N z1) :=
  met_i (cc := cX12_strike) (nL := 2) (own := RX12) (by decide) rfl (Nat.le_of_ble_eq_true rfl) (fun p e s m args below meth c Q A C hE => aw_sub [0, 1] rfl (T_X12_strike_0 C hE s0 x1 h))
/-! AwardLineModel.knowsNotes(I)V -/
def rm_X12_knowsNotes : Room := { frames := 0, cells := 0, slots := 0, locals := 0 }
def F_X12_knowsNotes_120 (k83 : St → Int32 → Int32 → Option (St)) (s0 : St) (x1 : Int32) (x2 : Int32) (t0 : Int32) (t1 : Int32) : Option (St) :=
  oA t1 80 <|
  oL (sA s0 23 (upd (s0.2.1 23) (Int32.toNatClampNeg t1) (vp_nar .boolean t0))) fun s2 =>
  oL (x2 + (1 : Int32)) fun y3 =>
  k83 s2 x1 y3
set_option maxHeartbeats 4000000 in
set_option maxRecDepth 100000 in
theorem T_X12_knowsNotes_120 {z1 : St} {k83 : St → Int32 → Int32 → Option (St)} (C : Cx p rm_X12_knowsNotes s m args c D A cX12_knowsNotes 3 RX12 rm_X12_knowsNotes N) (hE : En p l e rm_X12_knowsNotes s m args below meth c Q D A cX12_knowsNotes .return_ (wR N z1) []) (hk83 : ∀ (s0 : St) (x1 : Int32) (x2 : Int32), k83 s0 x1 x2 = some z1 → Aw p l e rm_X12_knowsNotes s m args below meth c Q D A 3 (wR N s0) 83 [(0, .ref (N.1 0)), (1, .int x1), (2, .int x2)] []) (s0 : St) (x1 : Int32) (x2 : Int32) (t0 : Int32) (t1 : Int32) (h : F_X12_knowsNotes_120 k83 s0 x1 x2 t0 t1 = some z1) : Aw p l e rm_X12_knowsNotes s m args below meth c Q D A 3 (wR N s0) 120 [(0, .ref (N.1 0)), (1, .int x1), (2, .int x2)] [.int t0, .int t1, .ref (N.2.1 23)] := by
  unfold F_X12_knowsNotes_120 at h
  obtain ⟨q1, h⟩ := oA_e h
  refine ra_zast (k := 23) C (by decide) rfl q1 dX12_knowsNotes_120 ?_
  refine ra_name (fun s2 es2 => ?_)
  have h := oL_e es2 h
  obtain ⟨y3, ey3⟩ : ∃ q : Int32, q = x2 + (1 : Int32) := ⟨_, rfl⟩
  have h := oL_e ey3 h
  refine aw_iinc (v := y3) (k := 2) (lv' := [(0, .ref (N.1 0)), (1, .int x1), (2, .int y3)]) C [1, 2, 0] dX12_knowsNotes_121 rfl (by rw [ey3]; rfl) (by decide) rfl ?_
  refine aw_goto (tgt := 83) C dX12_knowsNotes_124 (by decide) ?_
  refine aw_sub (lv' := [(0, .ref (N.1 0)), (1, .int x1), (2, .int y3)]) [0, 1, 2] rfl ?_
  exact hk83 s2 x1 y3 h
def F_X12_knowsNotes_119 (k83 : St → Int32 → Int32 → Option (St)) (s0 : St) (x1 : Int32) (x2 : Int32) (t0 : Int32) : Option (St) :=
  F_X12_knowsNotes_120 k83 s0 x1 x2 (0 : Int32) t0
set_option maxHeartbeats 4000000 in
set_option maxRecDepth 100000 in
theorem T_X12_knowsNotes_119 {z1 : St} {k83 : St → Int32 → Int32 → Option (St)} (C : Cx p rm_X12_knowsNotes s m args c D A cX12_knowsNotes 3 RX12 rm_X12_knowsNotes N) (hE : En p l e rm_X12_knowsNotes s m args below meth c Q D A cX12_knowsNotes .return_ (wR N z1) []) (hk83 : ∀ (s0 : St) (x1 : Int32) (x2 : Int32), k83 s0 x1 x2 = some z1 → Aw p l e rm_X12_knowsNotes s m args below meth c Q D A 3 (wR N s0) 83 [(0, .ref (N.1 0)), (1, .int x1), (2, .int x2)] []) (s0 : St) (x1 : Int32) (x2 : Int32) (t0 : Int32) (h : F_X12_knowsNotes_119 k83 s0 x1 x2 t0 = some z1) : Aw p l e rm_X12_knowsNotes s m args below meth c Q D A 3 (wR N s0) 119 [(0, .ref (N.1 0)), (1, .int x1), (2, .int x2)] [.int t0, .ref (N.2.1 23)] := by
  unfold F_X12_knowsNotes_119 at h
  refine aw_iconst (v := 0) C dX12_knowsNotes_119 (by decide) ?_
  refine aw_sub (lv' := [(0, .ref (N.1 0)), (1, .int x1), (2, .int x2)]) [0, 1, 2] rfl ?_
  exact T_X12_knowsNotes_120 C hE hk83 s0 x1 x2 (0 : Int32) t0 h
def F_X12_knowsNotes_83_b (k83 : St → Int32 → Int32 → Option (St)) (s0 : St) (x1 : Int32) (x2 : Int32) : Option (St) :=
  if (s0.1 27) ≤ x2 then (
    some s0)
  else (
    oA x2 80 <|
    if x1 < (s0.2.1 17 (Int32.toNatClampNeg x2)) then (
      F_X12_knowsNotes_119 k83 s0 x1 x2 x2)
    else (
      oA x2 80 <|
      if (s0.2.1 22 (Int32.toNatClampNeg x2)) = 0 then (
        F_X12_knowsNotes_120 k83 s0 x1 x2 (1 : Int32) x2)
      else (
        F_X12_knowsNotes_119 k83 s0 x1 x2 x2)))
set_option maxHeartbeats 4000000 in
set_option maxRecDepth 100000 in
theorem T_X12_knowsNotes_83_b {z1 : St} {k83 : St → Int32 → Int32 → Option (St)} (C : Cx p rm_X12_knowsNotes s m args c D A cX12_knowsNotes 3 RX12 rm_X12_knowsNotes N) (hE : En p l e rm_X12_knowsNotes s m args below meth c Q D A cX12_knowsNotes .return_ (wR N z1) []) (hk83 : ∀ (s0 : St) (x1 : Int32) (x2 : Int32), k83 s0 x1 x2 = some z1 → Aw p l e rm_X12_knowsNotes s m args below meth c Q D A 3 (wR N s0) 83 [(0, .ref (N.1 0)), (1, .int x1), (2, .int x2)] []) (s0 : St) (x1 : Int32) (x2 : Int32) (h : F_X12_knowsNotes_83_b k83 s0 x1 x2 = some z1) : Aw p l e rm_X12_knowsNotes s m args below meth c Q D A 3 (wR N s0) 83 [(0, .ref (N.1 0)), (1, .int x1), (2, .int x2)] [] := by
  unfold F_X12_knowsNotes_83_b at h
  refine aw_iload_n C 2 dX12_knowsNotes_83 rfl ?_
  refine aw_aload_n C 0 dX12_knowsNotes_84 rfl ?_
  refine rg_md_notes C lw_9_16 dX12_knowsNotes_85 ?_
  refine aw_icmp_ge (tgt := 127) C dX12_knowsNotes_88 (by decide) (fun q => ?_) (fun q => ?_)
  · have h := bq_t q h
    cases h
    exact aw_ret hE dX12_knowsNotes_127
  · have h := bq_f q h
    refine aw_aload_n C 0 dX12_knowsNotes_91 rfl ?_
    refine rg_md_counts C lw_9_0 dX12_knowsNotes_92 ?_
    refine aw_iload_n C 2 dX12_knowsNotes_95 rfl ?_
    refine aw_aload_n C 0 dX12_knowsNotes_96 rfl ?_
    refine rg_md_noteTold C lw_8_18 dX12_knowsNotes_97 ?_
    refine aw_iload_n C 2 dX12_knowsNotes_100 rfl ?_
    obtain ⟨q1, h⟩ := oA_e h
    refine ra_iald (k := 17) C (by decide) rfl q1 dX12_knowsNotes_101 ?_
    refine aw_iload_n C 1 dX12_knowsNotes_102 rfl ?_
    refine aw_icmp_gt (tgt := 119) C dX12_knowsNotes_103 (by decide) (fun q => ?_) (fun q => ?_)
    · have h := bq_t q h
      refine aw_sub (lv' := [(0, .ref (N.1 0)), (1, .int x1), (2, .int x2)]) [0, 1, 2] rfl ?_
      exact T_X12_knowsNotes_119 C hE hk83 s0 x1 x2 x2 h
    · have h := bq_f q h
      refine aw_aload_n C 0 dX12_knowsNotes_106 rfl ?_
      refine rg_md_isStruck C lw_8_23 dX12_knowsNotes_107 ?_
      refine aw_iload_n C 2 dX12_knowsNotes_110 rfl ?_
      obtain ⟨q2, h⟩ := oA_e h
      refine ra_zald (k := 22) C (by decide) rfl q2 dX12_knowsNotes_111 ?_
      refine aw_if_ne (tgt := 119) C dX12_knowsNotes_112 (by decide) (fun q => ?_) (fun q => ?_)
      · have h := bq_f q h
        refine aw_sub (lv' := [(0, .ref (N.1 0)), (1, .int x1), (2, .int x2)]) [0, 1, 2] rfl ?_
        exact T_X12_knowsNotes_119 C hE hk83 s0 x1 x2 x2 h
      · have h := bq_t q h
        refine aw_iconst (v := 1) C dX12_knowsNotes_115 (by decide) ?_
        refine aw_goto (tgt := 120) C dX12_knowsNotes_116 (by decide) ?_
        refine aw_sub (lv' := [(0, .ref (N.1 0)), (1, .int x1), (2, .int x2)]) [0, 1, 2] rfl ?_
        exact T_X12_knowsNotes_120 C hE hk83 s0 x1 x2 (1 : Int32) x2 h
def F_X12_knowsNotes_83 : Nat → St → Int32 → Int32 → Option (St)
  | 0 => fun _ _ _ => none
  | n + 1 => F_X12_knowsNotes_83_b (F_X12_knowsNotes_83 n)
theorem T_X12_knowsNotes_83 {z1 : St} (C : Cx p rm_X12_knowsNotes s m args c D A cX12_knowsNotes 3 RX12 rm_X12_knowsNotes N) (hE : En p l e rm_X12_knowsNotes s m args below meth c Q D A cX12_knowsNotes .return_ (wR N z1) [])  : ∀ (n : Nat) (s0 : St) (x1 : Int32) (x2 : Int32), F_X12_knowsNotes_83 n s0 x1 x2 = some z1 → Aw p l e rm_X12_knowsNotes s m args below meth c Q D A 3 (wR N s0) 83 [(0, .ref (N.1 0)), (1, .int x1), (2, .int x2)] [] := by
  intro n
  induction n with
  | zero => intro s0 x1 x2 h; cases h
  | succ n ih => intro s0 x1 x2 h; exact T_X12_knowsNotes_83_b C hE ih s0 x1 x2 h
def F_X12_knowsNotes_75 (k30 : St → Int32 → Int32 → Option (St)) (s0 : St) (x1 : Int32) (x2 : Int32) : Option (St) :=
  oL (x2 + (-1 : Int32)) fun y1 =>
  k30 s0 x1 y1
set_option maxHeartbeats 4000000 in
set_option maxRecDepth 100000 in
theorem T_X12_knowsNotes_75 {z1 : St} {k30 : St → Int32 → Int32 → Option (St)} (C : Cx p rm_X12_knowsNotes s m args c D A cX12_knowsNotes 3 RX12 rm_X12_knowsNotes N) (hE : En p l e rm_X12_knowsNotes s m args below meth c Q D A cX12_knowsNotes .return_ (wR N z1) []) (hk30 : ∀ (s0 : St) (x1 : Int32) (x2 : Int32), k30 s0 x1 x2 = some z1 → Aw p l e rm_X12_knowsNotes s m args below meth c Q D A 3 (wR N s0) 30 [(0, .ref (N.1 0)), (1, .int x1), (2, .int x2)] []) (s0 : St) (x1 : Int32) (x2 : Int32) (h : F_X12_knowsNotes_75 k30 s0 x1 x2 = some z1) : Aw p l e rm_X12_knowsNotes s m args below meth c Q D A 3 (wR N s0) 75 [(0, .ref (N.1 0)), (1, .int x1), (2, .int x2)] [] := by
  unfold F_X12_knowsNotes_75 at h
  obtain ⟨y1, ey1⟩ : ∃ q : Int32, q = x2 + (-1 : Int32) := ⟨_, rfl⟩
  have h := oL_e ey1 h
  refine aw_iinc (v := y1) (k := 2) (lv' := [(0, .ref (N.1 0)), (1, .int x1), (2, .int y1)]) C [1, 2, 0] dX12_knowsNotes_75 rfl (by rw [ey1]; rfl) (by decide) rfl ?_
  refine aw_goto (tgt := 30) C dX12_knowsNotes_78 (by decide) ?_
  refine aw_sub (lv' := [(0, .ref (N.1 0)), (1, .int x1), (2, .int y1)]) [0, 1, 2] rfl ?_
  exact hk30 s0 x1 y1 h
def F_X12_knowsNotes_30_b (k30 : St → Int32 → Int32 → Option (St)) (s0 : St) (x1 : Int32) (x2 : Int32) : Option (St) :=
  if x2 < 0 then (
    oL (0 : Int32) fun y1 =>
    F_X12_knowsNotes_83 100000 s0 x1 y1)
  else (
    oA x2 80 <|
    if x1 < (s0.2.1 17 (Int32.toNatClampNeg x2)) then (
      F_X12_knowsNotes_75 k30 s0 x1 x2)
    else (
      oA x2 80 <|
      if (s0.2.1 22 (Int32.toNatClampNeg x2)) = 0 then (
        oA x2 80 <|
        if (s0.2.1 16 (Int32.toNatClampNeg x2)) = (4 : Int32) then (
          oA x2 80 <|
          oA (s0.2.1 18 (Int32.toNatClampNeg x2)) 80 <|
          oL (sA s0 22 (upd (s0.2.1 22) (Int32.toNatClampNeg (s0.2.1 18 (Int32.toNatClampNeg x2))) (vp_nar .boolean (1 : Int32)))) fun s7 =>
          F_X12_knowsNotes_75 k30 s7 x1 x2)
        else (
          F_X12_knowsNotes_75 k30 s0 x1 x2))
      else (
        F_X12_knowsNotes_75 k30 s0 x1 x2)))
set_option maxHeartbeats 4000000 in
set_option maxRecDepth 100000 in
theorem T_X12_knowsNotes_30_b {z1 : St} {k30 : St → Int32 → Int32 → Option (St)} (C : Cx p rm_X12_knowsNotes s m args c D A cX12_knowsNotes 3 RX12 rm_X12_knowsNotes N) (hE : En p l e rm_X12_knowsNotes s m args below meth c Q D A cX12_knowsNotes .return_ (wR N z1) []) (hk30 : ∀ (s0 : St) (x1 : Int32) (x2 : Int32), k30 s0 x1 x2 = some z1 → Aw p l e rm_X12_knowsNotes s m args below meth c Q D A 3 (wR N s0) 30 [(0, .ref (N.1 0)), (1, .int x1), (2, .int x2)] []) (s0 : St) (x1 : Int32) (x2 : Int32) (h : F_X12_knowsNotes_30_b k30 s0 x1 x2 = some z1) : Aw p l e rm_X12_knowsNotes s m args below meth c Q D A 3 (wR N s0) 30 [(0, .ref (N.1 0)), (1, .int x1), (2, .int x2)] [] := by
  unfold F_X12_knowsNotes_30_b at h
  refine aw_iload_n C 2 dX12_knowsNotes_30 rfl ?_
  refine aw_if_lt (tgt := 81) C dX12_knowsNotes_31 (by decide) (fun q => ?_) (fun q => ?_)
  · have h := bq_t q h
    refine aw_iconst (v := 0) C dX12_knowsNotes_81 (by decide) ?_
    refine aw_topi (fun y1 ey1 => ?_)
    have h := oL_e ey1 h
    refine aw_istore_n (lv' := [(0, .ref (N.1 0)), (1, .int x1), (2, .int y1)]) C [1, 2, 0] dX12_knowsNotes_82 rfl (by decide) rfl ?_
    refine aw_sub (lv' := [(0, .ref (N.1 0)), (1, .int x1), (2, .int y1)]) [0, 1, 2] rfl ?_
    exact T_X12_knowsNotes_83 C hE 100000 s0 x1 y1 h
  · have h := bq_f q h
    refine aw_aload_n C 0 dX12_knowsNotes_34 rfl ?_
    refine rg_md_noteTold C lw_8_18 dX12_knowsNotes_35 ?_
    refine aw_iload_n C 2 dX12_knowsNotes_38 rfl ?_
    obtain ⟨q2, h⟩ := oA_e h
    refine ra_iald (k := 17) C (by decide) rfl q2 dX12_knowsNotes_39 ?_
    refine aw_iload_n C 1 dX12_knowsNotes_40 rfl ?_
    refine aw_icmp_gt (tgt := 75) C dX12_knowsNotes_41 (by decide) (fun q => ?_) (fun q => ?_)
    · have h := bq_t q h
      refine aw_sub (lv' := [(0, .ref (N.1 0)), (1, .int x1), (2, .int x2)]) [0, 1, 2] rfl ?_
      exact T_X12_knowsNotes_75 C hE hk30 s0 x1 x2 h
    · have h := bq_f q h
      refine aw_aload_n C 0 dX12_knowsNotes_44 rfl ?_
      refine rg_md_isStruck C lw_8_23 dX12_knowsNotes_45 ?_
      refine aw_iload_n C 2 dX12_knowsNotes_48 rfl ?_
      obtain ⟨q3, h⟩ := oA_e h
      refine ra_zald (k := 22) C (by decide) rfl q3 dX12_knowsNotes_49 ?_
      refine aw_if_ne (tgt := 75) C dX12_knowsNotes_50 (by decide) (fun q => ?_) (fun q => ?_)
      · have h := bq_f q h
        refine aw_sub (lv' := [(0, .ref (N.1 0)), (1, .int x1), (2, .int x2)]) [0, 1, 2] rfl ?_
        exact T_X12_knowsNotes_75 C hE hk30 s0 x1 x2 h
      · have h := bq_t q h
        refine aw_aload_n C 0 dX12_knowsNotes_53 rfl ?_
        refine rg_md_kind C lw_8_17 dX12_knowsNotes_54 ?_
        refine aw_iload_n C 2 dX12_knowsNotes_57 rfl ?_
        obtain ⟨q4, h⟩ := oA_e h
        refine ra_iald (k := 16) C (by decide) rfl q4 dX12_knowsNotes_58 ?_
        refine aw_iconst (v := 4) C dX12_knowsNotes_59 (by decide) ?_
        refine aw_icmp_ne (tgt := 75) C dX12_knowsNotes_60 (by decide) (fun q => ?_) (fun q => ?_)
        · have h := bq_f q h
          refine aw_sub (lv' := [(0, .ref (N.1 0)), (1, .int x1), (2, .int x2)]) [0, 1, 2] rfl ?_
          exact T_X12_knowsNotes_75 C hE hk30 s0 x1 x2 h
        · have h := bq_t q h
          refine aw_aload_n C 0 dX12_knowsNotes_63 rfl ?_
          refine rg_md_isStruck C lw_8_23 dX12_knowsNotes_64 ?_
          refine aw_aload_n C 0 dX12_knowsNotes_67 rfl ?_
          refine rg_md_one C lw_8_19 dX12_knowsNotes_68 ?_
          refine aw_iload_n C 2 dX12_knowsNotes_71 rfl ?_
          obtain ⟨q5, h⟩ := oA_e h
          refine ra_iald (k := 18) C (by decide) rfl q5 dX12_knowsNotes_72 ?_
          refine aw_iconst (v := 1) C dX12_knowsNotes_73 (by decide) ?_
          obtain ⟨q6, h⟩ := oA_e h
          refine ra_zast (k := 22) C (by decide) rfl q6 dX12_knowsNotes_74 ?_
          refine ra_name (fun s7 es7 => ?_)
          have h := oL_e es7 h
          refine aw_sub (lv' := [(0, .ref (N.1 0)), (1, .int x1), (2, .int x2)]) [0, 1, 2] rfl ?_
          exact T_X12_knowsNotes_75 C hE hk30 s7 x1 x2 h
def F_X12_knowsNotes_30 : Nat → St → Int32 → Int32 → Option (St)
  | 0 => fun _ _ _ => none
  | n + 1 => F_X12_knowsNotes_30_b (F_X12_knowsNotes_30 n)
theorem T_X12_knowsNotes_30 {z1 : St} (C : Cx p rm_X12_knowsNotes s m args c D A cX12_knowsNotes 3 RX12 rm_X12_knowsNotes N) (hE : En p l e rm_X12_knowsNotes s m args below meth c Q D A cX12_knowsNotes .return_ (wR N z1) [])  : ∀ (n : Nat) (s0 : St) (x1 : Int32) (x2 : Int32), F_X12_knowsNotes_30 n s0 x1 x2 = some z1 → Aw p l e rm_X12_knowsNotes s m args below meth c Q D A 3 (wR N s0) 30 [(0, .ref (N.1 0)), (1, .int x1), (2, .int x2)] [] := by
  intro n
  induction n with
  | zero => intro s0 x1 x2 h; cases h
  | succ n ih => intro s0 x1 x2 h; exact T_X12_knowsNotes_30_b C hE ih s0 x1 x2 h
def F_X12_knowsNotes_2_b (k2 : St → Int32 → Int32 → Option (St)) (s0 : St) (x1 : Int32) (x2 : Int32) : Option (St) :=
  if (s0.1 27) ≤ x2 then (
    oL ((s0.1 27) - (1 : Int32)) fun y1 =>
    F_X12_knowsNotes_30 100000 s0 x1 y1)
  else (
    oA x2 80 <|
    oL (sA s0 22 (upd (s0.2.1 22) (Int32.toNatClampNeg x2) (vp_nar .boolean (0 : Int32)))) fun s3 =>
    oL (x2 + (1 : Int32)) fun y4 =>
    k2 s3 x1 y4)
set_option maxHeartbeats 4000000 in
set_option maxRecDepth 100000 in
theorem T_X12_knowsNotes_2_b {z1 : St} {k2 : St → Int32 → Int32 → Option (St)} (C : Cx p rm_X12_knowsNotes s m args c D A cX12_knowsNotes 3 RX12 rm_X12_knowsNotes N) (hE : En p l e rm_X12_knowsNotes s m args below meth c Q D A cX12_knowsNotes .return_ (wR N z1) []) (hk2 : ∀ (s0 : St) (x1 : Int32) (x2 : Int32), k2 s0 x1 x2 = some z1 → Aw p l e rm_X12_knowsNotes s m args below meth c Q D A 3 (wR N s0) 2 [(0, .ref (N.1 0)), (1, .int x1), (2, .int x2)] []) (s0 : St) (x1 : Int32) (x2 : Int32) (h : F_X12_knowsNotes_2_b k2 s0 x1 x2 = some z1) : Aw p l e rm_X12_knowsNotes s m args below meth c Q D A 3 (wR N s0) 2 [(0, .ref (N.1 0)), (1, .int x1), (2, .int x2)] [] := by
  unfold F_X12_knowsNotes_2_b at h
  refine aw_iload_n C 2 dX12_knowsNotes_2 rfl ?_
  refine aw_aload_n C 0 dX12_knowsNotes_3 rfl ?_
  refine rg_md_notes C lw_9_16 dX12_knowsNotes_4 ?_
  refine aw_icmp_ge (tgt := 23) C dX12_knowsNotes_7 (by decide) (fun q => ?_) (fun q => ?_)
  · have h := bq_t q h
    refine aw_aload_n C 0 dX12_knowsNotes_23 rfl ?_
    refine rg_md_notes C lw_9_16 dX12_knowsNotes_24 ?_
    refine aw_iconst (v := 1) C dX12_knowsNotes_27 (by decide) ?_
    refine aw_isub C dX12_knowsNotes_28 ?_
    refine aw_topi (fun y1 ey1 => ?_)
    have h := oL_e ey1 h
    refine aw_istore_n (lv' := [(0, .ref (N.1 0)), (1, .int x1), (2, .int y1)]) C [1, 2, 0] dX12_knowsNotes_29 rfl (by decide) rfl ?_
    refine aw_sub (lv' := [(0, .ref (N.1 0)), (1, .int x1), (2, .int y1)]) [0, 1, 2] rfl ?_
    exact T_X12_knowsNotes_30 C hE 100000 s0 x1 y1 h
  · have h := bq_f q h
    refine aw_aload_n C 0 dX12_knowsNotes_10 rfl ?_
    refine rg_md_isStruck C lw_8_23 dX12_knowsNotes_11 ?_
    refine aw_iload_n C 2 dX12_knowsNotes_14 rfl ?_
    refine aw_iconst (v := 0) C dX12_knowsNotes_15 (by decide) ?_
    obtain ⟨q2, h⟩ := oA_e h
    refine ra_zast (k := 22) C (by decide) rfl q2 dX12_knowsNotes_16 ?_
    refine ra_name (fun s3 es3 => ?_)
    have h := oL_e es3 h
    obtain ⟨y4, ey4⟩ : ∃ q : Int32, q = x2 + (1 : Int32) := ⟨_, rfl⟩
    have h := oL_e ey4 h
    refine aw_iinc (v := y4) (k := 2) (lv' := [(0, .ref (N.1 0)), (1, .int x1), (2, .int y4)]) C [1, 2, 0] dX12_knowsNotes_17 rfl (by rw [ey4]; rfl) (by decide) rfl ?_
    refine aw_goto (tgt := 2) C dX12_knowsNotes_20 (by decide) ?_
    refine aw_sub (lv' := [(0, .ref (N.1 0)), (1, .int x1), (2, .int y4)]) [0, 1, 2] rfl ?_
    exact hk2 s3 x1 y4 h
def F_X12_knowsNotes_2 : Nat → St → Int32 → Int32 → Option (St)
  | 0 => fun _ _ _ => none
  | n + 1 => F_X12_knowsNotes_2_b (F_X12_knowsNotes_2 n)
theorem T_X12_knowsNotes_2 {z1 : St} (C : Cx p rm_X12_knowsNotes s m args c D A cX12_knowsNotes 3 RX12 rm_X12_knowsNotes N) (hE : En p l e rm_X12_knowsNotes s m args below meth c Q D A cX12_knowsNotes .return_ (wR N z1) [])  : ∀ (n : Nat) (s0 : St) (x1 : Int32) (x2 : Int32), F_X12_knowsNotes_2 n s0 x1 x2 = some z1 → Aw p l e rm_X12_knowsNotes s m args below meth c Q D A 3 (wR N s0) 2 [(0, .ref (N.1 0)), (1, .int x1), (2, .int x2)] [] := by
  intro n
  induction n with
  | zero => intro s0 x1 x2 h; cases h
  | succ n ih => intro s0 x1 x2 h; exact T_X12_knowsNotes_2_b C hE ih s0 x1 x2 h
def F_X12_knowsNotes_0 (s0 : St) (x1 : Int32) : Option (St) :=
  oL (0 : Int32) fun y1 =>
  F_X12_knowsNotes_2 100000 s0 x1 y1
set_option maxHeartbeats 4000000 in
set_option maxRecDepth 100000 in
theorem T_X12_knowsNotes_0 {z1 : St} (C : Cx p rm_X12_knowsNotes s m args c D A cX12_knowsNotes 3 RX12 rm_X12_knowsNotes N) (hE : En p l e rm_X12_knowsNotes s m args below meth c Q D A cX12_knowsNotes .return_ (wR N z1) [])  (s0 : St) (x1 : Int32) (h : F_X12_knowsNotes_0 s0 x1 = some z1) : Aw p l e rm_X12_knowsNotes s m args below meth c Q D A 3 (wR N s0) 0 [(0, .ref (N.1 0)), (1, .int x1)] [] := by
  unfold F_X12_knowsNotes_0 at h
  refine aw_iconst (v := 0) C dX12_knowsNotes_0 (by decide) ?_
  refine aw_topi (fun y1 ey1 => ?_)
  have h := oL_e ey1 h
  refine aw_istore_n (lv' := [(0, .ref (N.1 0)), (1, .int x1), (2, .int y1)]) C [1, 2, 0] dX12_knowsNotes_1 rfl (by decide) rfl ?_
  refine aw_sub (lv' := [(0, .ref (N.1 0)), (1, .int x1), (2, .int y1)]) [0, 1, 2] rfl ?_
  exact T_X12_knowsNotes_2 C hE 100000 s0 x1 y1 h
def f_X12_knowsNotes (s0 : St) (x1 : Int32) : Option (St) := F_X12_knowsNotes_0 s0 x1
theorem c_X12_knowsNotes (l : Launch) (D : va_G) (N : Nm) (s0 z1 : St) (x1 : Int32) (h : f_X12_knowsNotes s0 x1 = some z1) : Metv l yX12_knowsNotes (tsU yX12_knowsNotes cX12_knowsNotes 3 none) rm_X12_knowsNotes D N [.ref (N.1 0), .int x1] (wR N s0) (wR N z1) :=
  met_v (cc := cX12_knowsNotes) (nL := 3) (own := RX12) (by decide) rfl (Nat.le_of_ble_eq_true rfl) (fun p e s m args below meth c Q A C hE => aw_sub [0, 1] rfl (T_X12_knowsNotes_0 C hE s0 x1 h))
/-! AwardLineModel.spans(II)Z -/
def rm_X12_spans : Room := { frames := 1, cells := 0, slots := 0, locals := 14 }
def F_X12_spans_201 (s0 : St) (t0 : Int32) : Option (Int32 × St) :=
  some (t0, s0)
set_option maxHeartbeats 4000000 in
set_option maxRecDepth 100000 in
theorem T_X12_spans_201 {r : Int32} {z1 : St} (C : Cx p rm_X12_spans s m args c D A cX12_spans 8 RX12 rm_X12_spans N) (hE : En p l e rm_X12_spans s m args below meth c Q D A cX12_spans .ireturn (wR N z1) [.int r])  (s0 : St) (t0 : Int32) (h : F_X12_spans_201 s0 t0 = some (r, z1)) : Aw p l e rm_X12_spans s m args below meth c Q D A 8 (wR N s0) 201 [] [.int t0] := by
  unfold F_X12_spans_201 at h
  cases h
  exact aw_ret hE dX12_spans_201
def F_X12_spans_179 (k17 : St → Int32 → Int32 → Int32 → Int32 → Option (Int32 × St)) (s0 : St) (x1 : Int32) (x2 : Int32) (x3 : Int32) (x4 : Int32) : Option (Int32 × St) :=
  oL (x4 + (1 : Int32)) fun y1 =>
  k17 s0 x1 x2 x3 y1
set_option maxHeartbeats 4000000 in
set_option maxRecDepth 100000 in
theorem T_X12_spans_179 {r : Int32} {z1 : St} {k17 : St → Int32 → Int32 → Int32 → Int32 → Option (Int32 × St)} (C : Cx p rm_X12_spans s m args c D A cX12_spans 8 RX12 rm_X12_spans N) (hE : En p l e rm_X12_spans s m args below meth c Q D A cX12_spans .ireturn (wR N z1) [.int r]) (hk17 : ∀ (s0 : St) (x1 : Int32) (x2 : Int32) (x3 : Int32) (x4 : Int32), k17 s0 x1 x2 x3 x4 = some (r, z1) → Aw p l e rm_X12_spans s m args below meth c Q D A 8 (wR N s0) 17 [(0, .ref (N.1 0)), (1, .int x1), (2, .int x2), (3, .int x3), (4, .int x4)] []) (s0 : St) (x1 : Int32) (x2 : Int32) (x3 : Int32) (x4 : Int32) (h : F_X12_spans_179 k17 s0 x1 x2 x3 x4 = some (r, z1)) : Aw p l e rm_X12_spans s m args below meth c Q D A 8 (wR N s0) 179 [(0, .ref (N.1 0)), (1, .int x1), (2, .int x2), (3, .int x3), (4, .int x4)] [] := by
  unfold F_X12_spans_179 at h
  obtain ⟨y1, ey1⟩ : ∃ q : Int32, q = x4 + (1 : Int32) := ⟨_, rfl⟩
  have h := oL_e ey1 h
  refine aw_iinc (v := y1) (k := 4) (lv' := [(0, .ref (N.1 0)), (1, .int x1), (2, .int x2), (3, .int x3), (4, .int y1)]) C [1, 2, 3, 4, 0] dX12_spans_179 rfl (by rw [ey1]; rfl) (by decide) rfl ?_
  refine aw_goto (tgt := 17) C dX12_spans_182 (by decide) ?_
  refine aw_sub (lv' := [(0, .ref (N.1 0)), (1, .int x1), (2, .int x2), (3, .int x3), (4, .int y1)]) [0, 1, 2, 3, 4] rfl ?_
  exact hk17 s0 x1 x2 x3 y1 h
def F_X12_spans_174 (k17 : St → Int32 → Int32 → Int32 → Int32 → Option (Int32 × St)) (s0 : St) (x1 : Int32) (x2 : Int32) (x4 : Int32) (t0 : Int32) : Option (Int32 × St) :=
  oL (sI s0 29 t0) fun s1 =>
  oL (1 : Int32) fun y2 =>
  F_X12_spans_179 k17 s1 x1 x2 y2 x4
set_option maxHeartbeats 4000000 in
set_option maxRecDepth 100000 in
theorem T_X12_spans_174 {r : Int32} {z1 : St} {k17 : St → Int32 → Int32 → Int32 → Int32 → Option (Int32 × St)} (C : Cx p rm_X12_spans s m args c D A cX12_spans 8 RX12 rm_X12_spans N) (hE : En p l e rm_X12_spans s m args below meth c Q D A cX12_spans .ireturn (wR N z1) [.int r]) (hk17 : ∀ (s0 : St) (x1 : Int32) (x2 : Int32) (x3 : Int32) (x4 : Int32), k17 s0 x1 x2 x3 x4 = some (r, z1) → Aw p l e rm_X12_spans s m args below meth c Q D A 8 (wR N s0) 17 [(0, .ref (N.1 0)), (1, .int x1), (2, .int x2), (3, .int x3), (4, .int x4)] []) (s0 : St) (x1 : Int32) (x2 : Int32) (x4 : Int32) (t0 : Int32) (h : F_X12_spans_174 k17 s0 x1 x2 x4 t0 = some (r, z1)) : Aw p l e rm_X12_spans s m args below meth c Q D A 8 (wR N s0) 174 [(0, .ref (N.1 0)), (1, .int x1), (2, .int x2), (4, .int x4)] [.int t0, .ref (N.1 0)] := by
  unfold F_X12_spans_174 at h
  refine rp_md_spanHigh C lw_29_3 dX12_spans_174 ?_
  refine ra_name (fun s1 es1 => ?_)
  have h := oL_e es1 h
  refine aw_iconst (v := 1) C dX12_spans_177 (by decide) ?_
  refine aw_topi (fun y2 ey2 => ?_)
  have h := oL_e ey2 h
  refine aw_istore_n (lv' := [(0, .ref (N.1 0)), (1, .int x1), (2, .int x2), (3, .int y2), (4, .int x4)]) C [1, 2, 3, 0, 4] dX12_spans_178 rfl (by decide) rfl ?_
  refine aw_sub (lv' := [(0, .ref (N.1 0)), (1, .int x1), (2, .int x2), (3, .int y2), (4, .int x4)]) [0, 1, 2, 3, 4] rfl ?_
  exact T_X12_spans_179 C hE hk17 s1 x1 x2 y2 x4 h
def F_X12_spans_152 (k17 : St → Int32 → Int32 → Int32 → Int32 → Option (Int32 × St)) (s0 : St) (x1 : Int32) (x2 : Int32) (x3 : Int32) (x4 : Int32) (x7 : Int32) (t0 : Int32) : Option (Int32 × St) :=
  oL (sI s0 28 t0) fun s1 =>
  if x3 = 0 then (
    F_X12_spans_174 k17 s1 x1 x2 x4 x7)
  else (
    F_X12_spans_174 k17 s1 x1 x2 x4 (jmin (s1.1 29) x7))
set_option maxHeartbeats 4000000 in
set_option maxRecDepth 100000 in
theorem T_X12_spans_152 {r : Int32} {z1 : St} {k17 : St → Int32 → Int32 → Int32 → Int32 → Option (Int32 × St)} (C : Cx p rm_X12_spans s m args c D A cX12_spans 8 RX12 rm_X12_spans N) (hE : En p l e rm_X12_spans s m args below meth c Q D A cX12_spans .ireturn (wR N z1) [.int r]) (hk17 : ∀ (s0 : St) (x1 : Int32) (x2 : Int32) (x3 : Int32) (x4 : Int32), k17 s0 x1 x2 x3 x4 = some (r, z1) → Aw p l e rm_X12_spans s m args below meth c Q D A 8 (wR N s0) 17 [(0, .ref (N.1 0)), (1, .int x1), (2, .int x2), (3, .int x3), (4, .int x4)] []) (s0 : St) (x1 : Int32) (x2 : Int32) (x3 : Int32) (x4 : Int32) (x7 : Int32) (t0 : Int32) (h : F_X12_spans_152 k17 s0 x1 x2 x3 x4 x7 t0 = some (r, z1)) : Aw p l e rm_X12_spans s m args below meth c Q D A 8 (wR N s0) 152 [(0, .ref (N.1 0)), (1, .int x1), (2, .int x2), (3, .int x3), (4, .int x4), (7, .int x7)] [.int t0, .ref (N.1 0)] := by
  unfold F_X12_spans_152 at h
  refine rp_md_spanLow C lw_29_2 dX12_spans_152 ?_
  refine ra_name (fun s1 es1 => ?_)
  have h := oL_e es1 h
  refine aw_aload_n C 0 dX12_spans_155 rfl ?_
  refine aw_iload_n C 3 dX12_spans_156 rfl ?_
  refine aw_if_eq (tgt := 172) C dX12_spans_157 (by decide) (fun q => ?_) (fun q => ?_)
  · have h := bq_t q h
    refine aw_iload C 5 dX12_spans_172 rfl ?_
    refine aw_sub (lv' := [(0, .ref (N.1 0)), (1, .int x1), (2, .int x2), (4, .int x4)]) [0, 1, 2, 4] rfl ?_
    exact T_X12_spans_174 C hE hk17 s1 x1 x2 x4 x7 h
  · have h := bq_f q h
    refine aw_aload_n C 0 dX12_spans_160 rfl ?_
    refine rg_md_spanHigh C lw_29_3 dX12_spans_161 ?_
    refine aw_iload C 5 dX12_spans_164 rfl ?_
    refine aw_mmin C lw_29_16 lw_10_23 (by decide +kernel) lw_11_1 (Nat.le_of_ble_eq_true rfl) (Nat.le_of_ble_eq_true rfl) dX12_spans_166 ?_
    refine aw_goto (tgt := 174) C dX12_spans_169 (by decide) ?_
    refine aw_sub (lv' := [(0, .ref (N.1 0)), (1, .int x1), (2, .int x2), (4, .int x4)]) [0, 1, 2, 4] rfl ?_
    exact T_X12_spans_174 C hE hk17 s1 x1 x2 x4 (jmin (s1.1 29) x7) h
def F_X12_spans_82 (k17 : St → Int32 → Int32 → Int32 → Int32 → Option (Int32 × St)) (s0 : St) (x1 : Int32) (x2 : Int32) (x3 : Int32) (x4 : Int32) (t0 : Int32) : Option (Int32 × St) :=
  oA x4 80 <|
  oA (s0.2.1 18 (Int32.toNatClampNeg x4)) 4 <|
  oD (100 : Int32) <|
  oL ((t0 * ((100 : Int32) - (s0.2.1 10 (Int32.toNatClampNeg (s0.2.1 18 (Int32.toNatClampNeg x4)))))) / (100 : Int32)) fun y4 =>
  oA x4 80 <|
  oA (s0.2.1 18 (Int32.toNatClampNeg x4)) 4 <|
  oD (100 : Int32) <|
  oL (((t0 * ((100 : Int32) + (s0.2.1 10 (Int32.toNatClampNeg (s0.2.1 18 (Int32.toNatClampNeg x4)))))) + (99 : Int32)) / (100 : Int32)) fun y8 =>
  if x3 = 0 then (
    F_X12_spans_152 k17 s0 x1 x2 x3 x4 y8 y4)
  else (
    F_X12_spans_152 k17 s0 x1 x2 x3 x4 y8 (jmax (s0.1 28) y4))
set_option maxHeartbeats 4000000 in
set_option maxRecDepth 100000 in
theorem T_X12_spans_82 {r : Int32} {z1 : St} {k17 : St → Int32 → Int32 → Int32 → Int32 → Option (Int32 × St)} (C : Cx p rm_X12_spans s m args c D A cX12_spans 8 RX12 rm_X12_spans N) (hE : En p l e rm_X12_spans s m args below meth c Q D A cX12_spans .ireturn (wR N z1) [.int r]) (hk17 : ∀ (s0 : St) (x1 : Int32) (x2 : Int32) (x3 : Int32) (x4 : Int32), k17 s0 x1 x2 x3 x4 = some (r, z1) → Aw p l e rm_X12_spans s m args below meth c Q D A 8 (wR N s0) 17 [(0, .ref (N.1 0)), (1, .int x1), (2, .int x2), (3, .int x3), (4, .int x4)] []) (s0 : St) (x1 : Int32) (x2 : Int32) (x3 : Int32) (x4 : Int32) (t0 : Int32) (h : F_X12_spans_82 k17 s0 x1 x2 x3 x4 t0 = some (r, z1)) : Aw p l e rm_X12_spans s m args below meth c Q D A 8 (wR N s0) 82 [(0, .ref (N.1 0)), (1, .int x1), (2, .int x2), (3, .int x3), (4, .int x4)] [.int t0] := by
  unfold F_X12_spans_82 at h
  refine aw_istore (lv' := [(0, .ref (N.1 0)), (1, .int x1), (2, .int x2), (3, .int x3), (4, .int x4), (5, .int t0)]) C [1, 2, 3, 4, 5, 0] dX12_spans_82 (by decide) rfl ?_
  refine aw_iload C 5 dX12_spans_84 rfl ?_
  refine aw_bipush (v := 100) C dX12_spans_86 (by decide) ?_
  refine aw_aload_n C 0 dX12_spans_88 rfl ?_
  refine rg_md_err C lw_8_11 dX12_spans_89 ?_
  refine aw_aload_n C 0 dX12_spans_92 rfl ?_
  refine rg_md_one C lw_8_19 dX12_spans_93 ?_
  refine aw_iload C 4 dX12_spans_96 rfl ?_
  obtain ⟨q1, h⟩ := oA_e h
  refine ra_iald (k := 18) C (by decide) rfl q1 dX12_spans_98 ?_
  obtain ⟨q2, h⟩ := oA_e h
  refine ra_iald (k := 10) C (by decide) rfl q2 dX12_spans_99 ?_
  refine aw_isub C dX12_spans_100 ?_
  refine aw_imul C dX12_spans_101 ?_
  refine aw_bipush (v := 100) C dX12_spans_102 (by decide) ?_
  obtain ⟨q3, h⟩ := oD_e h
  refine aw_idiv C dX12_spans_104 q3 ?_
  refine aw_topi (fun y4 ey4 => ?_)
  have h := oL_e ey4 h
  refine aw_istore (lv' := [(0, .ref (N.1 0)), (1, .int x1), (2, .int x2), (3, .int x3), (4, .int x4), (5, .int t0), (6, .int y4)]) C [1, 2, 3, 4, 5, 6, 0] dX12_spans_105 (by decide) rfl ?_
  refine aw_iload C 5 dX12_spans_107 rfl ?_
  refine aw_bipush (v := 100) C dX12_spans_109 (by decide) ?_
  refine aw_aload_n C 0 dX12_spans_111 rfl ?_
  refine rg_md_err C lw_8_11 dX12_spans_112 ?_
  refine aw_aload_n C 0 dX12_spans_115 rfl ?_
  refine rg_md_one C lw_8_19 dX12_spans_116 ?_
  refine aw_iload C 4 dX12_spans_119 rfl ?_
  obtain ⟨q5, h⟩ := oA_e h
  refine ra_iald (k := 18) C (by decide) rfl q5 dX12_spans_121 ?_
  obtain ⟨q6, h⟩ := oA_e h
  refine ra_iald (k := 10) C (by decide) rfl q6 dX12_spans_122 ?_
  refine aw_iadd C dX12_spans_123 ?_
  refine aw_imul C dX12_spans_124 ?_
  refine aw_bipush (v := 99) C dX12_spans_125 (by decide) ?_
  refine aw_iadd C dX12_spans_127 ?_
  refine aw_bipush (v := 100) C dX12_spans_128 (by decide) ?_
  obtain ⟨q7, h⟩ := oD_e h
  refine aw_idiv C dX12_spans_130 q7 ?_
  refine aw_topi (fun y8 ey8 => ?_)
  have h := oL_e ey8 h
  refine aw_istore (lv' := [(0, .ref (N.1 0)), (1, .int x1), (2, .int x2), (3, .int x3), (4, .int x4), (5, .int t0), (6, .int y4), (7, .int y8)]) C [1, 2, 3, 4, 5, 6, 7, 0] dX12_spans_131 (by decide) rfl ?_
  refine aw_aload_n C 0 dX12_spans_133 rfl ?_
  refine aw_iload_n C 3 dX12_spans_134 rfl ?_
  refine aw_if_eq (tgt := 150) C dX12_spans_135 (by decide) (fun q => ?_) (fun q => ?_)
  · have h := bq_t q h
    refine aw_iload C 6 dX12_spans_150 rfl ?_
    refine aw_sub (lv' := [(0, .ref (N.1 0)), (1, .int x1), (2, .int x2), (3, .int x3), (4, .int x4), (7, .int y8)]) [0, 1, 2, 3, 4, 7] rfl ?_
    exact T_X12_spans_152 C hE hk17 s0 x1 x2 x3 x4 y8 y4 h
  · have h := bq_f q h
    refine aw_aload_n C 0 dX12_spans_138 rfl ?_
    refine rg_md_spanLow C lw_29_2 dX12_spans_139 ?_
    refine aw_iload C 6 dX12_spans_142 rfl ?_
    refine aw_mmax C lw_29_15 lw_28_13 (by decide +kernel) lw_28_14 (Nat.le_of_ble_eq_true rfl) (Nat.le_of_ble_eq_true rfl) dX12_spans_144 ?_
    refine aw_goto (tgt := 152) C dX12_spans_147 (by decide) ?_
    refine aw_sub (lv' := [(0, .ref (N.1 0)), (1, .int x1), (2, .int x2), (3, .int x3), (4, .int x4), (7, .int y8)]) [0, 1, 2, 3, 4, 7] rfl ?_
    exact T_X12_spans_152 C hE hk17 s0 x1 x2 x3 x4 y8 (jmax (s0.1 28) y4) h
def F_X12_spans_17_b (k17 : St → Int32 → Int32 → Int32 → Int32 → Option (Int32 × St)) (s0 : St) (x1 : Int32) (x2 : Int32) (x3 : Int32) (x4 : Int32) : Option (Int32 × St) :=
  if (s0.1 27) ≤ x4 then (
    if (s0.1 29) < (s0.1 28) then (
      F_X12_spans_201 s0 (0 : Int32))
    else (
      F_X12_spans_201 s0 (1 : Int32)))
  else (
    oA x4 80 <|
    if (s0.2.1 23 (Int32.toNatClampNeg x4)) = 0 then (
      F_X12_spans_179 k17 s0 x1 x2 x3 x4)
    else (
      oA x4 80 <|
      if (s0.2.1 16 (Int32.toNatClampNeg x4)) = (3 : Int32) then (
        oA x4 80 <|
        if (s0.2.1 19 (Int32.toNatClampNeg x4)) = x1 then (
          if x2 = 0 then (
            oA x4 80 <|
            F_X12_spans_82 k17 s0 x1 x2 x3 x4 (s0.2.1 20 (Int32.toNatClampNeg x4)))
          else (
            oA x4 80 <|
            F_X12_spans_82 k17 s0 x1 x2 x3 x4 (s0.2.1 21 (Int32.toNatClampNeg x4))))
        else (
          F_X12_spans_179 k17 s0 x1 x2 x3 x4))
      else (
        F_X12_spans_179 k17 s0 x1 x2 x3 x4)))
set_option maxHeartbeats 4000000 in
set_option maxRecDepth 100000 in
theorem T_X12_spans_17_b {r : Int32} {z1 : St} {k17 : St → Int32 → Int32 → Int32 → Int32 → Option (Int32 × St)} (C : Cx p rm_X12_spans s m args c D A cX12_spans 8 RX12 rm_X12_spans N) (hE : En p l e rm_X12_spans s m args below meth c Q D A cX12_spans .ireturn (wR N z1) [.int r]) (hk17 : ∀ (s0 : St) (x1 : Int32) (x2 : Int32) (x3 : Int32) (x4 : Int32), k17 s0 x1 x2 x3 x4 = some (r, z1) → Aw p l e rm_X12_spans s m args below meth c Q D A 8 (wR N s0) 17 [(0, .ref (N.1 0)), (1, .int x1), (2, .int x2), (3, .int x3), (4, .int x4)] []) (s0 : St) (x1 : Int32) (x2 : Int32) (x3 : Int32) (x4 : Int32) (h : F_X12_spans_17_b k17 s0 x1 x2 x3 x4 = some (r, z1)) : Aw p l e rm_X12_spans s m args below meth c Q D A 8 (wR N s0) 17 [(0, .ref (N.1 0)), (1, .int x1), (2, .int x2), (3, .int x3), (4, .int x4)] [] := by
  unfold F_X12_spans_17_b at h
  refine aw_iload C 4 dX12_spans_17 rfl ?_
  refine aw_aload_n C 0 dX12_spans_19 rfl ?_
  refine rg_md_notes C lw_9_16 dX12_spans_20 ?_
  refine aw_icmp_ge (tgt := 185) C dX12_spans_23 (by decide) (fun q => ?_) (fun q => ?_)
  · have h := bq_t q h
    refine aw_aload_n C 0 dX12_spans_185 rfl ?_
    refine rg_md_spanLow C lw_29_2 dX12_spans_186 ?_
    refine aw_aload_n C 0 dX12_spans_189 rfl ?_
    refine rg_md_spanHigh C lw_29_3 dX12_spans_190 ?_
    refine aw_icmp_gt (tgt := 200) C dX12_spans_193 (by decide) (fun q => ?_) (fun q => ?_)
    · have h := bq_t q h
      refine aw_iconst (v := 0) C dX12_spans_200 (by decide) ?_
      refine aw_sub (lv' := []) [] rfl ?_
      exact T_X12_spans_201 C hE s0 (0 : Int32) h
    · have h := bq_f q h
      refine aw_iconst (v := 1) C dX12_spans_196 (by decide) ?_
      refine aw_goto (tgt := 201) C dX12_spans_197 (by decide) ?_
      refine aw_sub (lv' := []) [] rfl ?_
      exact T_X12_spans_201 C hE s0 (1 : Int32) h
  · have h := bq_f q h
    refine aw_aload_n C 0 dX12_spans_26 rfl ?_
    refine rg_md_counts C lw_9_0 dX12_spans_27 ?_
    refine aw_iload C 4 dX12_spans_30 rfl ?_
    obtain ⟨q1, h⟩ := oA_e h
    refine ra_zald (k := 23) C (by decide) rfl q1 dX12_spans_32 ?_
    refine aw_if_eq (tgt := 179) C dX12_spans_33 (by decide) (fun q => ?_) (fun q => ?_)
    · have h := bq_t q h
      refine aw_sub (lv' := [(0, .ref (N.1 0)), (1, .int x1), (2, .int x2), (3, .int x3), (4, .int x4)]) [0, 1, 2, 3, 4] rfl ?_
      exact T_X12_spans_179 C hE hk17 s0 x1 x2 x3 x4 h
    · have h := bq_f q h
      refine aw_aload_n C 0 dX12_spans_36 rfl ?_
      refine rg_md_kind C lw_8_17 dX12_spans_37 ?_
      refine aw_iload C 4 dX12_spans_40 rfl ?_
      obtain ⟨q2, h⟩ := oA_e h
      refine ra_iald (k := 16) C (by decide) rfl q2 dX12_spans_42 ?_
      refine aw_iconst (v := 3) C dX12_spans_43 (by decide) ?_
      refine aw_icmp_ne (tgt := 179) C dX12_spans_44 (by decide) (fun q => ?_) (fun q => ?_)
      · have h := bq_f q h
        refine aw_sub (lv' := [(0, .ref (N.1 0)), (1, .int x1), (2, .int x2), (3, .int x3), (4, .int x4)]) [0, 1, 2, 3, 4] rfl ?_
        exact T_X12_spans_179 C hE hk17 s0 x1 x2 x3 x4 h
      · have h := bq_t q h
        refine aw_aload_n C 0 dX12_spans_47 rfl ?_
        refine rg_md_two C lw_8_20 dX12_spans_48 ?_
        refine aw_iload C 4 dX12_spans_51 rfl ?_
        obtain ⟨q3, h⟩ := oA_e h
        refine ra_iald (k := 19) C (by decide) rfl q3 dX12_spans_53 ?_
        refine aw_iload_n C 1 dX12_spans_54 rfl ?_
        refine aw_icmp_eq (tgt := 61) C dX12_spans_55 (by decide) (fun q => ?_) (fun q => ?_)
        · have h := bq_t q h
          refine aw_iload_n C 2 dX12_spans_61 rfl ?_
          refine aw_if_ne (tgt := 75) C dX12_spans_62 (by decide) (fun q => ?_) (fun q => ?_)
          · have h := bq_f q h
            refine aw_aload_n C 0 dX12_spans_75 rfl ?_
            refine rg_md_four C lw_8_22 dX12_spans_76 ?_
            refine aw_iload C 4 dX12_spans_79 rfl ?_
            obtain ⟨q4, h⟩ := oA_e h
            refine ra_iald (k := 21) C (by decide) rfl q4 dX12_spans_81 ?_
            refine aw_sub (lv' := [(0, .ref (N.1 0)), (1, .int x1), (2, .int x2), (3, .int x3), (4, .int x4)]) [0, 1, 2, 3, 4] rfl ?_
            exact T_X12_spans_82 C hE hk17 s0 x1 x2 x3 x4 (s0.2.1 21 (Int32.toNatClampNeg x4)) h
          · have h := bq_t q h
            refine aw_aload_n C 0 dX12_spans_65 rfl ?_
            refine rg_md_three C lw_8_21 dX12_spans_66 ?_
            refine aw_iload C 4 dX12_spans_69 rfl ?_
            obtain ⟨q5, h⟩ := oA_e h
            refine ra_iald (k := 20) C (by decide) rfl q5 dX12_spans_71 ?_
            refine aw_goto (tgt := 82) C dX12_spans_72 (by decide) ?_
            refine aw_sub (lv' := [(0, .ref (N.1 0)), (1, .int x1), (2, .int x2), (3, .int x3), (4, .int x4)]) [0, 1, 2, 3, 4] rfl ?_
            exact T_X12_spans_82 C hE hk17 s0 x1 x2 x3 x4 (s0.2.1 20 (Int32.toNatClampNeg x4)) h
        · have h := bq_f q h
          refine aw_goto (tgt := 179) C dX12_spans_58 (by decide) ?_
          refine aw_sub (lv' := [(0, .ref (N.1 0)), (1, .int x1), (2, .int x2), (3, .int x3), (4, .int x4)]) [0, 1, 2, 3, 4] rfl ?_
          exact T_X12_spans_179 C hE hk17 s0 x1 x2 x3 x4 h
def F_X12_spans_17 : Nat → St → Int32 → Int32 → Int32 → Int32 → Option (Int32 × St)
  | 0 => fun _ _ _ _ _ => none
  | n + 1 => F_X12_spans_17_b (F_X12_spans_17 n)
theorem T_X12_spans_17 {r : Int32} {z1 : St} (C : Cx p rm_X12_spans s m args c D A cX12_spans 8 RX12 rm_X12_spans N) (hE : En p l e rm_X12_spans s m args below meth c Q D A cX12_spans .ireturn (wR N z1) [.int r])  : ∀ (n : Nat) (s0 : St) (x1 : Int32) (x2 : Int32) (x3 : Int32) (x4 : Int32), F_X12_spans_17 n s0 x1 x2 x3 x4 = some (r, z1) → Aw p l e rm_X12_spans s m args below meth c Q D A 8 (wR N s0) 17 [(0, .ref (N.1 0)), (1, .int x1), (2, .int x2), (3, .int x3), (4, .int x4)] [] := by
  intro n
  induction n with
  | zero => intro s0 x1 x2 x3 x4 h; cases h
  | succ n ih => intro s0 x1 x2 x3 x4 h; exact T_X12_spans_17_b C hE ih s0 x1 x2 x3 x4 h
def F_X12_spans_0 (s0 : St) (x1 : Int32) (x2 : Int32) : Option (Int32 × St) :=
  oL (0 : Int32) fun y1 =>
  oL (sI s0 28 (0 : Int32)) fun s2 =>
  oL (sI s2 29 (999 : Int32)) fun s3 =>
  oL (0 : Int32) fun y4 =>
  F_X12_spans_17 100000 s3 x1 x2 y1 y4
set_option maxHeartbeats 4000000 in
set_option maxRecDepth 100000 in
theorem T_X12_spans_0 {r : Int32} {z1 : St} (C : Cx p rm_X12_spans s m args c D A cX12_spans 8 RX12 rm_X12_spans N) (hE : En p l e rm_X12_spans s m args below meth c Q D A cX12_spans .ireturn (wR N z1) [.int r])  (s0 : St) (x1 : Int32) (x2 : Int32) (h : F_X12_spans_0 s0 x1 x2 = some (r, z1)) : Aw p l e rm_X12_spans s m args below meth c Q D A 8 (wR N s0) 0 [(0, .ref (N.1 0)), (1, .int x1), (2, .int x2)] [] := by
  unfold F_X12_spans_0 at h
  refine aw_iconst (v := 0) C dX12_spans_0 (by decide) ?_
  refine aw_topi (fun y1 ey1 => ?_)
  have h := oL_e ey1 h
  refine aw_istore_n (lv' := [(0, .ref (N.1 0)), (1, .int x1), (2, .int x2), (3, .int y1)]) C [1, 2, 3, 0] dX12_spans_1 rfl (by decide) rfl ?_
  refine aw_aload_n C 0 dX12_spans_2 rfl ?_
  refine aw_iconst (v := 0) C dX12_spans_3 (by decide) ?_
  refine rp_md_spanLow C lw_29_2 dX12_spans_4 ?_
  refine ra_name (fun s2 es2 => ?_)
  have h := oL_e es2 h
  refine aw_aload_n C 0 dX12_spans_7 rfl ?_
  refine aw_sipush (v := 999) C dX12_spans_8 (by decide) ?_
  refine rp_md_spanHigh C lw_29_3 dX12_spans_11 ?_
  refine ra_name (fun s3 es3 => ?_)
  have h := oL_e es3 h
  refine aw_iconst (v := 0) C dX12_spans_14 (by decide) ?_
  refine aw_topi (fun y4 ey4 => ?_)
  have h := oL_e ey4 h
  refine aw_istore (lv' := [(0, .ref (N.1 0)), (1, .int x1), (2, .int x2), (3, .int y1), (4, .int y4)]) C [1, 2, 3, 4, 0] dX12_spans_15 (by decide) rfl ?_
  refine aw_sub (lv' := [(0, .ref (N.1 0)), (1, .int x1), (2, .int x2), (3, .int y1), (4, .int y4)]) [0, 1, 2, 3, 4] rfl ?_
  exact T_X12_spans_17 C hE 100000 s3 x1 x2 y1 y4 h
def f_X12_spans (s0 : St) (x1 : Int32) (x2 : Int32) : Option (Int32 × St) := oC (F_X12_spans_0 s0 x1 x2) fun w => oZ w.1 (some w)
theorem c_X12_spans (l : Launch) (D : va_G) (N : Nm) (s0 z1 : St) (x1 : Int32) (x2 : Int32) (r : Int32) (h : f_X12_spans s0 x1 x2 = some (r, z1)) : Meti l yX12_spans (tsU yX12_spans cX12_spans 8 (some .boolean)) rm_X12_spans D N [.ref (N.1 0), .int x1, .int x2] (wR N s0) r (wR N z1) := by
  obtain ⟨w, h1, h2⟩ := oC_e h
  obtain ⟨hz, h2⟩ := oZ_e h2
  cases h2
  exact met_z (cc := cX12_spans) (nL := 8) (own := RX12) (by decide) rfl (Nat.le_of_ble_eq_true rfl) (zN hz) (fun p e s m args below meth c Q A C hE => aw_sub [0, 1, 2] rfl (T_X12_spans_0 C hE s0 x1 x2 h1))
/-! AwardLineModel.reckons(I)V -/
def rm_X12_reckons : Room := { frames := 2, cells := 0, slots := 0, locals := 41 }
def F_X12_reckons_55 (k7 : St → Int32 → Option (St)) (k17 : St → Int32 → Int32 → Option (St)) (s0 : St) (x2 : Int32) (x3 : Int32) (t0 : Int32) (t1 : Int32) : Option (St) :=
  oA t1 50 <|
  oL (sA s0 24 (upd (s0.2.1 24) (Int32.toNatClampNeg t1) t0)) fun s2 =>
  oL (x3 + (1 : Int32)) fun y3 =>
  k17 s2 x2 y3
set_option maxHeartbeats 4000000 in
set_option maxRecDepth 100000 in
theorem T_X12_reckons_55 {z1 : St} {k7 : St → Int32 → Option (St)} {k17 : St → Int32 → Int32 → Option (St)} (C : Cx p rm_X12_reckons s m args c D A cX12_reckons 4 RX12 rm_X12_reckons N) (hE : En p l e rm_X12_reckons s m args below meth c Q D A cX12_reckons .return_ (wR N z1) []) (hk7 : ∀ (s0 : St) (x2 : Int32), k7 s0 x2 = some z1 → Aw p l e rm_X12_reckons s m args below meth c Q D A 4 (wR N s0) 7 [(0, .ref (N.1 0)), (2, .int x2)] []) (hk17 : ∀ (s0 : St) (x2 : Int32) (x3 : Int32), k17 s0 x2 x3 = some z1 → Aw p l e rm_X12_reckons s m args below meth c Q D A 4 (wR N s0) 17 [(0, .ref (N.1 0)), (2, .int x2), (3, .int x3)] []) (s0 : St) (x2 : Int32) (x3 : Int32) (t0 : Int32) (t1 : Int32) (h : F_X12_reckons_55 k7 k17 s0 x2 x3 t0 t1 = some z1) : Aw p l e rm_X12_reckons s m args below meth c Q D A 4 (wR N s0) 55 [(0, .ref (N.1 0)), (2, .int x2), (3, .int x3)] [.int t0, .int t1, .ref (N.2.1 24)] := by
  unfold F_X12_reckons_55 at h
  obtain ⟨q1, h⟩ := oA_e h
  refine ra_iast (k := 24) C (by decide) rfl q1 dX12_reckons_55 ?_
  refine ra_name (fun s2 es2 => ?_)
  have h := oL_e es2 h
  obtain ⟨y3, ey3⟩ : ∃ q : Int32, q = x3 + (1 : Int32) := ⟨_, rfl⟩
  have h := oL_e ey3 h
  refine aw_iinc (v := y3) (k := 2) (lv' := [(0, .ref (N.1 0)), (2, .int x2), (3, .int y3)]) C [1, 2, 0] dX12_reckons_56 rfl (by rw [ey3]; rfl) (by decide) rfl ?_
  refine aw_goto (tgt := 17) C dX12_reckons_59 (by decide) ?_
  refine aw_sub (lv' := [(0, .ref (N.1 0)), (2, .int x2), (3, .int y3)]) [0, 1, 2] rfl ?_
  exact hk17 s2 x2 y3 h
def F_X12_reckons_17_b (k7 : St → Int32 → Option (St)) (k17 : St → Int32 → Int32 → Option (St)) (s0 : St) (x2 : Int32) (x3 : Int32) : Option (St) :=
  if (2 : Int32) ≤ x3 then (
    oL (x2 + (1 : Int32)) fun y1 =>
    k7 s0 y1)
  else (
    oC (f_X12_spans s0 x2 x3) fun w4 =>
    oL w4.1 fun v2 => oL w4.2 fun s3 =>
    if v2 = 0 then (
      F_X12_reckons_55 k7 k17 s3 x2 x3 (0 : Int32) (((2 : Int32) * x2) + x3))
    else (
      oD (2 : Int32) <|
      F_X12_reckons_55 k7 k17 s3 x2 x3 (((s3.1 28) + (s3.1 29)) / (2 : Int32)) (((2 : Int32) * x2) + x3)))
set_option maxHeartbeats 4000000 in
set_option maxRecDepth 100000 in
theorem T_X12_reckons_17_b {z1 : St} {k7 : St → Int32 → Option (St)} {k17 : St → Int32 → Int32 → Option (St)} (C : Cx p rm_X12_reckons s m args c D A cX12_reckons 4 RX12 rm_X12_reckons N) (hE : En p l e rm_X12_reckons s m args below meth c Q D A cX12_reckons .return_ (wR N z1) []) (hk7 : ∀ (s0 : St) (x2 : Int32), k7 s0 x2 = some z1 → Aw p l e rm_X12_reckons s m args below meth c Q D A 4 (wR N s0) 7 [(0, .ref (N.1 0)), (2, .int x2)] []) (hk17 : ∀ (s0 : St) (x2 : Int32) (x3 : Int32), k17 s0 x2 x3 = some z1 → Aw p l e rm_X12_reckons s m args below meth c Q D A 4 (wR N s0) 17 [(0, .ref (N.1 0)), (2, .int x2), (3, .int x3)] []) (s0 : St) (x2 : Int32) (x3 : Int32) (h : F_X12_reckons_17_b k7 k17 s0 x2 x3 = some z1) : Aw p l e rm_X12_reckons s m args below meth c Q D A 4 (wR N s0) 17 [(0, .ref (N.1 0)), (2, .int x2), (3, .int x3)] [] := by
  unfold F_X12_reckons_17_b at h
  refine aw_iload_n C 2 dX12_reckons_17 rfl ?_
  refine aw_iconst (v := 2) C dX12_reckons_18 (by decide) ?_
  refine aw_icmp_ge (tgt := 62) C dX12_reckons_19 (by decide) (fun q => ?_) (fun q => ?_)
  · have h := bq_t q h
    obtain ⟨y1, ey1⟩ : ∃ q : Int32, q = x2 + (1 : Int32) := ⟨_, rfl⟩
    have h := oL_e ey1 h
    refine aw_iinc (v := y1) (k := 1) (lv' := [(0, .ref (N.1 0)), (2, .int y1), (3, .int x3)]) C [1, 0, 2] dX12_reckons_62 rfl (by rw [ey1]; rfl) (by decide) rfl ?_
    refine aw_goto (tgt := 7) C dX12_reckons_65 (by decide) ?_
    refine aw_sub (lv' := [(0, .ref (N.1 0)), (2, .int y1)]) [0, 1] rfl ?_
    exact hk7 s0 y1 h
  · have h := bq_f q h
    refine aw_aload_n C 0 dX12_reckons_22 rfl ?_
    refine rg_md_people C lw_9_1 dX12_reckons_23 ?_
    refine aw_iconst (v := 2) C dX12_reckons_26 (by decide) ?_
    refine aw_iload_n C 1 dX12_reckons_27 rfl ?_
    refine aw_imul C dX12_reckons_28 ?_
    refine aw_iload_n C 2 dX12_reckons_29 rfl ?_
    refine aw_iadd C dX12_reckons_30 ?_
    refine aw_aload_n C 0 dX12_reckons_31 rfl ?_
    refine aw_iload_n C 1 dX12_reckons_32 rfl ?_
    refine aw_iload_n C 2 dX12_reckons_33 rfl ?_
    obtain ⟨⟨v2, s3⟩, cw4, h⟩ := oC_e h
    have h := oL_e (x := s3) rfl (oL_e (x := v2) rfl h)
    refine aw_callVi (n := 2) (As := [.int x2, .int x3]) (rest := [.int (((2 : Int32) * x2) + x3), .ref (N.2.1 24)]) (q0 := 0) C (c_X12_spans l D N s0 s3 x2 x3 v2 cw4) lw_29_11 lw_29_12 lw_29_13 lw_1_5 lw_29_14 rfl rfl (by decide +kernel) ⟨Nat.le_of_ble_eq_true rfl, Nat.le_of_ble_eq_true rfl⟩ rfl rfl rfl rfl rfl (Nat.le_of_ble_eq_true rfl) dX12_reckons_34 ?_
    refine aw_if_eq (tgt := 54) C dX12_reckons_37 (by decide) (fun q => ?_) (fun q => ?_)
    · have h := bq_t q h
      refine aw_iconst (v := 0) C dX12_reckons_54 (by decide) ?_
      refine aw_sub (lv' := [(0, .ref (N.1 0)), (2, .int x2), (3, .int x3)]) [0, 1, 2] rfl ?_
      exact T_X12_reckons_55 C hE hk7 hk17 s3 x2 x3 (0 : Int32) (((2 : Int32) * x2) + x3) h
    · have h := bq_f q h
      refine aw_aload_n C 0 dX12_reckons_40 rfl ?_
      refine rg_md_spanLow C lw_29_2 dX12_reckons_41 ?_
      refine aw_aload_n C 0 dX12_reckons_44 rfl ?_
      refine rg_md_spanHigh C lw_29_3 dX12_reckons_45 ?_
      refine aw_iadd C dX12_reckons_48 ?_
      refine aw_iconst (v := 2) C dX12_reckons_49 (by decide) ?_
      obtain ⟨q5, h⟩ := oD_e h
      refine aw_idiv C dX12_reckons_50 q5 ?_
      refine aw_goto (tgt := 55) C dX12_reckons_51 (by decide) ?_
      refine aw_sub (lv' := [(0, .ref (N.1 0)), (2, .int x2), (3, .int x3)]) [0, 1, 2] rfl ?_
      exact T_X12_reckons_55 C hE hk7 hk17 s3 x2 x3 (((s3.1 28) + (s3.1 29)) / (2 : Int32)) (((2 : Int32) * x2) + x3) h
def F_X12_reckons_17 (k7 : St → Int32 → Option (St)) : Nat → St → Int32 → Int32 → Option (St)
  | 0 => fun _ _ _ => none
  | n + 1 => F_X12_reckons_17_b k7 (F_X12_reckons_17 k7 n)
theorem T_X12_reckons_17 {z1 : St} {k7 : St → Int32 → Option (St)} (C : Cx p rm_X12_reckons s m args c D A cX12_reckons 4 RX12 rm_X12_reckons N) (hE : En p l e rm_X12_reckons s m args below meth c Q D A cX12_reckons .return_ (wR N z1) []) (hk7 : ∀ (s0 : St) (x2 : Int32), k7 s0 x2 = some z1 → Aw p l e rm_X12_reckons s m args below meth c Q D A 4 (wR N s0) 7 [(0, .ref (N.1 0)), (2, .int x2)] []) : ∀ (n : Nat) (s0 : St) (x2 : Int32) (x3 : Int32), F_X12_reckons_17 k7 n s0 x2 x3 = some z1 → Aw p l e rm_X12_reckons s m args below meth c Q D A 4 (wR N s0) 17 [(0, .ref (N.1 0)), (2, .int x2), (3, .int x3)] [] := by
  intro n
  induction n with
  | zero => intro s0 x2 x3 h; cases h
  | succ n ih => intro s0 x2 x3 h; exact T_X12_reckons_17_b C hE hk7 ih s0 x2 x3 h
def F_X12_reckons_7_b (k7 : St → Int32 → Option (St)) (s0 : St) (x2 : Int32) : Option (St) :=
  oC (f_X12_cells s0) fun w3 =>
  oL w3.1 fun v1 => oL w3.2 fun s2 =>
  if v1 ≤ x2 then (
    some s2)
  else (
    oL (0 : Int32) fun y4 =>
    F_X12_reckons_17 k7 100000 s2 x2 y4)
set_option maxHeartbeats 4000000 in
set_option maxRecDepth 100000 in
theorem T_X12_reckons_7_b {z1 : St} {k7 : St → Int32 → Option (St)} (C : Cx p rm_X12_reckons s m args c D A cX12_reckons 4 RX12 rm_X12_reckons N) (hE : En p l e rm_X12_reckons s m args below meth c Q D A cX12_reckons .return_ (wR N z1) []) (hk7 : ∀ (s0 : St) (x2 : Int32), k7 s0 x2 = some z1 → Aw p l e rm_X12_reckons s m args below meth c Q D A 4 (wR N s0) 7 [(0, .ref (N.1 0)), (2, .int x2)] []) (s0 : St) (x2 : Int32) (h : F_X12_reckons_7_b k7 s0 x2 = some z1) : Aw p l e rm_X12_reckons s m args below meth c Q D A 4 (wR N s0) 7 [(0, .ref (N.1 0)), (2, .int x2)] [] := by
  unfold F_X12_reckons_7_b at h
  refine aw_iload_n C 1 dX12_reckons_7 rfl ?_
  refine aw_aload_n C 0 dX12_reckons_8 rfl ?_
  obtain ⟨⟨v1, s2⟩, cw3, h⟩ := oC_e h
  have h := oL_e (x := s2) rfl (oL_e (x := v1) rfl h)
  refine aw_callVi (n := 0) (As := []) (rest := [.int x2]) (q0 := 0) C (c_X12_cells l D N s0 s2 v1 cw3) lw_23_23 lw_24_0 lw_24_1 lw_1_5 lw_24_2 rfl rfl (by decide +kernel) ⟨Nat.le_of_ble_eq_true rfl, Nat.le_of_ble_eq_true rfl⟩ rfl rfl rfl rfl rfl (Nat.le_of_ble_eq_true rfl) dX12_reckons_9 ?_
  refine aw_icmp_ge (tgt := 68) C dX12_reckons_12 (by decide) (fun q => ?_) (fun q => ?_)
  · have h := bq_t q h
    cases h
    exact aw_ret hE dX12_reckons_68
  · have h := bq_f q h
    refine aw_iconst (v := 0) C dX12_reckons_15 (by decide) ?_
    refine aw_topi (fun y4 ey4 => ?_)
    have h := oL_e ey4 h
    refine aw_istore_n (lv' := [(0, .ref (N.1 0)), (2, .int x2), (3, .int y4)]) C [1, 2, 0] dX12_reckons_16 rfl (by decide) rfl ?_
    refine aw_sub (lv' := [(0, .ref (N.1 0)), (2, .int x2), (3, .int y4)]) [0, 1, 2] rfl ?_
    exact T_X12_reckons_17 C hE hk7 100000 s2 x2 y4 h
def F_X12_reckons_7 : Nat → St → Int32 → Option (St)
  | 0 => fun _ _ => none
  | n + 1 => F_X12_reckons_7_b (F_X12_reckons_7 n)
theorem T_X12_reckons_7 {z1 : St} (C : Cx p rm_X12_reckons s m args c D A cX12_reckons 4 RX12 rm_X12_reckons N) (hE : En p l e rm_X12_reckons s m args below meth c Q D A cX12_reckons .return_ (wR N z1) [])  : ∀ (n : Nat) (s0 : St) (x2 : Int32), F_X12_reckons_7 n s0 x2 = some z1 → Aw p l e rm_X12_reckons s m args below meth c Q D A 4 (wR N s0) 7 [(0, .ref (N.1 0)), (2, .int x2)] [] := by
  intro n
  induction n with
  | zero => intro s0 x2 h; cases h
  | succ n ih => intro s0 x2 h; exact T_X12_reckons_7_b C hE ih s0 x2 h
def F_X12_reckons_0 (s0 : St) (x1 : Int32) : Option (St) :=
  oC (f_X12_knowsNotes s0 x1) fun w3 =>
  oL w3 fun s2 =>
  oL (0 : Int32) fun y4 =>
  F_X12_reckons_7 100000 s2 y4
set_option maxHeartbeats 4000000 in
set_option maxRecDepth 100000 in
theorem T_X12_reckons_0 {z1 : St} (C : Cx p rm_X12_reckons s m args c D A cX12_reckons 4 RX12 rm_X12_reckons N) (hE : En p l e rm_X12_reckons s m args below meth c Q D A cX12_reckons .return_ (wR N z1) [])  (s0 : St) (x1 : Int32) (h : F_X12_reckons_0 s0 x1 = some z1) : Aw p l e rm_X12_reckons s m args below meth c Q D A 4 (wR N s0) 0 [(0, .ref (N.1 0)), (1, .int x1)] [] := by
  unfold F_X12_reckons_0 at h
  refine aw_aload_n C 0 dX12_reckons_0 rfl ?_
  refine aw_iload_n C 1 dX12_reckons_1 rfl ?_
  obtain ⟨s2, cw3, h⟩ := oC_e h
  have h := oL_e (x := s2) rfl h
  refine aw_callVv (n := 1) (As := [.int x1]) (rest := []) (q0 := 0) C (c_X12_knowsNotes l D N s0 s2 x1 cw3) lw_29_7 lw_29_8 lw_29_9 lw_1_5 lw_29_10 rfl rfl (by decide +kernel) ⟨Nat.le_of_ble_eq_true rfl, Nat.le_of_ble_eq_true rfl⟩ rfl rfl rfl rfl rfl (Nat.le_of_ble_eq_true rfl) dX12_reckons_2 ?_
  refine aw_iconst (v := 0) C dX12_reckons_5 (by decide) ?_
  refine aw_topi (fun y4 ey4 => ?_)
  have h := oL_e ey4 h
  refine aw_istore_n (lv' := [(0, .ref (N.1 0)), (1, .int x1), (2, .int y4)]) C [1, 2, 0] dX12_reckons_6 rfl (by decide) rfl ?_
  refine aw_sub (lv' := [(0, .ref (N.1 0)), (2, .int y4)]) [0, 2] rfl ?_
  exact T_X12_reckons_7 C hE 100000 s2 y4 h
def f_X12_reckons (s0 : St) (x1 : Int32) : Option (St) := F_X12_reckons_0 s0 x1
theorem c_X12_reckons (l : Launch) (D : va_G) (N : Nm) (s0 z1 : St) (x1 : Int32) (h : f_X12_reckons s0 x1 = some z1) : Metv l yX12_reckons (tsU yX12_reckons cX12_reckons 4 none) rm_X12_reckons D N [.ref (N.1 0), .int x1] (wR N s0) (wR N z1) :=
  met_v (cc := cX12_reckons) (nL := 4) (own := RX12) (by decide) rfl (Nat.le_of_ble_eq_true rfl) (fun p e s m args below meth c Q A C hE => aw_sub [0, 1] rfl (T_X12_reckons_0 C hE s0 x1 h))
/-! AwardLineModel.span(IIII)I -/
def rm_X12_span : Room := { frames := 2, cells := 0, slots := 0, locals := 41 }
def F_X12_span_40 (s0 : St) : Option (Int32 × St) :=
  some ((-1 : Int32), s0)
set_option maxHeartbeats 4000000 in
set_option maxRecDepth 100000 in
theorem T_X12_span_40 {r : Int32} {z1 : St} (C : Cx p rm_X12_span s m args c D A cX12_span 6 RX12 rm_X12_span N) (hE : En p l e rm_X12_span s m args below meth c Q D A cX12_span .ireturn (wR N z1) [.int r])  (s0 : St) (h : F_X12_span_40 s0 = some (r, z1)) : Aw p l e rm_X12_span s m args below meth c Q D A 6 (wR N s0) 40 [] [] := by
  unfold F_X12_span_40 at h
  refine aw_iconst (v := -1) C dX12_span_40 (by decide) ?_
  cases h
  exact aw_ret hE dX12_span_41
def F_X12_span_108 (s0 : St) (t0 : Int32) : Option (Int32 × St) :=
  some (t0, s0)
set_option maxHeartbeats 4000000 in
set_option maxRecDepth 100000 in
theorem T_X12_span_108 {r : Int32} {z1 : St} (C : Cx p rm_X12_span s m args c D A cX12_span 6 RX12 rm_X12_span N) (hE : En p l e rm_X12_span s m args below meth c Q D A cX12_span .ireturn (wR N z1) [.int r])  (s0 : St) (t0 : Int32) (h : F_X12_span_108 s0 t0 = some (r, z1)) : Aw p l e rm_X12_span s m args below meth c Q D A 6 (wR N s0) 108 [] [.int t0] := by
  unfold F_X12_span_108 at h
  cases h
  exact aw_ret hE dX12_span_108
def F_X12_span_81 (s0 : St) (t0 : Int32) : Option (Int32 × St) :=
  some (t0, s0)
set_option maxHeartbeats 4000000 in
set_option maxRecDepth 100000 in
theorem T_X12_span_81 {r : Int32} {z1 : St} (C : Cx p rm_X12_span s m args c D A cX12_span 6 RX12 rm_X12_span N) (hE : En p l e rm_X12_span s m args below meth c Q D A cX12_span .ireturn (wR N z1) [.int r])  (s0 : St) (t0 : Int32) (h : F_X12_span_81 s0 t0 = some (r, z1)) : Aw p l e rm_X12_span s m args below meth c Q D A 6 (wR N s0) 81 [] [.int t0] := by
  unfold F_X12_span_81 at h
  cases h
  exact aw_ret hE dX12_span_81
def F_X12_span_0 (s0 : St) (x1 : Int32) (x2 : Int32) (x3 : Int32) (x4 : Int32) : Option (Int32 × St) :=
  oL (sI s0 0 (0 : Int32)) fun s1 =>
  oC (f_X12_isVillage s1 x1) fun w4 =>
  oL w4.1 fun v2 => oL w4.2 fun s3 =>
  if v2 = 0 then (
    F_X12_span_40 s3)
  else (
    if x2 < 0 then (
      F_X12_span_40 s3)
    else (
      if (1 : Int32) < x2 then (
        F_X12_span_40 s3)
      else (
        oC (f_X12_isDay s3 x3) fun w7 =>
        oL w7.1 fun v5 => oL w7.2 fun s6 =>
        if v5 = 0 then (
          F_X12_span_40 s6)
        else (
          if x4 < 0 then (
            F_X12_span_40 s6)
          else (
            if x4 ≤ (2 : Int32) then (
              oC (f_X12_knowsNotes s6 x3) fun w10 =>
              oL w10 fun s9 =>
              oC (f_X12_spans s9 x1 x2) fun w13 =>
              oL w13.1 fun v11 => oL w13.2 fun s12 =>
              if x4 = (2 : Int32) then (
                if v11 = 0 then (
                  F_X12_span_81 s12 (0 : Int32))
                else (
                  oD (2 : Int32) <|
                  F_X12_span_81 s12 (((s12.1 28) + (s12.1 29)) / (2 : Int32))))
              else (
                if v11 = 0 then (
                  F_X12_span_108 s12 (-2 : Int32))
                else (
                  if x4 = 0 then (
                    F_X12_span_108 s12 (s12.1 28))
                  else (
                    F_X12_span_108 s12 (s12.1 29)))))
            else (
              F_X12_span_40 s6))))))
set_option maxHeartbeats 4000000 in
set_option maxRecDepth 100000 in
theorem T_X12_span_0 {r : Int32} {z1 : St} (C : Cx p rm_X12_span s m args c D A cX12_span 6 RX12 rm_X12_span N) (hE : En p l e rm_X12_span s m args below meth c Q D A cX12_span .ireturn (wR N z1) [.int r])  (s0 : St) (x1 : Int32) (x2 : Int32) (x3 : Int32) (x4 : Int32) (h : F_X12_span_0 s0 x1 x2 x3 x4 = some (r, z1)) : Aw p l e rm_X12_span s m args below meth c Q D A 6 (wR N s0) 0 [(0, .ref (N.1 0)), (1, .int x1), (2, .int x2), (3, .int x3), (4, .int x4)] [] := by
  unfold F_X12_span_0 at h
  refine aw_aload_n C 0 dX12_span_0 rfl ?_
  refine aw_iconst (v := 0) C dX12_span_1 (by decide) ?_
  refine rp_md_thrown C lw_10_11 dX12_span_2 ?_
  refine ra_name (fun s1 es1 => ?_)
  have h := oL_e es1 h
  refine aw_aload_n C 0 dX12_span_5 rfl ?_
  refine aw_iload_n C 1 dX12_span_6 rfl ?_
  obtain ⟨⟨v2, s3⟩, cw4, h⟩ := oC_e h
  have h := oL_e (x := s3) rfl (oL_e (x := v2) rfl h)
  refine aw_callVi (n := 1) (As := [.int x1]) (rest := []) (q0 := 0) C (c_X12_isVillage l D N s1 s3 x1 v2 cw4) lw_23_19 lw_23_20 lw_23_21 lw_1_5 lw_23_22 rfl rfl (by decide +kernel) ⟨Nat.le_of_ble_eq_true rfl, Nat.le_of_ble_eq_true rfl⟩ rfl rfl rfl rfl rfl (Nat.le_of_ble_eq_true rfl) dX12_span_7 ?_
  refine aw_if_eq (tgt := 40) C dX12_span_10 (by decide) (fun q => ?_) (fun q => ?_)
  · have h := bq_t q h
    refine aw_sub (lv' := []) [] rfl ?_
    exact T_X12_span_40 C hE s3 h
  · have h := bq_f q h
    refine aw_iload_n C 2 dX12_span_13 rfl ?_
    refine aw_if_lt (tgt := 40) C dX12_span_14 (by decide) (fun q => ?_) (fun q => ?_)
    · have h := bq_t q h
      refine aw_sub (lv' := []) [] rfl ?_
      exact T_X12_span_40 C hE s3 h
    · have h := bq_f q h
      refine aw_iload_n C 2 dX12_span_17 rfl ?_
      refine aw_iconst (v := 1) C dX12_span_18 (by decide) ?_
      refine aw_icmp_gt (tgt := 40) C dX12_span_19 (by decide) (fun q => ?_) (fun q => ?_)
      · have h := bq_t q h
        refine aw_sub (lv' := []) [] rfl ?_
        exact T_X12_span_40 C hE s3 h
      · have h := bq_f q h
        refine aw_iload_n C 3 dX12_span_22 rfl ?_
        obtain ⟨⟨v5, s6⟩, cw7, h⟩ := oC_e h
        have h := oL_e (x := s6) rfl (oL_e (x := v5) rfl h)
        refine aw_callSi (n := 1) (As := [.int x3]) (rest := []) C (c_X12_isDay l D N s3 s6 x3 v5 cw7) lw_29_4 lw_29_5 lw_1_5 lw_29_6 rfl rfl (by decide +kernel) ⟨Nat.le_of_ble_eq_true rfl, Nat.le_of_ble_eq_true rfl⟩ rfl rfl (Nat.le_of_ble_eq_true rfl) dX12_span_23 ?_
        refine aw_if_eq (tgt := 40) C dX12_span_26 (by decide) (fun q => ?_) (fun q => ?_)
        · have h := bq_t q h
          refine aw_sub (lv' := []) [] rfl ?_
          exact T_X12_span_40 C hE s6 h
        · have h := bq_f q h
          refine aw_iload C 4 dX12_span_29 rfl ?_
          refine aw_if_lt (tgt := 40) C dX12_span_31 (by decide) (fun q => ?_) (fun q => ?_)
          · have h := bq_t q h
            refine aw_sub (lv' := []) [] rfl ?_
            exact T_X12_span_40 C hE s6 h
          · have h := bq_f q h
            refine aw_iload C 4 dX12_span_34 rfl ?_
            refine aw_iconst (v := 2) C dX12_span_36 (by decide) ?_
            refine aw_icmp_le (tgt := 42) C dX12_span_37 (by decide) (fun q => ?_) (fun q => ?_)
            · have h := bq_t q h
              refine aw_aload_n C 0 dX12_span_42 rfl ?_
              refine aw_iload_n C 3 dX12_span_43 rfl ?_
              obtain ⟨s9, cw10, h⟩ := oC_e h
              have h := oL_e (x := s9) rfl h
              refine aw_callVv (n := 1) (As := [.int x3]) (rest := []) (q0 := 0) C (c_X12_knowsNotes l D N s6 s9 x3 cw10) lw_29_7 lw_29_8 lw_29_9 lw_1_5 lw_29_10 rfl rfl (by decide +kernel) ⟨Nat.le_of_ble_eq_true rfl, Nat.le_of_ble_eq_true rfl⟩ rfl rfl rfl rfl rfl (Nat.le_of_ble_eq_true rfl) dX12_span_44 ?_
              refine aw_aload_n C 0 dX12_span_47 rfl ?_
              refine aw_iload_n C 1 dX12_span_48 rfl ?_
              refine aw_iload_n C 2 dX12_span_49 rfl ?_
              obtain ⟨⟨v11, s12⟩, cw13, h⟩ := oC_e h
              have h := oL_e (x := s12) rfl (oL_e (x := v11) rfl h)
              refine aw_callVi (n := 2) (As := [.int x1, .int x2]) (rest := []) (q0 := 0) C (c_X12_spans l D N s9 s12 x1 x2 v11 cw13) lw_29_11 lw_29_12 lw_29_13 lw_1_5 lw_29_14 rfl rfl (by decide +kernel) ⟨Nat.le_of_ble_eq_true rfl, Nat.le_of_ble_eq_true rfl⟩ rfl rfl rfl rfl rfl (Nat.le_of_ble_eq_true rfl) dX12_span_50 ?_
              refine aw_istore (lv' := [(0, .ref (N.1 0)), (1, .int x1), (2, .int x2), (3, .int x3), (4, .int x4), (5, .int v11)]) C [1, 2, 3, 4, 5, 0] dX12_span_53 (by decide) rfl ?_
              refine aw_iload C 4 dX12_span_55 rfl ?_
              refine aw_iconst (v := 2) C dX12_span_57 (by decide) ?_
              refine aw_icmp_ne (tgt := 82) C dX12_span_58 (by decide) (fun q => ?_) (fun q => ?_)
              · have h := bq_f q h
                refine aw_iload C 5 dX12_span_82 rfl ?_
                refine aw_if_ne (tgt := 92) C dX12_span_84 (by decide) (fun q => ?_) (fun q => ?_)
                · have h := bq_f q h
                  refine aw_iload C 4 dX12_span_92 rfl ?_
                  refine aw_if_ne (tgt := 104) C dX12_span_94 (by decide) (fun q => ?_) (fun q => ?_)
                  · have h := bq_f q h
                    refine aw_aload_n C 0 dX12_span_104 rfl ?_
                    refine rg_md_spanHigh C lw_29_3 dX12_span_105 ?_
                    refine aw_sub (lv' := []) [] rfl ?_
                    exact T_X12_span_108 C hE s12 (s12.1 29) h
                  · have h := bq_t q h
                    refine aw_aload_n C 0 dX12_span_97 rfl ?_
                    refine rg_md_spanLow C lw_29_2 dX12_span_98 ?_
                    refine aw_goto (tgt := 108) C dX12_span_101 (by decide) ?_
                    refine aw_sub (lv' := []) [] rfl ?_
                    exact T_X12_span_108 C hE s12 (s12.1 28) h
                · have h := bq_t q h
                  refine aw_bipush (v := -2) C dX12_span_87 (by decide) ?_
                  refine aw_goto (tgt := 108) C dX12_span_89 (by decide) ?_
                  refine aw_sub (lv' := []) [] rfl ?_
                  exact T_X12_span_108 C hE s12 (-2 : Int32) h
              · have h := bq_t q h
                refine aw_iload C 5 dX12_span_61 rfl ?_
                refine aw_if_eq (tgt := 80) C dX12_span_63 (by decide) (fun q => ?_) (fun q => ?_)
                · have h := bq_t q h
                  refine aw_iconst (v := 0) C dX12_span_80 (by decide) ?_
                  refine aw_sub (lv' := []) [] rfl ?_
                  exact T_X12_span_81 C hE s12 (0 : Int32) h
                · have h := bq_f q h
                  refine aw_aload_n C 0 dX12_span_66 rfl ?_
                  refine rg_md_spanLow C lw_29_2 dX12_span_67 ?_
                  refine aw_aload_n C 0 dX12_span_70 rfl ?_
                  refine rg_md_spanHigh C lw_29_3 dX12_span_71 ?_
                  refine aw_iadd C dX12_span_74 ?_
                  refine aw_iconst (v := 2) C dX12_span_75 (by decide) ?_
                  obtain ⟨q14, h⟩ := oD_e h
                  refine aw_idiv C dX12_span_76 q14 ?_
                  refine aw_goto (tgt := 81) C dX12_span_77 (by decide) ?_
                  refine aw_sub (lv' := []) [] rfl ?_
                  exact T_X12_span_81 C hE s12 (((s12.1 28) + (s12.1 29)) / (2 : Int32)) h
            · have h := bq_f q h
              refine aw_sub (lv' := []) [] rfl ?_
              exact T_X12_span_40 C hE s6 h
def f_X12_span (s0 : St) (x1 : Int32) (x2 : Int32) (x3 : Int32) (x4 : Int32) : Option (Int32 × St) := F_X12_span_0 s0 x1 x2 x3 x4
theorem c_X12_span (l : Launch) (D : va_G) (N : Nm) (s0 z1 : St) (x1 : Int32) (x2 : Int32) (x3 : Int32) (x4 : Int32) (r : Int32) (h : f_X12_span s0 x1 x2 x3 x4 = some (r, z1)) : Meti l yX12_span (tsU yX12_span cX12_span 6 (some .int)) rm_X12_span D N [.ref (N.1 0), .int x1, .int x2, .int x3, .int x4] (wR N s0) r (wR N z1) :=
  met_i (cc := cX12_span) (nL := 6) (own := RX12) (by decide) rfl (Nat.le_of_ble_eq_true rfl) (fun p e s m args below meth c Q A C hE => aw_sub [0, 1, 2, 3, 4] rfl (T_X12_span_0 C hE s0 x1 x2 x3 x4 h))
/-! AwardLineModel.canal(I)I -/
def rm_X12_canal : Room := { frames := 2, cells := 0, slots := 0, locals := 41 }
def F_X12_canal_22 (s0 : St) : Option (Int32 × St) :=
  some ((-1 : Int32), s0)
set_option maxHeartbeats 4000000 in
set_option maxRecDepth 100000 in
theorem T_X12_canal_22 {r : Int32} {z1 : St} (C : Cx p rm_X12_canal s m args c D A cX12_canal 2 RX12 rm_X12_canal N) (hE : En p l e rm_X12_canal s m args below meth c Q D A cX12_canal .ireturn (wR N z1) [.int r])  (s0 : St) (h : F_X12_canal_22 s0 = some (r, z1)) : Aw p l e rm_X12_canal s m args below meth c Q D A 2 (wR N s0) 22 [] [] := by
  unfold F_X12_canal_22 at h
  refine aw_iconst (v := -1) C dX12_canal_22 (by decide) ?_
  cases h
  exact aw_ret hE dX12_canal_23
def F_X12_canal_0 (s0 : St) (x1 : Int32) : Option (Int32 × St) :=
  oL (sI s0 0 (0 : Int32)) fun s1 =>
  oC (f_X12_isVillage s1 x1) fun w4 =>
  oL w4.1 fun v2 => oL w4.2 fun s3 =>
  if v2 = 0 then (
    F_X12_canal_22 s3)
  else (
    if (s3.1 24) = (6 : Int32) then (
      F_X12_canal_22 s3)
    else (
      oA ((6 : Int32) * (s3.1 24)) 36 <|
      oL (sA s3 11 (upd (s3.2.1 11) (Int32.toNatClampNeg ((6 : Int32) * (s3.1 24))) x1)) fun s6 =>
      oA (s6.1 24) 6 <|
      oL (sA s6 12 (upd (s6.2.1 12) (Int32.toNatClampNeg (s6.1 24)) (0 : Int32))) fun s8 =>
      oL (sI s8 24 ((s8.1 24) + (1 : Int32))) fun s9 =>
      some ((s9.1 24) - (1 : Int32), s9)))
set_option maxHeartbeats 4000000 in
set_option maxRecDepth 100000 in
theorem T_X12_canal_0 {r : Int32} {z1 : St} (C : Cx p rm_X12_canal s m args c D A cX12_canal 2 RX12 rm_X12_canal N) (hE : En p l e rm_X12_canal s m args below meth c Q D A cX12_canal .ireturn (wR N z1) [.int r])  (s0 : St) (x1 : Int32) (h : F_X12_canal_0 s0 x1 = some (r, z1)) : Aw p l e rm_X12_canal s m args below meth c Q D A 2 (wR N s0) 0 [(0, .ref (N.1 0)), (1, .int x1)] [] := by
  unfold F_X12_canal_0 at h
  refine aw_aload_n C 0 dX12_canal_0 rfl ?_
  refine aw_iconst (v := 0) C dX12_canal_1 (by decide) ?_
  refine rp_md_thrown C lw_10_11 dX12_canal_2 ?_
  refine ra_name (fun s1 es1 => ?_)
  have h := oL_e es1 h
  refine aw_aload_n C 0 dX12_canal_5 rfl ?_
  refine aw_iload_n C 1 dX12_canal_6 rfl ?_
  obtain ⟨⟨v2, s3⟩, cw4, h⟩ := oC_e h
  have h := oL_e (x := s3) rfl (oL_e (x := v2) rfl h)
  refine aw_callVi (n := 1) (As := [.int x1]) (rest := []) (q0 := 0) C (c_X12_isVillage l D N s1 s3 x1 v2 cw4) lw_23_19 lw_23_20 lw_23_21 lw_1_5 lw_23_22 rfl rfl (by decide +kernel) ⟨Nat.le_of_ble_eq_true rfl, Nat.le_of_ble_eq_true rfl⟩ rfl rfl rfl rfl rfl (Nat.le_of_ble_eq_true rfl) dX12_canal_7 ?_
  refine aw_if_eq (tgt := 22) C dX12_canal_10 (by decide) (fun q => ?_) (fun q => ?_)
  · have h := bq_t q h
    refine aw_sub (lv' := []) [] rfl ?_
    exact T_X12_canal_22 C hE s3 h
  · have h := bq_f q h
    refine aw_aload_n C 0 dX12_canal_13 rfl ?_
    refine rg_md_canals C lw_9_13 dX12_canal_14 ?_
    refine aw_bipush (v := 6) C dX12_canal_17 (by decide) ?_
    refine aw_icmp_ne (tgt := 24) C dX12_canal_19 (by decide) (fun q => ?_) (fun q => ?_)
    · have h := bq_f q h
      refine aw_aload_n C 0 dX12_canal_24 rfl ?_
      refine rg_md_canal C lw_8_12 dX12_canal_25 ?_
      refine aw_bipush (v := 6) C dX12_canal_28 (by decide) ?_
      refine aw_aload_n C 0 dX12_canal_30 rfl ?_
      refine rg_md_canals C lw_9_13 dX12_canal_31 ?_
      refine aw_imul C dX12_canal_34 ?_
      refine aw_iload_n C 1 dX12_canal_35 rfl ?_
      obtain ⟨q5, h⟩ := oA_e h
      refine ra_iast (k := 11) C (by decide) rfl q5 dX12_canal_36 ?_
      refine ra_name (fun s6 es6 => ?_)
      have h := oL_e es6 h
      refine aw_aload_n C 0 dX12_canal_37 rfl ?_
      refine rg_md_drinkers C lw_8_13 dX12_canal_38 ?_
      refine aw_aload_n C 0 dX12_canal_41 rfl ?_
      refine rg_md_canals C lw_9_13 dX12_canal_42 ?_
      refine aw_iconst (v := 0) C dX12_canal_45 (by decide) ?_
      obtain ⟨q7, h⟩ := oA_e h
      refine ra_iast (k := 12) C (by decide) rfl q7 dX12_canal_46 ?_
      refine ra_name (fun s8 es8 => ?_)
      have h := oL_e es8 h
      refine aw_aload_n C 0 dX12_canal_47 rfl ?_
      refine aw_dup C dX12_canal_48 rfl ?_
      refine rg_md_canals C lw_9_13 dX12_canal_49 ?_
      refine aw_iconst (v := 1) C dX12_canal_52 (by decide) ?_
      refine aw_iadd C dX12_canal_53 ?_
      refine rp_md_canals C lw_9_13 dX12_canal_54 ?_
      refine ra_name (fun s9 es9 => ?_)
      have h := oL_e es9 h
      refine aw_aload_n C 0 dX12_canal_57 rfl ?_
      refine rg_md_canals C lw_9_13 dX12_canal_58 ?_
      refine aw_iconst (v := 1) C dX12_canal_61 (by decide) ?_
      refine aw_isub C dX12_canal_62 ?_
      cases h
      exact aw_ret hE dX12_canal_63
    · have h := bq_t q h
      refine aw_sub (lv' := []) [] rfl ?_
      exact T_X12_canal_22 C hE s3 h
def f_X12_canal (s0 : St) (x1 : Int32) : Option (Int32 × St) := F_X12_canal_0 s0 x1
theorem c_X12_canal (l : Launch) (D : va_G) (N : Nm) (s0 z1 : St) (x1 : Int32) (r : Int32) (h : f_X12_canal s0 x1 = some (r, z1)) : Meti l yX12_canal (tsU yX12_canal cX12_canal 2 (some .int)) rm_X12_canal D N [.ref (N.1 0), .int x1] (wR N s0) r (wR N z1) :=
  met_i (cc := cX12_canal) (nL := 2) (own := RX12) (by decide) rfl (Nat.le_of_ble_eq_true rfl) (fun p e s m args below meth c Q A C hE => aw_sub [0, 1] rfl (T_X12_canal_0 C hE s0 x1 h))
/-! AwardLineModel.drinks(II)I -/
def rm_X12_drinks : Room := { frames := 2, cells := 0, slots := 0, locals := 41 }
def F_X12_drinks_35 (s0 : St) : Option (Int32 × St) :=
  some ((-1 : Int32), s0)
set_option maxHeartbeats 4000000 in
set_option maxRecDepth 100000 in
theorem T_X12_drinks_35 {r : Int32} {z1 : St} (C : Cx p rm_X12_drinks s m args c D A cX12_drinks 4 RX12 rm_X12_drinks N) (hE : En p l e rm_X12_drinks s m args below meth c Q D A cX12_drinks .ireturn (wR N z1) [.int r])  (s0 : St) (h : F_X12_drinks_35 s0 = some (r, z1)) : Aw p l e rm_X12_drinks s m args below meth c Q D A 4 (wR N s0) 35 [] [] := by
  unfold F_X12_drinks_35 at h
  refine aw_iconst (v := -1) C dX12_drinks_35 (by decide) ?_
  cases h
  exact aw_ret hE dX12_drinks_36
def F_X12_drinks_39_b (k39 : St → Int32 → Int32 → Int32 → Option (Int32 × St)) (s0 : St) (x1 : Int32) (x2 : Int32) (x3 : Int32) : Option (Int32 × St) :=
  oA x1 6 <|
  if (s0.2.1 12 (Int32.toNatClampNeg x1)) < x3 then (
    oA x1 6 <|
    oA x1 6 <|
    oL (sA s0 12 (upd (s0.2.1 12) (Int32.toNatClampNeg x1) ((s0.2.1 12 (Int32.toNatClampNeg x1)) + (1 : Int32)))) fun s4 =>
    oA x1 6 <|
    oA (((6 : Int32) * x1) + (s4.2.1 12 (Int32.toNatClampNeg x1))) 36 <|
    oL (sA s4 11 (upd (s4.2.1 11) (Int32.toNatClampNeg (((6 : Int32) * x1) + (s4.2.1 12 (Int32.toNatClampNeg x1)))) x2)) fun s7 =>
    oA x1 6 <|
    some ((s7.2.1 12 (Int32.toNatClampNeg x1)), s7))
  else (
    oA (((6 : Int32) * x1) + x3) 36 <|
    if (s0.2.1 11 (Int32.toNatClampNeg (((6 : Int32) * x1) + x3))) = x2 then (
      some ((-1 : Int32), s0))
    else (
      oL (x3 + (1 : Int32)) fun y10 =>
      k39 s0 x1 x2 y10))
set_option maxHeartbeats 4000000 in
set_option maxRecDepth 100000 in
theorem T_X12_drinks_39_b {r : Int32} {z1 : St} {k39 : St → Int32 → Int32 → Int32 → Option (Int32 × St)} (C : Cx p rm_X12_drinks s m args c D A cX12_drinks 4 RX12 rm_X12_drinks N) (hE : En p l e rm_X12_drinks s m args below meth c Q D A cX12_drinks .ireturn (wR N z1) [.int r]) (hk39 : ∀ (s0 : St) (x1 : Int32) (x2 : Int32) (x3 : Int32), k39 s0 x1 x2 x3 = some (r, z1) → Aw p l e rm_X12_drinks s m args below meth c Q D A 4 (wR N s0) 39 [(0, .ref (N.1 0)), (1, .int x1), (2, .int x2), (3, .int x3)] []) (s0 : St) (x1 : Int32) (x2 : Int32) (x3 : Int32) (h : F_X12_drinks_39_b k39 s0 x1 x2 x3 = some (r, z1)) : Aw p l e rm_X12_drinks s m args below meth c Q D A 4 (wR N s0) 39 [(0, .ref (N.1 0)), (1, .int x1), (2, .int x2), (3, .int x3)] [] := by
  unfold F_X12_drinks_39_b at h
  refine aw_iload_n C 3 dX12_drinks_39 rfl ?_
  refine aw_aload_n C 0 dX12_drinks_40 rfl ?_
  refine rg_md_drinkers C lw_8_13 dX12_drinks_41 ?_
  refine aw_iload_n C 1 dX12_drinks_44 rfl ?_
  obtain ⟨q1, h⟩ := oA_e h
  refine ra_iald (k := 12) C (by decide) rfl q1 dX12_drinks_45 ?_
  refine aw_icmp_gt (tgt := 72) C dX12_drinks_46 (by decide) (fun q => ?_) (fun q => ?_)
  · have h := bq_t q h
    refine aw_aload_n C 0 dX12_drinks_72 rfl ?_
    refine rg_md_drinkers C lw_8_13 dX12_drinks_73 ?_
    refine aw_iload_n C 1 dX12_drinks_76 rfl ?_
    refine aw_dup2 C dX12_drinks_77 rfl rfl ?_
    obtain ⟨q2, h⟩ := oA_e h
    refine ra_iald (k := 12) C (by decide) rfl q2 dX12_drinks_78 ?_
    refine aw_iconst (v := 1) C dX12_drinks_79 (by decide) ?_
    refine aw_iadd C dX12_drinks_80 ?_
    obtain ⟨q3, h⟩ := oA_e h
    refine ra_iast (k := 12) C (by decide) rfl q3 dX12_drinks_81 ?_
    refine ra_name (fun s4 es4 => ?_)
    have h := oL_e es4 h
    refine aw_aload_n C 0 dX12_drinks_82 rfl ?_
    refine rg_md_canal C lw_8_12 dX12_drinks_83 ?_
    refine aw_bipush (v := 6) C dX12_drinks_86 (by decide) ?_
    refine aw_iload_n C 1 dX12_drinks_88 rfl ?_
    refine aw_imul C dX12_drinks_89 ?_
    refine aw_aload_n C 0 dX12_drinks_90 rfl ?_
    refine rg_md_drinkers C lw_8_13 dX12_drinks_91 ?_
    refine aw_iload_n C 1 dX12_drinks_94 rfl ?_
    obtain ⟨q5, h⟩ := oA_e h
    refine ra_iald (k := 12) C (by decide) rfl q5 dX12_drinks_95 ?_
    refine aw_iadd C dX12_drinks_96 ?_
    refine aw_iload_n C 2 dX12_drinks_97 rfl ?_
    obtain ⟨q6, h⟩ := oA_e h
    refine ra_iast (k := 11) C (by decide) rfl q6 dX12_drinks_98 ?_
    refine ra_name (fun s7 es7 => ?_)
    have h := oL_e es7 h
    refine aw_aload_n C 0 dX12_drinks_99 rfl ?_
    refine rg_md_drinkers C lw_8_13 dX12_drinks_100 ?_
    refine aw_iload_n C 1 dX12_drinks_103 rfl ?_
    obtain ⟨q8, h⟩ := oA_e h
    refine ra_iald (k := 12) C (by decide) rfl q8 dX12_drinks_104 ?_
    cases h
    exact aw_ret hE dX12_drinks_105
  · have h := bq_f q h
    refine aw_aload_n C 0 dX12_drinks_49 rfl ?_
    refine rg_md_canal C lw_8_12 dX12_drinks_50 ?_
    refine aw_bipush (v := 6) C dX12_drinks_53 (by decide) ?_
    refine aw_iload_n C 1 dX12_drinks_55 rfl ?_
    refine aw_imul C dX12_drinks_56 ?_
    refine aw_iload_n C 3 dX12_drinks_57 rfl ?_
    refine aw_iadd C dX12_drinks_58 ?_
    obtain ⟨q9, h⟩ := oA_e h
    refine ra_iald (k := 11) C (by decide) rfl q9 dX12_drinks_59 ?_
    refine aw_iload_n C 2 dX12_drinks_60 rfl ?_
    refine aw_icmp_ne (tgt := 66) C dX12_drinks_61 (by decide) (fun q => ?_) (fun q => ?_)
    · have h := bq_f q h
      obtain ⟨y10, ey10⟩ : ∃ q : Int32, q = x3 + (1 : Int32) := ⟨_, rfl⟩
      have h := oL_e ey10 h
      refine aw_iinc (v := y10) (k := 3) (lv' := [(0, .ref (N.1 0)), (1, .int x1), (2, .int x2), (3, .int y10)]) C [1, 2, 3, 0] dX12_drinks_66 rfl (by rw [ey10]; rfl) (by decide) rfl ?_
      refine aw_goto (tgt := 39) C dX12_drinks_69 (by decide) ?_
      refine aw_sub (lv' := [(0, .ref (N.1 0)), (1, .int x1), (2, .int x2), (3, .int y10)]) [0, 1, 2, 3] rfl ?_
      exact hk39 s0 x1 x2 y10 h
    · have h := bq_t q h
      refine aw_iconst (v := -1) C dX12_drinks_64 (by decide) ?_
      cases h
      exact aw_ret hE dX12_drinks_65
def F_X12_drinks_39 : Nat → St → Int32 → Int32 → Int32 → Option (Int32 × St)
  | 0 => fun _ _ _ _ => none
  | n + 1 => F_X12_drinks_39_b (F_X12_drinks_39 n)
theorem T_X12_drinks_39 {r : Int32} {z1 : St} (C : Cx p rm_X12_drinks s m args c D A cX12_drinks 4 RX12 rm_X12_drinks N) (hE : En p l e rm_X12_drinks s m args below meth c Q D A cX12_drinks .ireturn (wR N z1) [.int r])  : ∀ (n : Nat) (s0 : St) (x1 : Int32) (x2 : Int32) (x3 : Int32), F_X12_drinks_39 n s0 x1 x2 x3 = some (r, z1) → Aw p l e rm_X12_drinks s m args below meth c Q D A 4 (wR N s0) 39 [(0, .ref (N.1 0)), (1, .int x1), (2, .int x2), (3, .int x3)] [] := by
  intro n
  induction n with
  | zero => intro s0 x1 x2 x3 h; cases h
  | succ n ih => intro s0 x1 x2 x3 h; exact T_X12_drinks_39_b C hE ih s0 x1 x2 x3 h
def F_X12_drinks_0 (s0 : St) (x1 : Int32) (x2 : Int32) : Option (Int32 × St) :=
  oL (sI s0 0 (0 : Int32)) fun s1 =>
  if x1 < 0 then (
    F_X12_drinks_35 s1)
  else (
    if (s1.1 24) ≤ x1 then (
      F_X12_drinks_35 s1)
    else (
      oC (f_X12_isVillage s1 x2) fun w4 =>
      oL w4.1 fun v2 => oL w4.2 fun s3 =>
      if v2 = 0 then (
        F_X12_drinks_35 s3)
      else (
        oA x1 6 <|
        if (s3.2.1 12 (Int32.toNatClampNeg x1)) = (5 : Int32) then (
          F_X12_drinks_35 s3)
        else (
          oL (0 : Int32) fun y6 =>
          F_X12_drinks_39 100000 s3 x1 x2 y6))))
set_option maxHeartbeats 4000000 in
set_option maxRecDepth 100000 in
theorem T_X12_drinks_0 {r : Int32} {z1 : St} (C : Cx p rm_X12_drinks s m args c D A cX12_drinks 4 RX12 rm_X12_drinks N) (hE : En p l e rm_X12_drinks s m args below meth c Q D A cX12_drinks .ireturn (wR N z1) [.int r])  (s0 : St) (x1 : Int32) (x2 : Int32) (h : F_X12_drinks_0 s0 x1 x2 = some (r, z1)) : Aw p l e rm_X12_drinks s m args below meth c Q D A 4 (wR N s0) 0 [(0, .ref (N.1 0)), (1, .int x1), (2, .int x2)] [] := by
  unfold F_X12_drinks_0 at h
  refine aw_aload_n C 0 dX12_drinks_0 rfl ?_
  refine aw_iconst (v := 0) C dX12_drinks_1 (by decide) ?_
  refine rp_md_thrown C lw_10_11 dX12_drinks_2 ?_
  refine ra_name (fun s1 es1 => ?_)
  have h := oL_e es1 h
  refine aw_iload_n C 1 dX12_drinks_5 rfl ?_
  refine aw_if_lt (tgt := 35) C dX12_drinks_6 (by decide) (fun q => ?_) (fun q => ?_)
  · have h := bq_t q h
    refine aw_sub (lv' := []) [] rfl ?_
    exact T_X12_drinks_35 C hE s1 h
  · have h := bq_f q h
    refine aw_iload_n C 1 dX12_drinks_9 rfl ?_
    refine aw_aload_n C 0 dX12_drinks_10 rfl ?_
    refine rg_md_canals C lw_9_13 dX12_drinks_11 ?_
    refine aw_icmp_ge (tgt := 35) C dX12_drinks_14 (by decide) (fun q => ?_) (fun q => ?_)
    · have h := bq_t q h
      refine aw_sub (lv' := []) [] rfl ?_
      exact T_X12_drinks_35 C hE s1 h
    · have h := bq_f q h
      refine aw_aload_n C 0 dX12_drinks_17 rfl ?_
      refine aw_iload_n C 2 dX12_drinks_18 rfl ?_
      obtain ⟨⟨v2, s3⟩, cw4, h⟩ := oC_e h
      have h := oL_e (x := s3) rfl (oL_e (x := v2) rfl h)
      refine aw_callVi (n := 1) (As := [.int x2]) (rest := []) (q0 := 0) C (c_X12_isVillage l D N s1 s3 x2 v2 cw4) lw_23_19 lw_23_20 lw_23_21 lw_1_5 lw_23_22 rfl rfl (by decide +kernel) ⟨Nat.le_of_ble_eq_true rfl, Nat.le_of_ble_eq_true rfl⟩ rfl rfl rfl rfl rfl (Nat.le_of_ble_eq_true rfl) dX12_drinks_19 ?_
      refine aw_if_eq (tgt := 35) C dX12_drinks_22 (by decide) (fun q => ?_) (fun q => ?_)
      · have h := bq_t q h
        refine aw_sub (lv' := []) [] rfl ?_
        exact T_X12_drinks_35 C hE s3 h
      · have h := bq_f q h
        refine aw_aload_n C 0 dX12_drinks_25 rfl ?_
        refine rg_md_drinkers C lw_8_13 dX12_drinks_26 ?_
        refine aw_iload_n C 1 dX12_drinks_29 rfl ?_
        obtain ⟨q5, h⟩ := oA_e h
        refine ra_iald (k := 12) C (by decide) rfl q5 dX12_drinks_30 ?_
        refine aw_iconst (v := 5) C dX12_drinks_31 (by decide) ?_
        refine aw_icmp_ne (tgt := 37) C dX12_drinks_32 (by decide) (fun q => ?_) (fun q => ?_)
        · have h := bq_f q h
          refine aw_iconst (v := 0) C dX12_drinks_37 (by decide) ?_
          refine aw_topi (fun y6 ey6 => ?_)
          have h := oL_e ey6 h
          refine aw_istore_n (lv' := [(0, .ref (N.1 0)), (1, .int x1), (2, .int x2), (3, .int y6)]) C [1, 2, 3, 0] dX12_drinks_38 rfl (by decide) rfl ?_
          refine aw_sub (lv' := [(0, .ref (N.1 0)), (1, .int x1), (2, .int x2), (3, .int y6)]) [0, 1, 2, 3] rfl ?_
          exact T_X12_drinks_39 C hE 100000 s3 x1 x2 y6 h
        · have h := bq_t q h
          refine aw_sub (lv' := []) [] rfl ?_
          exact T_X12_drinks_35 C hE s3 h
def f_X12_drinks (s0 : St) (x1 : Int32) (x2 : Int32) : Option (Int32 × St) := F_X12_drinks_0 s0 x1 x2
theorem c_X12_drinks (l : Launch) (D : va_G) (N : Nm) (s0 z1 : St) (x1 : Int32) (x2 : Int32) (r : Int32) (h : f_X12_drinks s0 x1 x2 = some (r, z1)) : Meti l yX12_drinks (tsU yX12_drinks cX12_drinks 4 (some .int)) rm_X12_drinks D N [.ref (N.1 0), .int x1, .int x2] (wR N s0) r (wR N z1) :=
  met_i (cc := cX12_drinks) (nL := 4) (own := RX12) (by decide) rfl (Nat.le_of_ble_eq_true rfl) (fun p e s m args below meth c Q A C hE => aw_sub [0, 1, 2] rfl (T_X12_drinks_0 C hE s0 x1 x2 h))
/-! AwardLineModel.isHead(I)Z -/
def rm_X12_isHead : Room := { frames := 0, cells := 0, slots := 0, locals := 0 }
def F_X12_isHead_2_b (k2 : St → Int32 → Int32 → Option (Int32 × St)) (s0 : St) (x1 : Int32) (x2 : Int32) : Option (Int32 × St) :=
  if (s0.1 24) ≤ x2 then (
    some ((0 : Int32), s0))
  else (
    oA ((6 : Int32) * x2) 36 <|
    if (s0.2.1 11 (Int32.toNatClampNeg ((6 : Int32) * x2))) = x1 then (
      some ((1 : Int32), s0))
    else (
      oL (x2 + (1 : Int32)) fun y2 =>
      k2 s0 x1 y2))
set_option maxHeartbeats 4000000 in
set_option maxRecDepth 100000 in
theorem T_X12_isHead_2_b {r : Int32} {z1 : St} {k2 : St → Int32 → Int32 → Option (Int32 × St)} (C : Cx p rm_X12_isHead s m args c D A cX12_isHead 3 RX12 rm_X12_isHead N) (hE : En p l e rm_X12_isHead s m args below meth c Q D A cX12_isHead .ireturn (wR N z1) [.int r]) (hk2 : ∀ (s0 : St) (x1 : Int32) (x2 : Int32), k2 s0 x1 x2 = some (r, z1) → Aw p l e rm_X12_isHead s m args below meth c Q D A 3 (wR N s0) 2 [(0, .ref (N.1 0)), (1, .int x1), (2, .int x2)] []) (s0 : St) (x1 : Int32) (x2 : Int32) (h : F_X12_isHead_2_b k2 s0 x1 x2 = some (r, z1)) : Aw p l e rm_X12_isHead s m args below meth c Q D A 3 (wR N s0) 2 [(0, .ref (N.1 0)), (1, .int x1), (2, .int x2)] [] := by
  unfold F_X12_isHead_2_b at h
  refine aw_iload_n C 2 dX12_isHead_2 rfl ?_
  refine aw_aload_n C 0 dX12_isHead_3 rfl ?_
  refine rg_md_canals C lw_9_13 dX12_isHead_4 ?_
  refine aw_icmp_ge (tgt := 31) C dX12_isHead_7 (by decide) (fun q => ?_) (fun q => ?_)
  · have h := bq_t q h
    refine aw_iconst (v := 0) C dX12_isHead_31 (by decide) ?_
    cases h
    exact aw_ret hE dX12_isHead_32
  · have h := bq_f q h
    refine aw_aload_n C 0 dX12_isHead_10 rfl ?_
    refine rg_md_canal C lw_8_12 dX12_isHead_11 ?_
    refine aw_bipush (v := 6) C dX12_isHead_14 (by decide) ?_
    refine aw_iload_n C 2 dX12_isHead_16 rfl ?_
    refine aw_imul C dX12_isHead_17 ?_
    obtain ⟨q1, h⟩ := oA_e h
    refine ra_iald (k := 11) C (by decide) rfl q1 dX12_isHead_18 ?_
    refine aw_iload_n C 1 dX12_isHead_19 rfl ?_
    refine aw_icmp_ne (tgt := 25) C dX12_isHead_20 (by decide) (fun q => ?_) (fun q => ?_)
    · have h := bq_f q h
      obtain ⟨y2, ey2⟩ : ∃ q : Int32, q = x2 + (1 : Int32) := ⟨_, rfl⟩
      have h := oL_e ey2 h
      refine aw_iinc (v := y2) (k := 2) (lv' := [(0, .ref (N.1 0)), (1, .int x1), (2, .int y2)]) C [1, 2, 0] dX12_isHead_25 rfl (by rw [ey2]; rfl) (by decide) rfl ?_
      refine aw_goto (tgt := 2) C dX12_isHead_28 (by decide) ?_
      refine aw_sub (lv' := [(0, .ref (N.1 0)), (1, .int x1), (2, .int y2)]) [0, 1, 2] rfl ?_
      exact hk2 s0 x1 y2 h
    · have h := bq_t q h
      refine aw_iconst (v := 1) C dX12_isHead_23 (by decide) ?_
      cases h
      exact aw_ret hE dX12_isHead_24
def F_X12_isHead_2 : Nat → St → Int32 → Int32 → Option (Int32 × St)
  | 0 => fun _ _ _ => none
  | n + 1 => F_X12_isHead_2_b (F_X12_isHead_2 n)
theorem T_X12_isHead_2 {r : Int32} {z1 : St} (C : Cx p rm_X12_isHead s m args c D A cX12_isHead 3 RX12 rm_X12_isHead N) (hE : En p l e rm_X12_isHead s m args below meth c Q D A cX12_isHead .ireturn (wR N z1) [.int r])  : ∀ (n : Nat) (s0 : St) (x1 : Int32) (x2 : Int32), F_X12_isHead_2 n s0 x1 x2 = some (r, z1) → Aw p l e rm_X12_isHead s m args below meth c Q D A 3 (wR N s0) 2 [(0, .ref (N.1 0)), (1, .int x1), (2, .int x2)] [] := by
  intro n
  induction n with
  | zero => intro s0 x1 x2 h; cases h
  | succ n ih => intro s0 x1 x2 h; exact T_X12_isHead_2_b C hE ih s0 x1 x2 h
def F_X12_isHead_0 (s0 : St) (x1 : Int32) : Option (Int32 × St) :=
  oL (0 : Int32) fun y1 =>
  F_X12_isHead_2 100000 s0 x1 y1
set_option maxHeartbeats 4000000 in
set_option maxRecDepth 100000 in
theorem T_X12_isHead_0 {r : Int32} {z1 : St} (C : Cx p rm_X12_isHead s m args c D A cX12_isHead 3 RX12 rm_X12_isHead N) (hE : En p l e rm_X12_isHead s m args below meth c Q D A cX12_isHead .ireturn (wR N z1) [.int r])  (s0 : St) (x1 : Int32) (h : F_X12_isHead_0 s0 x1 = some (r, z1)) : Aw p l e rm_X12_isHead s m args below meth c Q D A 3 (wR N s0) 0 [(0, .ref (N.1 0)), (1, .int x1)] [] := by
  unfold F_X12_isHead_0 at h
  refine aw_iconst (v := 0) C dX12_isHead_0 (by decide) ?_
  refine aw_topi (fun y1 ey1 => ?_)
  have h := oL_e ey1 h
  refine aw_istore_n (lv' := [(0, .ref (N.1 0)), (1, .int x1), (2, .int y1)]) C [1, 2, 0] dX12_isHead_1 rfl (by decide) rfl ?_
  refine aw_sub (lv' := [(0, .ref (N.1 0)), (1, .int x1), (2, .int y1)]) [0, 1, 2] rfl ?_
  exact T_X12_isHead_2 C hE 100000 s0 x1 y1 h
def f_X12_isHead (s0 : St) (x1 : Int32) : Option (Int32 × St) := oC (F_X12_isHead_0 s0 x1) fun w => oZ w.1 (some w)
theorem c_X12_isHead (l : Launch) (D : va_G) (N : Nm) (s0 z1 : St) (x1 : Int32) (r : Int32) (h : f_X12_isHead s0 x1 = some (r, z1)) : Meti l yX12_isHead (tsU yX12_isHead cX12_isHead 3 (some .boolean)) rm_X12_isHead D N [.ref (N.1 0), .int x1] (wR N s0) r (wR N z1) := by
  obtain ⟨w, h1, h2⟩ := oC_e h
  obtain ⟨hz, h2⟩ := oZ_e h2
  cases h2
  exact met_z (cc := cX12_isHead) (nL := 3) (own := RX12) (by decide) rfl (Nat.le_of_ble_eq_true rfl) (zN hz) (fun p e s m args below meth c Q A C hE => aw_sub [0, 1] rfl (T_X12_isHead_0 C hE s0 x1 h1))
/-! AwardLineModel.isOfUnit(III)Z -/
def rm_X12_isOfUnit : Room := { frames := 0, cells := 0, slots := 0, locals := 0 }
def F_X12_isOfUnit_42 (s0 : St) (t0 : Int32) : Option (Int32 × St) :=
  some (t0, s0)
set_option maxHeartbeats 4000000 in
set_option maxRecDepth 100000 in
theorem T_X12_isOfUnit_42 {r : Int32} {z1 : St} (C : Cx p rm_X12_isOfUnit s m args c D A cX12_isOfUnit 4 RX12 rm_X12_isOfUnit N) (hE : En p l e rm_X12_isOfUnit s m args below meth c Q D A cX12_isOfUnit .ireturn (wR N z1) [.int r])  (s0 : St) (t0 : Int32) (h : F_X12_isOfUnit_42 s0 t0 = some (r, z1)) : Aw p l e rm_X12_isOfUnit s m args below meth c Q D A 4 (wR N s0) 42 [] [.int t0] := by
  unfold F_X12_isOfUnit_42 at h
  cases h
  exact aw_ret hE dX12_isOfUnit_42
def F_X12_isOfUnit_37 (s0 : St) : Option (Int32 × St) :=
  F_X12_isOfUnit_42 s0 (1 : Int32)
set_option maxHeartbeats 4000000 in
set_option maxRecDepth 100000 in
theorem T_X12_isOfUnit_37 {r : Int32} {z1 : St} (C : Cx p rm_X12_isOfUnit s m args c D A cX12_isOfUnit 4 RX12 rm_X12_isOfUnit N) (hE : En p l e rm_X12_isOfUnit s m args below meth c Q D A cX12_isOfUnit .ireturn (wR N z1) [.int r])  (s0 : St) (h : F_X12_isOfUnit_37 s0 = some (r, z1)) : Aw p l e rm_X12_isOfUnit s m args below meth c Q D A 4 (wR N s0) 37 [] [] := by
  unfold F_X12_isOfUnit_37 at h
  refine aw_iconst (v := 1) C dX12_isOfUnit_37 (by decide) ?_
  refine aw_goto (tgt := 42) C dX12_isOfUnit_38 (by decide) ?_
  refine aw_sub (lv' := []) [] rfl ?_
  exact T_X12_isOfUnit_42 C hE s0 (1 : Int32) h
def F_X12_isOfUnit_0 (s0 : St) (x1 : Int32) (x2 : Int32) (x3 : Int32) : Option (Int32 × St) :=
  if x1 = 0 then (
    if x2 = x3 then (
      F_X12_isOfUnit_42 s0 (1 : Int32))
    else (
      F_X12_isOfUnit_42 s0 (0 : Int32)))
  else (
    if x1 = (2 : Int32) then (
      F_X12_isOfUnit_37 s0)
    else (
      oA x2 25 <|
      oA x3 25 <|
      if (s0.2.1 7 (Int32.toNatClampNeg x2)) = (s0.2.1 7 (Int32.toNatClampNeg x3)) then (
        F_X12_isOfUnit_37 s0)
      else (
        F_X12_isOfUnit_42 s0 (0 : Int32))))
set_option maxHeartbeats 4000000 in
set_option maxRecDepth 100000 in
theorem T_X12_isOfUnit_0 {r : Int32} {z1 : St} (C : Cx p rm_X12_isOfUnit s m args c D A cX12_isOfUnit 4 RX12 rm_X12_isOfUnit N) (hE : En p l e rm_X12_isOfUnit s m args below meth c Q D A cX12_isOfUnit .ireturn (wR N z1) [.int r])  (s0 : St) (x1 : Int32) (x2 : Int32) (x3 : Int32) (h : F_X12_isOfUnit_0 s0 x1 x2 x3 = some (r, z1)) : Aw p l e rm_X12_isOfUnit s m args below meth c Q D A 4 (wR N s0) 0 [(0, .ref (N.1 0)), (1, .int x1), (2, .int x2), (3, .int x3)] [] := by
  unfold F_X12_isOfUnit_0 at h
  refine aw_iload_n C 1 dX12_isOfUnit_0 rfl ?_
  refine aw_if_ne (tgt := 17) C dX12_isOfUnit_1 (by decide) (fun q => ?_) (fun q => ?_)
  · have h := bq_f q h
    refine aw_iload_n C 1 dX12_isOfUnit_17 rfl ?_
    refine aw_iconst (v := 2) C dX12_isOfUnit_18 (by decide) ?_
    refine aw_icmp_eq (tgt := 37) C dX12_isOfUnit_19 (by decide) (fun q => ?_) (fun q => ?_)
    · have h := bq_t q h
      refine aw_sub (lv' := []) [] rfl ?_
      exact T_X12_isOfUnit_37 C hE s0 h
    · have h := bq_f q h
      refine aw_aload_n C 0 dX12_isOfUnit_22 rfl ?_
      refine rg_md_district C lw_8_8 dX12_isOfUnit_23 ?_
      refine aw_iload_n C 2 dX12_isOfUnit_26 rfl ?_
      obtain ⟨q1, h⟩ := oA_e h
      refine ra_iald (k := 7) C (by decide) rfl q1 dX12_isOfUnit_27 ?_
      refine aw_aload_n C 0 dX12_isOfUnit_28 rfl ?_
      refine rg_md_district C lw_8_8 dX12_isOfUnit_29 ?_
      refine aw_iload_n C 3 dX12_isOfUnit_32 rfl ?_
      obtain ⟨q2, h⟩ := oA_e h
      refine ra_iald (k := 7) C (by decide) rfl q2 dX12_isOfUnit_33 ?_
      refine aw_icmp_ne (tgt := 41) C dX12_isOfUnit_34 (by decide) (fun q => ?_) (fun q => ?_)
      · have h := bq_f q h
        refine aw_iconst (v := 0) C dX12_isOfUnit_41 (by decide) ?_
        refine aw_sub (lv' := []) [] rfl ?_
        exact T_X12_isOfUnit_42 C hE s0 (0 : Int32) h
      · have h := bq_t q h
        refine aw_sub (lv' := []) [] rfl ?_
        exact T_X12_isOfUnit_37 C hE s0 h
  · have h := bq_t q h
    refine aw_iload_n C 2 dX12_isOfUnit_4 rfl ?_
    refine aw_iload_n C 3 dX12_isOfUnit_5 rfl ?_
    refine aw_icmp_ne (tgt := 13) C dX12_isOfUnit_6 (by decide) (fun q => ?_) (fun q => ?_)
    · have h := bq_f q h
      refine aw_iconst (v := 0) C dX12_isOfUnit_13 (by decide) ?_
      refine aw_goto (tgt := 42) C dX12_isOfUnit_14 (by decide) ?_
      refine aw_sub (lv' := []) [] rfl ?_
      exact T_X12_isOfUnit_42 C hE s0 (0 : Int32) h
    · have h := bq_t q h
      refine aw_iconst (v := 1) C dX12_isOfUnit_9 (by decide) ?_
      refine aw_goto (tgt := 42) C dX12_isOfUnit_10 (by decide) ?_
      refine aw_sub (lv' := []) [] rfl ?_
      exact T_X12_isOfUnit_42 C hE s0 (1 : Int32) h
def f_X12_isOfUnit (s0 : St) (x1 : Int32) (x2 : Int32) (x3 : Int32) : Option (Int32 × St) := oC (F_X12_isOfUnit_0 s0 x1 x2 x3) fun w => oZ w.1 (some w)
theorem c_X12_isOfUnit (l : Launch) (D : va_G) (N : Nm) (s0 z1 : St) (x1 : Int32) (x2 : Int32) (x3 : Int32) (r : Int32) (h : f_X12_isOfUnit s0 x1 x2 x3 = some (r, z1)) : Meti l yX12_isOfUnit (tsU yX12_isOfUnit cX12_isOfUnit 4 (some .boolean)) rm_X12_isOfUnit D N [.ref (N.1 0), .int x1, .int x2, .int x3] (wR N s0) r (wR N z1) := by
  obtain ⟨w, h1, h2⟩ := oC_e h
  obtain ⟨hz, h2⟩ := oZ_e h2
  cases h2
  exact met_z (cc := cX12_isOfUnit) (nL := 4) (own := RX12) (by decide) rfl (Nat.le_of_ble_eq_true rfl) (zN hz) (fun p e s m args below meth c Q A C hE => aw_sub [0, 1, 2, 3] rfl (T_X12_isOfUnit_0 C hE s0 x1 x2 x3 h1))
/-! AwardLineModel.givenBy(I)I -/
def rm_X12_givenBy : Room := { frames := 3, cells := 0, slots := 0, locals := 69 }
def F_X12_givenBy_209 (k4 : St → Int32 → Int32 → Int32 → Option (Int32 × St)) (s0 : St) (x1 : Int32) (x2 : Int32) (x3 : Int32) : Option (Int32 × St) :=
  oL (x3 + (1 : Int32)) fun y1 =>
  k4 s0 x1 x2 y1
set_option maxHeartbeats 4000000 in
set_option maxRecDepth 100000 in
theorem T_X12_givenBy_209 {r : Int32} {z1 : St} {k4 : St → Int32 → Int32 → Int32 → Option (Int32 × St)} (C : Cx p rm_X12_givenBy s m args c D A cX12_givenBy 5 RX12 rm_X12_givenBy N) (hE : En p l e rm_X12_givenBy s m args below meth c Q D A cX12_givenBy .ireturn (wR N z1) [.int r]) (hk4 : ∀ (s0 : St) (x1 : Int32) (x2 : Int32) (x3 : Int32), k4 s0 x1 x2 x3 = some (r, z1) → Aw p l e rm_X12_givenBy s m args below meth c Q D A 5 (wR N s0) 4 [(0, .ref (N.1 0)), (1, .int x1), (2, .int x2), (3, .int x3)] []) (s0 : St) (x1 : Int32) (x2 : Int32) (x3 : Int32) (h : F_X12_givenBy_209 k4 s0 x1 x2 x3 = some (r, z1)) : Aw p l e rm_X12_givenBy s m args below meth c Q D A 5 (wR N s0) 209 [(0, .ref (N.1 0)), (1, .int x1), (2, .int x2), (3, .int x3)] [] := by
  unfold F_X12_givenBy_209 at h
  obtain ⟨y1, ey1⟩ : ∃ q : Int32, q = x3 + (1 : Int32) := ⟨_, rfl⟩
  have h := oL_e ey1 h
  refine aw_iinc (v := y1) (k := 3) (lv' := [(0, .ref (N.1 0)), (1, .int x1), (2, .int x2), (3, .int y1)]) C [1, 2, 3, 0] dX12_givenBy_209 rfl (by rw [ey1]; rfl) (by decide) rfl ?_
  refine aw_goto (tgt := 4) C dX12_givenBy_212 (by decide) ?_
  refine aw_sub (lv' := [(0, .ref (N.1 0)), (1, .int x1), (2, .int x2), (3, .int y1)]) [0, 1, 2, 3] rfl ?_
  exact hk4 s0 x1 x2 y1 h
def F_X12_givenBy_190 (k4 : St → Int32 → Int32 → Int32 → Option (Int32 × St)) (k39 : St → Int32 → Int32 → Int32 → Int32 → Option (Int32 × St)) (s0 : St) (x1 : Int32) (x2 : Int32) (x3 : Int32) (x4 : Int32) : Option (Int32 × St) :=
  oL (x4 + (1 : Int32)) fun y1 =>
  k39 s0 x1 x2 x3 y1
set_option maxHeartbeats 4000000 in
set_option maxRecDepth 100000 in
theorem T_X12_givenBy_190 {r : Int32} {z1 : St} {k4 : St → Int32 → Int32 → Int32 → Option (Int32 × St)} {k39 : St → Int32 → Int32 → Int32 → Int32 → Option (Int32 × St)} (C : Cx p rm_X12_givenBy s m args c D A cX12_givenBy 5 RX12 rm_X12_givenBy N) (hE : En p l e rm_X12_givenBy s m args below meth c Q D A cX12_givenBy .ireturn (wR N z1) [.int r]) (hk4 : ∀ (s0 : St) (x1 : Int32) (x2 : Int32) (x3 : Int32), k4 s0 x1 x2 x3 = some (r, z1) → Aw p l e rm_X12_givenBy s m args below meth c Q D A 5 (wR N s0) 4 [(0, .ref (N.1 0)), (1, .int x1), (2, .int x2), (3, .int x3)] []) (hk39 : ∀ (s0 : St) (x1 : Int32) (x2 : Int32) (x3 : Int32) (x4 : Int32), k39 s0 x1 x2 x3 x4 = some (r, z1) → Aw p l e rm_X12_givenBy s m args below meth c Q D A 5 (wR N s0) 39 [(0, .ref (N.1 0)), (1, .int x1), (2, .int x2), (3, .int x3), (4, .int x4)] []) (s0 : St) (x1 : Int32) (x2 : Int32) (x3 : Int32) (x4 : Int32) (h : F_X12_givenBy_190 k4 k39 s0 x1 x2 x3 x4 = some (r, z1)) : Aw p l e rm_X12_givenBy s m args below meth c Q D A 5 (wR N s0) 190 [(0, .ref (N.1 0)), (1, .int x1), (2, .int x2), (3, .int x3), (4, .int x4)] [] := by
  unfold F_X12_givenBy_190 at h
  obtain ⟨y1, ey1⟩ : ∃ q : Int32, q = x4 + (1 : Int32) := ⟨_, rfl⟩
  have h := oL_e ey1 h
  refine aw_iinc (v := y1) (k := 4) (lv' := [(0, .ref (N.1 0)), (1, .int x1), (2, .int x2), (3, .int x3), (4, .int y1)]) C [1, 2, 3, 4, 0] dX12_givenBy_190 rfl (by rw [ey1]; rfl) (by decide) rfl ?_
  refine aw_goto (tgt := 39) C dX12_givenBy_193 (by decide) ?_
  refine aw_sub (lv' := [(0, .ref (N.1 0)), (1, .int x1), (2, .int x2), (3, .int x3), (4, .int y1)]) [0, 1, 2, 3, 4] rfl ?_
  exact hk39 s0 x1 x2 x3 y1 h
def F_X12_givenBy_141 (k4 : St → Int32 → Int32 → Int32 → Option (Int32 × St)) (k39 : St → Int32 → Int32 → Int32 → Int32 → Option (Int32 × St)) (s0 : St) (x1 : Int32) (x2 : Int32) (x3 : Int32) (x4 : Int32) (t0 : Int64) (t1 : Int64) (t2 : Int32) : Option (Int32 × St) :=
  oA t2 6 <|
  oL (sJ s0 5 (vp_updL (s0.2.2 5) (Int32.toNatClampNeg t2) (t1 + t0))) fun s2 =>
  oA (3 : Int32) 6 <|
  oA x4 25 <|
  oC (f_X12_is s2 (s2.2.1 9 (Int32.toNatClampNeg x4))) fun w7 =>
  oL w7.1 fun v5 => oL w7.2 fun s6 =>
  oA (3 : Int32) 6 <|
  oL (sJ s6 5 (vp_updL (s6.2.2 5) (Int32.toNatClampNeg (3 : Int32)) ((s2.2.2 5 (Int32.toNatClampNeg (3 : Int32))) + v5))) fun s9 =>
  oA (4 : Int32) 6 <|
  oC (f_X12_isHead s9 x4) fun w13 =>
  oL w13.1 fun v11 => oL w13.2 fun s12 =>
  oC (f_X12_is s12 v11) fun w16 =>
  oL w16.1 fun v14 => oL w16.2 fun s15 =>
  oA (4 : Int32) 6 <|
  oL (sJ s15 5 (vp_updL (s15.2.2 5) (Int32.toNatClampNeg (4 : Int32)) ((s9.2.2 5 (Int32.toNatClampNeg (4 : Int32))) + v14))) fun s18 =>
  oA (5 : Int32) 6 <|
  oA (5 : Int32) 6 <|
  oL (sJ s18 5 (vp_updL (s18.2.2 5) (Int32.toNatClampNeg (5 : Int32)) ((s18.2.2 5 (Int32.toNatClampNeg (5 : Int32))) + (1 : Int64)))) fun s21 =>
  F_X12_givenBy_190 k4 k39 s21 x1 x2 x3 x4
set_option maxHeartbeats 4000000 in
set_option maxRecDepth 100000 in
theorem T_X12_givenBy_141 {r : Int32} {z1 : St} {k4 : St → Int32 → Int32 → Int32 → Option (Int32 × St)} {k39 : St → Int32 → Int32 → Int32 → Int32 → Option (Int32 × St)} (C : Cx p rm_X12_givenBy s m args c D A cX12_givenBy 5 RX12 rm_X12_givenBy N) (hE : En p l e rm_X12_givenBy s m args below meth c Q D A cX12_givenBy .ireturn (wR N z1) [.int r]) (hk4 : ∀ (s0 : St) (x1 : Int32) (x2 : Int32) (x3 : Int32), k4 s0 x1 x2 x3 = some (r, z1) → Aw p l e rm_X12_givenBy s m args below meth c Q D A 5 (wR N s0) 4 [(0, .ref (N.1 0)), (1, .int x1), (2, .int x2), (3, .int x3)] []) (hk39 : ∀ (s0 : St) (x1 : Int32) (x2 : Int32) (x3 : Int32) (x4 : Int32), k39 s0 x1 x2 x3 x4 = some (r, z1) → Aw p l e rm_X12_givenBy s m args below meth c Q D A 5 (wR N s0) 39 [(0, .ref (N.1 0)), (1, .int x1), (2, .int x2), (3, .int x3), (4, .int x4)] []) (s0 : St) (x1 : Int32) (x2 : Int32) (x3 : Int32) (x4 : Int32) (t0 : Int64) (t1 : Int64) (t2 : Int32) (h : F_X12_givenBy_141 k4 k39 s0 x1 x2 x3 x4 t0 t1 t2 = some (r, z1)) : Aw p l e rm_X12_givenBy s m args below meth c Q D A 5 (wR N s0) 141 [(0, .ref (N.1 0)), (1, .int x1), (2, .int x2), (3, .int x3), (4, .int x4)] [.long t0, .long t1, .int t2, .ref (N.2.1 5)] := by
  unfold F_X12_givenBy_141 at h
  refine aw_ladd C dX12_givenBy_141 ?_
  obtain ⟨q1, h⟩ := oA_e h
  refine ra_last (k := 5) C (by decide) rfl q1 dX12_givenBy_142 ?_
  refine ra_name (fun s2 es2 => ?_)
  have h := oL_e es2 h
  refine aw_aload_n C 0 dX12_givenBy_143 rfl ?_
  refine rg_md_names C lw_8_6 dX12_givenBy_144 ?_
  refine aw_iconst (v := 3) C dX12_givenBy_147 (by decide) ?_
  refine aw_dup2 C dX12_givenBy_148 rfl rfl ?_
  obtain ⟨q3, h⟩ := oA_e h
  refine ra_lald (k := 5) C (by decide) rfl q3 dX12_givenBy_149 ?_
  refine aw_aload_n C 0 dX12_givenBy_150 rfl ?_
  refine rg_md_rail C lw_8_10 dX12_givenBy_151 ?_
  refine aw_iload C 4 dX12_givenBy_154 rfl ?_
  obtain ⟨q4, h⟩ := oA_e h
  refine ra_zald (k := 9) C (by decide) rfl q4 dX12_givenBy_156 ?_
  obtain ⟨⟨v5, s6⟩, cw7, h⟩ := oC_e h
  have h := oL_e (x := s6) rfl (oL_e (x := v5) rfl h)
  refine aw_callSl (n := 1) (As := [.int (s2.2.1 9 (Int32.toNatClampNeg x4))]) (rest := [.long (s2.2.2 5 (Int32.toNatClampNeg (3 : Int32))), .int (3 : Int32), .ref (N.2.1 5)]) C (c_X12_is l D N s2 s6 (s2.2.1 9 (Int32.toNatClampNeg x4)) v5 cw7) lw_34_6 lw_34_7 lw_1_5 lw_34_8 rfl rfl (by decide +kernel) ⟨Nat.le_of_ble_eq_true rfl, Nat.le_of_ble_eq_true rfl⟩ rfl rfl (Nat.le_of_ble_eq_true rfl) dX12_givenBy_157 ?_
  refine aw_ladd C dX12_givenBy_160 ?_
  obtain ⟨q8, h⟩ := oA_e h
  refine ra_last (k := 5) C (by decide) rfl q8 dX12_givenBy_161 ?_
  refine ra_name (fun s9 es9 => ?_)
  have h := oL_e es9 h
  refine aw_aload_n C 0 dX12_givenBy_162 rfl ?_
  refine rg_md_names C lw_8_6 dX12_givenBy_163 ?_
  refine aw_iconst (v := 4) C dX12_givenBy_166 (by decide) ?_
  refine aw_dup2 C dX12_givenBy_167 rfl rfl ?_
  obtain ⟨q10, h⟩ := oA_e h
  refine ra_lald (k := 5) C (by decide) rfl q10 dX12_givenBy_168 ?_
  refine aw_aload_n C 0 dX12_givenBy_169 rfl ?_
  refine aw_iload C 4 dX12_givenBy_170 rfl ?_
  obtain ⟨⟨v11, s12⟩, cw13, h⟩ := oC_e h
  have h := oL_e (x := s12) rfl (oL_e (x := v11) rfl h)
  refine aw_callVi (n := 1) (As := [.int x4]) (rest := [.long (s9.2.2 5 (Int32.toNatClampNeg (4 : Int32))), .int (4 : Int32), .ref (N.2.1 5)]) (q0 := 0) C (c_X12_isHead l D N s9 s12 x4 v11 cw13) lw_34_9 lw_34_10 lw_34_11 lw_1_5 lw_34_12 rfl rfl (by decide +kernel) ⟨Nat.le_of_ble_eq_true rfl, Nat.le_of_ble_eq_true rfl⟩ rfl rfl rfl rfl rfl (Nat.le_of_ble_eq_true rfl) dX12_givenBy_172 ?_
  obtain ⟨⟨v14, s15⟩, cw16, h⟩ := oC_e h
  have h := oL_e (x := s15) rfl (oL_e (x := v14) rfl h)
  refine aw_callSl (n := 1) (As := [.int v11]) (rest := [.long (s9.2.2 5 (Int32.toNatClampNeg (4 : Int32))), .int (4 : Int32), .ref (N.2.1 5)]) C (c_X12_is l D N s12 s15 v11 v14 cw16) lw_34_6 lw_34_7 lw_1_5 lw_34_8 rfl rfl (by decide +kernel) ⟨Nat.le_of_ble_eq_true rfl, Nat.le_of_ble_eq_true rfl⟩ rfl rfl (Nat.le_of_ble_eq_true rfl) dX12_givenBy_175 ?_
  refine aw_ladd C dX12_givenBy_178 ?_
  obtain ⟨q17, h⟩ := oA_e h
  refine ra_last (k := 5) C (by decide) rfl q17 dX12_givenBy_179 ?_
  refine ra_name (fun s18 es18 => ?_)
  have h := oL_e es18 h
  refine aw_aload_n C 0 dX12_givenBy_180 rfl ?_
  refine rg_md_names C lw_8_6 dX12_givenBy_181 ?_
  refine aw_iconst (v := 5) C dX12_givenBy_184 (by decide) ?_
  refine aw_dup2 C dX12_givenBy_185 rfl rfl ?_
  obtain ⟨q19, h⟩ := oA_e h
  refine ra_lald (k := 5) C (by decide) rfl q19 dX12_givenBy_186 ?_
  refine aw_lconst (v := 1) C dX12_givenBy_187 (by decide) ?_
  refine aw_ladd C dX12_givenBy_188 ?_
  obtain ⟨q20, h⟩ := oA_e h
  refine ra_last (k := 5) C (by decide) rfl q20 dX12_givenBy_189 ?_
  refine ra_name (fun s21 es21 => ?_)
  have h := oL_e es21 h
  refine aw_sub (lv' := [(0, .ref (N.1 0)), (1, .int x1), (2, .int x2), (3, .int x3), (4, .int x4)]) [0, 1, 2, 3, 4] rfl ?_
  exact T_X12_givenBy_190 C hE hk4 hk39 s21 x1 x2 x3 x4 h
def F_X12_givenBy_39_b (k4 : St → Int32 → Int32 → Int32 → Option (Int32 × St)) (k39 : St → Int32 → Int32 → Int32 → Int32 → Option (Int32 × St)) (s0 : St) (x1 : Int32) (x2 : Int32) (x3 : Int32) (x4 : Int32) : Option (Int32 × St) :=
  oC (f_X12_cells s0) fun w3 =>
  oL w3.1 fun v1 => oL w3.2 fun s2 =>
  if v1 ≤ x4 then (
    oC (f_X12_isFirst s2) fun w6 =>
    oL w6.1 fun v4 => oL w6.2 fun s5 =>
    if v4 = 0 then (
      F_X12_givenBy_209 k4 s5 x1 x2 x3)
    else (
      oL (x2 ||| ((1 : Int32) <<< (x3 &&& 31))) fun y7 =>
      F_X12_givenBy_209 k4 s5 x1 y7 x3))
  else (
    oC (f_X12_isOfUnit s2 x1 x4 x3) fun w10 =>
    oL w10.1 fun v8 => oL w10.2 fun s9 =>
    if v8 = 0 then (
      F_X12_givenBy_190 k4 k39 s9 x1 x2 x3 x4)
    else (
      oA (0 : Int32) 6 <|
      oA ((2 : Int32) * x4) 50 <|
      oA (0 : Int32) 6 <|
      oL (sJ s9 5 (vp_updL (s9.2.2 5) (Int32.toNatClampNeg (0 : Int32)) ((s9.2.2 5 (Int32.toNatClampNeg (0 : Int32))) + (Int32.toInt64 (s9.2.1 24 (Int32.toNatClampNeg ((2 : Int32) * x4))))))) fun s14 =>
      oA (1 : Int32) 6 <|
      oA (((2 : Int32) * x4) + (1 : Int32)) 50 <|
      oA (1 : Int32) 6 <|
      oL (sJ s14 5 (vp_updL (s14.2.2 5) (Int32.toNatClampNeg (1 : Int32)) ((s14.2.2 5 (Int32.toNatClampNeg (1 : Int32))) + (Int32.toInt64 (s14.2.1 24 (Int32.toNatClampNeg (((2 : Int32) * x4) + (1 : Int32)))))))) fun s18 =>
      oA (2 : Int32) 6 <|
      oA x4 25 <|
      if (s18.2.1 8 (Int32.toNatClampNeg x4)) = 0 then (
        F_X12_givenBy_141 k4 k39 s18 x1 x2 x3 x4 (1 : Int64) (s18.2.2 5 (Int32.toNatClampNeg (2 : Int32))) (2 : Int32))
      else (
        oA x4 25 <|
        if (s18.2.1 8 (Int32.toNatClampNeg x4)) = (1 : Int32) then (
          F_X12_givenBy_141 k4 k39 s18 x1 x2 x3 x4 (-1 : Int64) (s18.2.2 5 (Int32.toNatClampNeg (2 : Int32))) (2 : Int32))
        else (
          F_X12_givenBy_141 k4 k39 s18 x1 x2 x3 x4 (0 : Int64) (s18.2.2 5 (Int32.toNatClampNeg (2 : Int32))) (2 : Int32)))))
set_option maxHeartbeats 4000000 in
set_option maxRecDepth 100000 in
theorem T_X12_givenBy_39_b {r : Int32} {z1 : St} {k4 : St → Int32 → Int32 → Int32 → Option (Int32 × St)} {k39 : St → Int32 → Int32 → Int32 → Int32 → Option (Int32 × St)} (C : Cx p rm_X12_givenBy s m args c D A cX12_givenBy 5 RX12 rm_X12_givenBy N) (hE : En p l e rm_X12_givenBy s m args below meth c Q D A cX12_givenBy .ireturn (wR N z1) [.int r]) (hk4 : ∀ (s0 : St) (x1 : Int32) (x2 : Int32) (x3 : Int32), k4 s0 x1 x2 x3 = some (r, z1) → Aw p l e rm_X12_givenBy s m args below meth c Q D A 5 (wR N s0) 4 [(0, .ref (N.1 0)), (1, .int x1), (2, .int x2), (3, .int x3)] []) (hk39 : ∀ (s0 : St) (x1 : Int32) (x2 : Int32) (x3 : Int32) (x4 : Int32), k39 s0 x1 x2 x3 x4 = some (r, z1) → Aw p l e rm_X12_givenBy s m args below meth c Q D A 5 (wR N s0) 39 [(0, .ref (N.1 0)), (1, .int x1), (2, .int x2), (3, .int x3), (4, .int x4)] []) (s0 : St) (x1 : Int32) (x2 : Int32) (x3 : Int32) (x4 : Int32) (h : F_X12_givenBy_39_b k4 k39 s0 x1 x2 x3 x4 = some (r, z1)) : Aw p l e rm_X12_givenBy s m args below meth c Q D A 5 (wR N s0) 39 [(0, .ref (N.1 0)), (1, .int x1), (2, .int x2), (3, .int x3), (4, .int x4)] [] := by
  unfold F_X12_givenBy_39_b at h
  refine aw_iload C 4 dX12_givenBy_39 rfl ?_
  refine aw_aload_n C 0 dX12_givenBy_41 rfl ?_
  obtain ⟨⟨v1, s2⟩, cw3, h⟩ := oC_e h
  have h := oL_e (x := s2) rfl (oL_e (x := v1) rfl h)
  refine aw_callVi (n := 0) (As := []) (rest := [.int x4]) (q0 := 0) C (c_X12_cells l D N s0 s2 v1 cw3) lw_23_23 lw_24_0 lw_24_1 lw_1_5 lw_24_2 rfl rfl (by decide +kernel) ⟨Nat.le_of_ble_eq_true rfl, Nat.le_of_ble_eq_true rfl⟩ rfl rfl rfl rfl rfl (Nat.le_of_ble_eq_true rfl) dX12_givenBy_42 ?_
  refine aw_icmp_ge (tgt := 196) C dX12_givenBy_45 (by decide) (fun q => ?_) (fun q => ?_)
  · have h := bq_t q h
    refine aw_aload_n C 0 dX12_givenBy_196 rfl ?_
    obtain ⟨⟨v4, s5⟩, cw6, h⟩ := oC_e h
    have h := oL_e (x := s5) rfl (oL_e (x := v4) rfl h)
    refine aw_callVi (n := 0) (As := []) (rest := []) (q0 := 0) C (c_X12_isFirst l D N s2 s5 v4 cw6) lw_34_13 lw_34_14 lw_34_15 lw_1_5 lw_34_16 rfl rfl (by decide +kernel) ⟨Nat.le_of_ble_eq_true rfl, Nat.le_of_ble_eq_true rfl⟩ rfl rfl rfl rfl rfl (Nat.le_of_ble_eq_true rfl) dX12_givenBy_197 ?_
    refine aw_if_eq (tgt := 209) C dX12_givenBy_200 (by decide) (fun q => ?_) (fun q => ?_)
    · have h := bq_t q h
      refine aw_sub (lv' := [(0, .ref (N.1 0)), (1, .int x1), (2, .int x2), (3, .int x3)]) [0, 1, 2, 3] rfl ?_
      exact T_X12_givenBy_209 C hE hk4 s5 x1 x2 x3 h
    · have h := bq_f q h
      refine aw_iload_n C 2 dX12_givenBy_203 rfl ?_
      refine aw_iconst (v := 1) C dX12_givenBy_204 (by decide) ?_
      refine aw_iload_n C 3 dX12_givenBy_205 rfl ?_
      refine aw_ishl C dX12_givenBy_206 ?_
      refine aw_ior C dX12_givenBy_207 ?_
      refine aw_topi (fun y7 ey7 => ?_)
      have h := oL_e ey7 h
      refine aw_istore_n (lv' := [(0, .ref (N.1 0)), (1, .int x1), (2, .int y7), (3, .int x3), (4, .int x4)]) C [1, 2, 0, 3, 4] dX12_givenBy_208 rfl (by decide) rfl ?_
      refine aw_sub (lv' := [(0, .ref (N.1 0)), (1, .int x1), (2, .int y7), (3, .int x3)]) [0, 1, 2, 3] rfl ?_
      exact T_X12_givenBy_209 C hE hk4 s5 x1 y7 x3 h
  · have h := bq_f q h
    refine aw_aload_n C 0 dX12_givenBy_48 rfl ?_
    refine aw_iload_n C 1 dX12_givenBy_49 rfl ?_
    refine aw_iload C 4 dX12_givenBy_50 rfl ?_
    refine aw_iload_n C 3 dX12_givenBy_52 rfl ?_
    obtain ⟨⟨v8, s9⟩, cw10, h⟩ := oC_e h
    have h := oL_e (x := s9) rfl (oL_e (x := v8) rfl h)
    refine aw_callVi (n := 3) (As := [.int x1, .int x4, .int x3]) (rest := []) (q0 := 0) C (c_X12_isOfUnit l D N s2 s9 x1 x4 x3 v8 cw10) lw_34_2 lw_34_3 lw_34_4 lw_1_5 lw_34_5 rfl rfl (by decide +kernel) ⟨Nat.le_of_ble_eq_true rfl, Nat.le_of_ble_eq_true rfl⟩ rfl rfl rfl rfl rfl (Nat.le_of_ble_eq_true rfl) dX12_givenBy_53 ?_
    refine aw_if_ne (tgt := 62) C dX12_givenBy_56 (by decide) (fun q => ?_) (fun q => ?_)
    · have h := bq_f q h
      refine aw_aload_n C 0 dX12_givenBy_62 rfl ?_
      refine rg_md_names C lw_8_6 dX12_givenBy_63 ?_
      refine aw_iconst (v := 0) C dX12_givenBy_66 (by decide) ?_
      refine aw_dup2 C dX12_givenBy_67 rfl rfl ?_
      obtain ⟨q11, h⟩ := oA_e h
      refine ra_lald (k := 5) C (by decide) rfl q11 dX12_givenBy_68 ?_
      refine aw_aload_n C 0 dX12_givenBy_69 rfl ?_
      refine rg_md_people C lw_9_1 dX12_givenBy_70 ?_
      refine aw_iconst (v := 2) C dX12_givenBy_73 (by decide) ?_
      refine aw_iload C 4 dX12_givenBy_74 rfl ?_
      refine aw_imul C dX12_givenBy_76 ?_
      obtain ⟨q12, h⟩ := oA_e h
      refine ra_iald (k := 24) C (by decide) rfl q12 dX12_givenBy_77 ?_
      refine aw_i2l C dX12_givenBy_78 ?_
      refine aw_ladd C dX12_givenBy_79 ?_
      obtain ⟨q13, h⟩ := oA_e h
      refine ra_last (k := 5) C (by decide) rfl q13 dX12_givenBy_80 ?_
      refine ra_name (fun s14 es14 => ?_)
      have h := oL_e es14 h
      refine aw_aload_n C 0 dX12_givenBy_81 rfl ?_
      refine rg_md_names C lw_8_6 dX12_givenBy_82 ?_
      refine aw_iconst (v := 1) C dX12_givenBy_85 (by decide) ?_
      refine aw_dup2 C dX12_givenBy_86 rfl rfl ?_
      obtain ⟨q15, h⟩ := oA_e h
      refine ra_lald (k := 5) C (by decide) rfl q15 dX12_givenBy_87 ?_
      refine aw_aload_n C 0 dX12_givenBy_88 rfl ?_
      refine rg_md_people C lw_9_1 dX12_givenBy_89 ?_
      refine aw_iconst (v := 2) C dX12_givenBy_92 (by decide) ?_
      refine aw_iload C 4 dX12_givenBy_93 rfl ?_
      refine aw_imul C dX12_givenBy_95 ?_
      refine aw_iconst (v := 1) C dX12_givenBy_96 (by decide) ?_
      refine aw_iadd C dX12_givenBy_97 ?_
      obtain ⟨q16, h⟩ := oA_e h
      refine ra_iald (k := 24) C (by decide) rfl q16 dX12_givenBy_98 ?_
      refine aw_i2l C dX12_givenBy_99 ?_
      refine aw_ladd C dX12_givenBy_100 ?_
      obtain ⟨q17, h⟩ := oA_e h
      refine ra_last (k := 5) C (by decide) rfl q17 dX12_givenBy_101 ?_
      refine ra_name (fun s18 es18 => ?_)
      have h := oL_e es18 h
      refine aw_aload_n C 0 dX12_givenBy_102 rfl ?_
      refine rg_md_names C lw_8_6 dX12_givenBy_103 ?_
      refine aw_iconst (v := 2) C dX12_givenBy_106 (by decide) ?_
      refine aw_dup2 C dX12_givenBy_107 rfl rfl ?_
      obtain ⟨q19, h⟩ := oA_e h
      refine ra_lald (k := 5) C (by decide) rfl q19 dX12_givenBy_108 ?_
      refine aw_aload_n C 0 dX12_givenBy_109 rfl ?_
      refine rg_md_shrine C lw_8_9 dX12_givenBy_110 ?_
      refine aw_iload C 4 dX12_givenBy_113 rfl ?_
      obtain ⟨q20, h⟩ := oA_e h
      refine ra_iald (k := 8) C (by decide) rfl q20 dX12_givenBy_115 ?_
      refine aw_if_ne (tgt := 123) C dX12_givenBy_116 (by decide) (fun q => ?_) (fun q => ?_)
      · have h := bq_f q h
        refine aw_aload_n C 0 dX12_givenBy_123 rfl ?_
        refine rg_md_shrine C lw_8_9 dX12_givenBy_124 ?_
        refine aw_iload C 4 dX12_givenBy_127 rfl ?_
        obtain ⟨q21, h⟩ := oA_e h
        refine ra_iald (k := 8) C (by decide) rfl q21 dX12_givenBy_129 ?_
        refine aw_iconst (v := 1) C dX12_givenBy_130 (by decide) ?_
        refine aw_icmp_ne (tgt := 140) C dX12_givenBy_131 (by decide) (fun q => ?_) (fun q => ?_)
        · have h := bq_f q h
          refine aw_lconst (v := 0) C dX12_givenBy_140 (by decide) ?_
          refine aw_sub (lv' := [(0, .ref (N.1 0)), (1, .int x1), (2, .int x2), (3, .int x3), (4, .int x4)]) [0, 1, 2, 3, 4] rfl ?_
          exact T_X12_givenBy_141 C hE hk4 hk39 s18 x1 x2 x3 x4 (0 : Int64) (s18.2.2 5 (Int32.toNatClampNeg (2 : Int32))) (2 : Int32) h
        · have h := bq_t q h
          refine aw_ldc2 (v := -1) C lw_34_1 dX12_givenBy_134 ?_
          refine aw_goto (tgt := 141) C dX12_givenBy_137 (by decide) ?_
          refine aw_sub (lv' := [(0, .ref (N.1 0)), (1, .int x1), (2, .int x2), (3, .int x3), (4, .int x4)]) [0, 1, 2, 3, 4] rfl ?_
          exact T_X12_givenBy_141 C hE hk4 hk39 s18 x1 x2 x3 x4 (-1 : Int64) (s18.2.2 5 (Int32.toNatClampNeg (2 : Int32))) (2 : Int32) h
      · have h := bq_t q h
        refine aw_lconst (v := 1) C dX12_givenBy_119 (by decide) ?_
        refine aw_goto (tgt := 141) C dX12_givenBy_120 (by decide) ?_
        refine aw_sub (lv' := [(0, .ref (N.1 0)), (1, .int x1), (2, .int x2), (3, .int x3), (4, .int x4)]) [0, 1, 2, 3, 4] rfl ?_
        exact T_X12_givenBy_141 C hE hk4 hk39 s18 x1 x2 x3 x4 (1 : Int64) (s18.2.2 5 (Int32.toNatClampNeg (2 : Int32))) (2 : Int32) h
    · have h := bq_t q h
      refine aw_goto (tgt := 190) C dX12_givenBy_59 (by decide) ?_
      refine aw_sub (lv' := [(0, .ref (N.1 0)), (1, .int x1), (2, .int x2), (3, .int x3), (4, .int x4)]) [0, 1, 2, 3, 4] rfl ?_
      exact T_X12_givenBy_190 C hE hk4 hk39 s9 x1 x2 x3 x4 h
def F_X12_givenBy_39 (k4 : St → Int32 → Int32 → Int32 → Option (Int32 × St)) : Nat → St → Int32 → Int32 → Int32 → Int32 → Option (Int32 × St)
  | 0 => fun _ _ _ _ _ => none
  | n + 1 => F_X12_givenBy_39_b k4 (F_X12_givenBy_39 k4 n)
theorem T_X12_givenBy_39 {r : Int32} {z1 : St} {k4 : St → Int32 → Int32 → Int32 → Option (Int32 × St)} (C : Cx p rm_X12_givenBy s m args c D A cX12_givenBy 5 RX12 rm_X12_givenBy N) (hE : En p l e rm_X12_givenBy s m args below meth c Q D A cX12_givenBy .ireturn (wR N z1) [.int r]) (hk4 : ∀ (s0 : St) (x1 : Int32) (x2 : Int32) (x3 : Int32), k4 s0 x1 x2 x3 = some (r, z1) → Aw p l e rm_X12_givenBy s m args below meth c Q D A 5 (wR N s0) 4 [(0, .ref (N.1 0)), (1, .int x1), (2, .int x2), (3, .int x3)] []) : ∀ (n : Nat) (s0 : St) (x1 : Int32) (x2 : Int32) (x3 : Int32) (x4 : Int32), F_X12_givenBy_39 k4 n s0 x1 x2 x3 x4 = some (r, z1) → Aw p l e rm_X12_givenBy s m args below meth c Q D A 5 (wR N s0) 39 [(0, .ref (N.1 0)), (1, .int x1), (2, .int x2), (3, .int x3), (4, .int x4)] [] := by
  intro n
  induction n with
  | zero => intro s0 x1 x2 x3 x4 h; cases h
  | succ n ih => intro s0 x1 x2 x3 x4 h; exact T_X12_givenBy_39_b C hE hk4 ih s0 x1 x2 x3 x4 h
def F_X12_givenBy_15_b (k4 : St → Int32 → Int32 → Int32 → Option (Int32 × St)) (k15 : St → Int32 → Int32 → Int32 → Int32 → Option (Int32 × St)) (s0 : St) (x1 : Int32) (x2 : Int32) (x3 : Int32) (x4 : Int32) : Option (Int32 × St) :=
  if (6 : Int32) ≤ x4 then (
    oL (0 : Int32) fun y1 =>
    F_X12_givenBy_39 k4 100000 s0 x1 x2 x3 y1)
  else (
    oA x4 6 <|
    oL (sJ s0 5 (vp_updL (s0.2.2 5) (Int32.toNatClampNeg x4) (0 : Int64))) fun s3 =>
    oL (x4 + (1 : Int32)) fun y4 =>
    k15 s3 x1 x2 x3 y4)
set_option maxHeartbeats 4000000 in
set_option maxRecDepth 100000 in
theorem T_X12_givenBy_15_b {r : Int32} {z1 : St} {k4 : St → Int32 → Int32 → Int32 → Option (Int32 × St)} {k15 : St → Int32 → Int32 → Int32 → Int32 → Option (Int32 × St)} (C : Cx p rm_X12_givenBy s m args c D A cX12_givenBy 5 RX12 rm_X12_givenBy N) (hE : En p l e rm_X12_givenBy s m args below meth c Q D A cX12_givenBy .ireturn (wR N z1) [.int r]) (hk4 : ∀ (s0 : St) (x1 : Int32) (x2 : Int32) (x3 : Int32), k4 s0 x1 x2 x3 = some (r, z1) → Aw p l e rm_X12_givenBy s m args below meth c Q D A 5 (wR N s0) 4 [(0, .ref (N.1 0)), (1, .int x1), (2, .int x2), (3, .int x3)] []) (hk15 : ∀ (s0 : St) (x1 : Int32) (x2 : Int32) (x3 : Int32) (x4 : Int32), k15 s0 x1 x2 x3 x4 = some (r, z1) → Aw p l e rm_X12_givenBy s m args below meth c Q D A 5 (wR N s0) 15 [(0, .ref (N.1 0)), (1, .int x1), (2, .int x2), (3, .int x3), (4, .int x4)] []) (s0 : St) (x1 : Int32) (x2 : Int32) (x3 : Int32) (x4 : Int32) (h : F_X12_givenBy_15_b k4 k15 s0 x1 x2 x3 x4 = some (r, z1)) : Aw p l e rm_X12_givenBy s m args below meth c Q D A 5 (wR N s0) 15 [(0, .ref (N.1 0)), (1, .int x1), (2, .int x2), (3, .int x3), (4, .int x4)] [] := by
  unfold F_X12_givenBy_15_b at h
  refine aw_iload C 4 dX12_givenBy_15 rfl ?_
  refine aw_bipush (v := 6) C dX12_givenBy_17 (by decide) ?_
  refine aw_icmp_ge (tgt := 36) C dX12_givenBy_19 (by decide) (fun q => ?_) (fun q => ?_)
  · have h := bq_t q h
    refine aw_iconst (v := 0) C dX12_givenBy_36 (by decide) ?_
    refine aw_topi (fun y1 ey1 => ?_)
    have h := oL_e ey1 h
    refine aw_istore (lv' := [(0, .ref (N.1 0)), (1, .int x1), (2, .int x2), (3, .int x3), (4, .int y1)]) C [1, 2, 3, 4, 0] dX12_givenBy_37 (by decide) rfl ?_
    refine aw_sub (lv' := [(0, .ref (N.1 0)), (1, .int x1), (2, .int x2), (3, .int x3), (4, .int y1)]) [0, 1, 2, 3, 4] rfl ?_
    exact T_X12_givenBy_39 C hE hk4 100000 s0 x1 x2 x3 y1 h
  · have h := bq_f q h
    refine aw_aload_n C 0 dX12_givenBy_22 rfl ?_
    refine rg_md_names C lw_8_6 dX12_givenBy_23 ?_
    refine aw_iload C 4 dX12_givenBy_26 rfl ?_
    refine aw_lconst (v := 0) C dX12_givenBy_28 (by decide) ?_
    obtain ⟨q2, h⟩ := oA_e h
    refine ra_last (k := 5) C (by decide) rfl q2 dX12_givenBy_29 ?_
    refine ra_name (fun s3 es3 => ?_)
    have h := oL_e es3 h
    obtain ⟨y4, ey4⟩ : ∃ q : Int32, q = x4 + (1 : Int32) := ⟨_, rfl⟩
    have h := oL_e ey4 h
    refine aw_iinc (v := y4) (k := 4) (lv' := [(0, .ref (N.1 0)), (1, .int x1), (2, .int x2), (3, .int x3), (4, .int y4)]) C [1, 2, 3, 4, 0] dX12_givenBy_30 rfl (by rw [ey4]; rfl) (by decide) rfl ?_
    refine aw_goto (tgt := 15) C dX12_givenBy_33 (by decide) ?_
    refine aw_sub (lv' := [(0, .ref (N.1 0)), (1, .int x1), (2, .int x2), (3, .int x3), (4, .int y4)]) [0, 1, 2, 3, 4] rfl ?_
    exact hk15 s3 x1 x2 x3 y4 h
def F_X12_givenBy_15 (k4 : St → Int32 → Int32 → Int32 → Option (Int32 × St)) : Nat → St → Int32 → Int32 → Int32 → Int32 → Option (Int32 × St)
  | 0 => fun _ _ _ _ _ => none
  | n + 1 => F_X12_givenBy_15_b k4 (F_X12_givenBy_15 k4 n)
theorem T_X12_givenBy_15 {r : Int32} {z1 : St} {k4 : St → Int32 → Int32 → Int32 → Option (Int32 × St)} (C : Cx p rm_X12_givenBy s m args c D A cX12_givenBy 5 RX12 rm_X12_givenBy N) (hE : En p l e rm_X12_givenBy s m args below meth c Q D A cX12_givenBy .ireturn (wR N z1) [.int r]) (hk4 : ∀ (s0 : St) (x1 : Int32) (x2 : Int32) (x3 : Int32), k4 s0 x1 x2 x3 = some (r, z1) → Aw p l e rm_X12_givenBy s m args below meth c Q D A 5 (wR N s0) 4 [(0, .ref (N.1 0)), (1, .int x1), (2, .int x2), (3, .int x3)] []) : ∀ (n : Nat) (s0 : St) (x1 : Int32) (x2 : Int32) (x3 : Int32) (x4 : Int32), F_X12_givenBy_15 k4 n s0 x1 x2 x3 x4 = some (r, z1) → Aw p l e rm_X12_givenBy s m args below meth c Q D A 5 (wR N s0) 15 [(0, .ref (N.1 0)), (1, .int x1), (2, .int x2), (3, .int x3), (4, .int x4)] [] := by
  intro n
  induction n with
  | zero => intro s0 x1 x2 x3 x4 h; cases h
  | succ n ih => intro s0 x1 x2 x3 x4 h; exact T_X12_givenBy_15_b C hE hk4 ih s0 x1 x2 x3 x4 h
def F_X12_givenBy_4_b (k4 : St → Int32 → Int32 → Int32 → Option (Int32 × St)) (s0 : St) (x1 : Int32) (x2 : Int32) (x3 : Int32) : Option (Int32 × St) :=
  oC (f_X12_cells s0) fun w3 =>
  oL w3.1 fun v1 => oL w3.2 fun s2 =>
  if v1 ≤ x3 then (
    some (x2, s2))
  else (
    oL (0 : Int32) fun y4 =>
    F_X12_givenBy_15 k4 100000 s2 x1 x2 x3 y4)
set_option maxHeartbeats 4000000 in
set_option maxRecDepth 100000 in
theorem T_X12_givenBy_4_b {r : Int32} {z1 : St} {k4 : St → Int32 → Int32 → Int32 → Option (Int32 × St)} (C : Cx p rm_X12_givenBy s m args c D A cX12_givenBy 5 RX12 rm_X12_givenBy N) (hE : En p l e rm_X12_givenBy s m args below meth c Q D A cX12_givenBy .ireturn (wR N z1) [.int r]) (hk4 : ∀ (s0 : St) (x1 : Int32) (x2 : Int32) (x3 : Int32), k4 s0 x1 x2 x3 = some (r, z1) → Aw p l e rm_X12_givenBy s m args below meth c Q D A 5 (wR N s0) 4 [(0, .ref (N.1 0)), (1, .int x1), (2, .int x2), (3, .int x3)] []) (s0 : St) (x1 : Int32) (x2 : Int32) (x3 : Int32) (h : F_X12_givenBy_4_b k4 s0 x1 x2 x3 = some (r, z1)) : Aw p l e rm_X12_givenBy s m args below meth c Q D A 5 (wR N s0) 4 [(0, .ref (N.1 0)), (1, .int x1), (2, .int x2), (3, .int x3)] [] := by
  unfold F_X12_givenBy_4_b at h
  refine aw_iload_n C 3 dX12_givenBy_4 rfl ?_
  refine aw_aload_n C 0 dX12_givenBy_5 rfl ?_
  obtain ⟨⟨v1, s2⟩, cw3, h⟩ := oC_e h
  have h := oL_e (x := s2) rfl (oL_e (x := v1) rfl h)
  refine aw_callVi (n := 0) (As := []) (rest := [.int x3]) (q0 := 0) C (c_X12_cells l D N s0 s2 v1 cw3) lw_23_23 lw_24_0 lw_24_1 lw_1_5 lw_24_2 rfl rfl (by decide +kernel) ⟨Nat.le_of_ble_eq_true rfl, Nat.le_of_ble_eq_true rfl⟩ rfl rfl rfl rfl rfl (Nat.le_of_ble_eq_true rfl) dX12_givenBy_6 ?_
  refine aw_icmp_ge (tgt := 215) C dX12_givenBy_9 (by decide) (fun q => ?_) (fun q => ?_)
  · have h := bq_t q h
    refine aw_iload_n C 2 dX12_givenBy_215 rfl ?_
    cases h
    exact aw_ret hE dX12_givenBy_216
  · have h := bq_f q h
    refine aw_iconst (v := 0) C dX12_givenBy_12 (by decide) ?_
    refine aw_topi (fun y4 ey4 => ?_)
    have h := oL_e ey4 h
    refine aw_istore (lv' := [(0, .ref (N.1 0)), (1, .int x1), (2, .int x2), (3, .int x3), (4, .int y4)]) C [1, 2, 3, 4, 0] dX12_givenBy_13 (by decide) rfl ?_
    refine aw_sub (lv' := [(0, .ref (N.1 0)), (1, .int x1), (2, .int x2), (3, .int x3), (4, .int y4)]) [0, 1, 2, 3, 4] rfl ?_
    exact T_X12_givenBy_15 C hE hk4 100000 s2 x1 x2 x3 y4 h
def F_X12_givenBy_4 : Nat → St → Int32 → Int32 → Int32 → Option (Int32 × St)
  | 0 => fun _ _ _ _ => none
  | n + 1 => F_X12_givenBy_4_b (F_X12_givenBy_4 n)
theorem T_X12_givenBy_4 {r : Int32} {z1 : St} (C : Cx p rm_X12_givenBy s m args c D A cX12_givenBy 5 RX12 rm_X12_givenBy N) (hE : En p l e rm_X12_givenBy s m args below meth c Q D A cX12_givenBy .ireturn (wR N z1) [.int r])  : ∀ (n : Nat) (s0 : St) (x1 : Int32) (x2 : Int32) (x3 : Int32), F_X12_givenBy_4 n s0 x1 x2 x3 = some (r, z1) → Aw p l e rm_X12_givenBy s m args below meth c Q D A 5 (wR N s0) 4 [(0, .ref (N.1 0)), (1, .int x1), (2, .int x2), (3, .int x3)] [] := by
  intro n
  induction n with
  | zero => intro s0 x1 x2 x3 h; cases h
  | succ n ih => intro s0 x1 x2 x3 h; exact T_X12_givenBy_4_b C hE ih s0 x1 x2 x3 h
def F_X12_givenBy_0 (s0 : St) (x1 : Int32) : Option (Int32 × St) :=
  oL (0 : Int32) fun y1 =>
  oL (0 : Int32) fun y2 =>
  F_X12_givenBy_4 100000 s0 x1 y1 y2
set_option maxHeartbeats 4000000 in
set_option maxRecDepth 100000 in
theorem T_X12_givenBy_0 {r : Int32} {z1 : St} (C : Cx p rm_X12_givenBy s m args c D A cX12_givenBy 5 RX12 rm_X12_givenBy N) (hE : En p l e rm_X12_givenBy s m args below meth c Q D A cX12_givenBy .ireturn (wR N z1) [.int r])  (s0 : St) (x1 : Int32) (h : F_X12_givenBy_0 s0 x1 = some (r, z1)) : Aw p l e rm_X12_givenBy s m args below meth c Q D A 5 (wR N s0) 0 [(0, .ref (N.1 0)), (1, .int x1)] [] := by
  unfold F_X12_givenBy_0 at h
  refine aw_iconst (v := 0) C dX12_givenBy_0 (by decide) ?_
  refine aw_topi (fun y1 ey1 => ?_)
  have h := oL_e ey1 h
  refine aw_istore_n (lv' := [(0, .ref (N.1 0)), (1, .int x1), (2, .int y1)]) C [1, 2, 0] dX12_givenBy_1 rfl (by decide) rfl ?_
  refine aw_iconst (v := 0) C dX12_givenBy_2 (by decide) ?_
  refine aw_topi (fun y2 ey2 => ?_)
  have h := oL_e ey2 h
  refine aw_istore_n (lv' := [(0, .ref (N.1 0)), (1, .int x1), (2, .int y1), (3, .int y2)]) C [1, 2, 3, 0] dX12_givenBy_3 rfl (by decide) rfl ?_
  refine aw_sub (lv' := [(0, .ref (N.1 0)), (1, .int x1), (2, .int y1), (3, .int y2)]) [0, 1, 2, 3] rfl ?_
  exact T_X12_givenBy_4 C hE 100000 s0 x1 y1 y2 h
def f_X12_givenBy (s0 : St) (x1 : Int32) : Option (Int32 × St) := F_X12_givenBy_0 s0 x1
theorem c_X12_givenBy (l : Launch) (D : va_G) (N : Nm) (s0 z1 : St) (x1 : Int32) (r : Int32) (h : f_X12_givenBy s0 x1 = some (r, z1)) : Meti l yX12_givenBy (tsU yX12_givenBy cX12_givenBy 5 (some .int)) rm_X12_givenBy D N [.ref (N.1 0), .int x1] (wR N s0) r (wR N z1) :=
  met_i (cc := cX12_givenBy) (nL := 5) (own := RX12) (by decide) rfl (Nat.le_of_ble_eq_true rfl) (fun p e s m args below meth c Q A C hE => aw_sub [0, 1] rfl (T_X12_givenBy_0 C hE s0 x1 h))
/-! AwardLineModel.given(I)I -/
def rm_X12_given : Room := { frames := 4, cells := 0, slots := 0, locals := 93 }
def F_X12_given_0 (s0 : St) (x1 : Int32) : Option (Int32 × St) :=
  oL (sI s0 0 (0 : Int32)) fun s1 =>
  oC (f_X12_isDay s1 x1) fun w4 =>
  oL w4.1 fun v2 => oL w4.2 fun s3 =>
  if v2 = 0 then (
    some ((-1 : Int32), s3))
  else (
    oC (f_X12_reckons s3 x1) fun w7 =>
    oL w7 fun s6 =>
    oA (0 : Int32) 12 <|
    oC (f_X12_givenBy s6 (s6.2.1 3 (Int32.toNatClampNeg (0 : Int32)))) fun w11 =>
    oL w11.1 fun v9 => oL w11.2 fun s10 =>
    some (v9, s10))
set_option maxHeartbeats 4000000 in
set_option maxRecDepth 100000 in
theorem T_X12_given_0 {r : Int32} {z1 : St} (C : Cx p rm_X12_given s m args c D A cX12_given 2 RX12 rm_X12_given N) (hE : En p l e rm_X12_given s m args below meth c Q D A cX12_given .ireturn (wR N z1) [.int r])  (s0 : St) (x1 : Int32) (h : F_X12_given_0 s0 x1 = some (r, z1)) : Aw p l e rm_X12_given s m args below meth c Q D A 2 (wR N s0) 0 [(0, .ref (N.1 0)), (1, .int x1)] [] := by
  unfold F_X12_given_0 at h
  refine aw_aload_n C 0 dX12_given_0 rfl ?_
  refine aw_iconst (v := 0) C dX12_given_1 (by decide) ?_
  refine rp_md_thrown C lw_10_11 dX12_given_2 ?_
  refine ra_name (fun s1 es1 => ?_)
  have h := oL_e es1 h
  refine aw_iload_n C 1 dX12_given_5 rfl ?_
  obtain ⟨⟨v2, s3⟩, cw4, h⟩ := oC_e h
  have h := oL_e (x := s3) rfl (oL_e (x := v2) rfl h)
  refine aw_callSi (n := 1) (As := [.int x1]) (rest := []) C (c_X12_isDay l D N s1 s3 x1 v2 cw4) lw_29_4 lw_29_5 lw_1_5 lw_29_6 rfl rfl (by decide +kernel) ⟨Nat.le_of_ble_eq_true rfl, Nat.le_of_ble_eq_true rfl⟩ rfl rfl (Nat.le_of_ble_eq_true rfl) dX12_given_6 ?_
  refine aw_if_ne (tgt := 14) C dX12_given_9 (by decide) (fun q => ?_) (fun q => ?_)
  · have h := bq_f q h
    refine aw_aload_n C 0 dX12_given_14 rfl ?_
    refine aw_iload_n C 1 dX12_given_15 rfl ?_
    obtain ⟨s6, cw7, h⟩ := oC_e h
    have h := oL_e (x := s6) rfl h
    refine aw_callVv (n := 1) (As := [.int x1]) (rest := []) (q0 := 0) C (c_X12_reckons l D N s3 s6 x1 cw7) lw_33_17 lw_33_18 lw_33_19 lw_1_5 lw_33_20 rfl rfl (by decide +kernel) ⟨Nat.le_of_ble_eq_true rfl, Nat.le_of_ble_eq_true rfl⟩ rfl rfl rfl rfl rfl (Nat.le_of_ble_eq_true rfl) dX12_given_16 ?_
    refine aw_aload_n C 0 dX12_given_19 rfl ?_
    refine aw_aload_n C 0 dX12_given_20 rfl ?_
    refine rg_md_rule C lw_8_3 dX12_given_21 ?_
    refine aw_iconst (v := 0) C dX12_given_24 (by decide) ?_
    obtain ⟨q8, h⟩ := oA_e h
    refine ra_iald (k := 3) C (by decide) rfl q8 dX12_given_25 ?_
    obtain ⟨⟨v9, s10⟩, cw11, h⟩ := oC_e h
    have h := oL_e (x := s10) rfl (oL_e (x := v9) rfl h)
    refine aw_callVi (n := 1) (As := [.int (s6.2.1 3 (Int32.toNatClampNeg (0 : Int32)))]) (rest := []) (q0 := 0) C (c_X12_givenBy l D N s6 s10 (s6.2.1 3 (Int32.toNatClampNeg (0 : Int32))) v9 cw11) lw_33_21 lw_33_22 lw_33_23 lw_1_5 lw_34_0 rfl rfl (by decide +kernel) ⟨Nat.le_of_ble_eq_true rfl, Nat.le_of_ble_eq_true rfl⟩ rfl rfl rfl rfl rfl (Nat.le_of_ble_eq_true rfl) dX12_given_26 ?_
    cases h
    exact aw_ret hE dX12_given_29
  · have h := bq_t q h
    refine aw_iconst (v := -1) C dX12_given_12 (by decide) ?_
    cases h
    exact aw_ret hE dX12_given_13
def f_X12_given (s0 : St) (x1 : Int32) : Option (Int32 × St) := F_X12_given_0 s0 x1
theorem c_X12_given (l : Launch) (D : va_G) (N : Nm) (s0 z1 : St) (x1 : Int32) (r : Int32) (h : f_X12_given s0 x1 = some (r, z1)) : Meti l yX12_given (tsU yX12_given cX12_given 2 (some .int)) rm_X12_given D N [.ref (N.1 0), .int x1] (wR N s0) r (wR N z1) :=
  met_i (cc := cX12_given) (nL := 2) (own := RX12) (by decide) rfl (Nat.le_of_ble_eq_true rfl) (fun p e s m args below meth c Q A C hE => aw_sub [0, 1] rfl (T_X12_given_0 C hE s0 x1 h))
/-! AwardLineModel.bits(I)I -/
def rm_X12_bits : Room := { frames := 0, cells := 0, slots := 0, locals := 0 }
def F_X12_bits_4_b (k4 : St → Int32 → Int32 → Int32 → Option (Int32 × St)) (s0 : St) (x0 : Int32) (x1 : Int32) (x2 : Int32) : Option (Int32 × St) :=
  if (25 : Int32) ≤ x2 then (
    some (x1, s0))
  else (
    oL (x1 + ((x0 >>> (x2 &&& 31)) &&& (1 : Int32))) fun y1 =>
    oL (x2 + (1 : Int32)) fun y2 =>
    k4 s0 x0 y1 y2)
set_option maxHeartbeats 4000000 in
set_option maxRecDepth 100000 in
theorem T_X12_bits_4_b {r : Int32} {z1 : St} {k4 : St → Int32 → Int32 → Int32 → Option (Int32 × St)} (C : Cx p rm_X12_bits s m args c D A cX12_bits 3 RX12 rm_X12_bits N) (hE : En p l e rm_X12_bits s m args below meth c Q D A cX12_bits .ireturn (wR N z1) [.int r]) (hk4 : ∀ (s0 : St) (x0 : Int32) (x1 : Int32) (x2 : Int32), k4 s0 x0 x1 x2 = some (r, z1) → Aw p l e rm_X12_bits s m args below meth c Q D A 3 (wR N s0) 4 [(0, .int x0), (1, .int x1), (2, .int x2)] []) (s0 : St) (x0 : Int32) (x1 : Int32) (x2 : Int32) (h : F_X12_bits_4_b k4 s0 x0 x1 x2 = some (r, z1)) : Aw p l e rm_X12_bits s m args below meth c Q D A 3 (wR N s0) 4 [(0, .int x0), (1, .int x1), (2, .int x2)] [] := by
  unfold F_X12_bits_4_b at h
  refine aw_iload_n C 2 dX12_bits_4 rfl ?_
  refine aw_bipush (v := 25) C dX12_bits_5 (by decide) ?_
  refine aw_icmp_ge (tgt := 24) C dX12_bits_7 (by decide) (fun q => ?_) (fun q => ?_)
  · have h := bq_t q h
    refine aw_iload_n C 1 dX12_bits_24 rfl ?_
    cases h
    exact aw_ret hE dX12_bits_25
  · have h := bq_f q h
    refine aw_iload_n C 1 dX12_bits_10 rfl ?_
    refine aw_iload_n C 0 dX12_bits_11 rfl ?_
    refine aw_iload_n C 2 dX12_bits_12 rfl ?_
    refine aw_ishr C dX12_bits_13 ?_
    refine aw_iconst (v := 1) C dX12_bits_14 (by decide) ?_
    refine aw_iand C dX12_bits_15 ?_
    refine aw_iadd C dX12_bits_16 ?_
    refine aw_topi (fun y1 ey1 => ?_)
    have h := oL_e ey1 h
    refine aw_istore_n (lv' := [(0, .int x0), (1, .int y1), (2, .int x2)]) C [1, 0, 2] dX12_bits_17 rfl (by decide) rfl ?_
    obtain ⟨y2, ey2⟩ : ∃ q : Int32, q = x2 + (1 : Int32) := ⟨_, rfl⟩
    have h := oL_e ey2 h
    refine aw_iinc (v := y2) (k := 2) (lv' := [(0, .int x0), (1, .int y1), (2, .int y2)]) C [1, 2, 0] dX12_bits_18 rfl (by rw [ey2]; rfl) (by decide) rfl ?_
    refine aw_goto (tgt := 4) C dX12_bits_21 (by decide) ?_
    refine aw_sub (lv' := [(0, .int x0), (1, .int y1), (2, .int y2)]) [0, 1, 2] rfl ?_
    exact hk4 s0 x0 y1 y2 h
def F_X12_bits_4 : Nat → St → Int32 → Int32 → Int32 → Option (Int32 × St)
  | 0 => fun _ _ _ _ => none
  | n + 1 => F_X12_bits_4_b (F_X12_bits_4 n)
theorem T_X12_bits_4 {r : Int32} {z1 : St} (C : Cx p rm_X12_bits s m args c D A cX12_bits 3 RX12 rm_X12_bits N) (hE : En p l e rm_X12_bits s m args below meth c Q D A cX12_bits .ireturn (wR N z1) [.int r])  : ∀ (n : Nat) (s0 : St) (x0 : Int32) (x1 : Int32) (x2 : Int32), F_X12_bits_4 n s0 x0 x1 x2 = some (r, z1) → Aw p l e rm_X12_bits s m args below meth c Q D A 3 (wR N s0) 4 [(0, .int x0), (1, .int x1), (2, .int x2)] [] := by
  intro n
  induction n with
  | zero => intro s0 x0 x1 x2 h; cases h
  | succ n ih => intro s0 x0 x1 x2 h; exact T_X12_bits_4_b C hE ih s0 x0 x1 x2 h
def F_X12_bits_0 (s0 : St) (x0 : Int32) : Option (Int32 × St) :=
  oL (0 : Int32) fun y1 =>
  oL (0 : Int32) fun y2 =>
  F_X12_bits_4 100000 s0 x0 y1 y2
set_option maxHeartbeats 4000000 in
set_option maxRecDepth 100000 in
theorem T_X12_bits_0 {r : Int32} {z1 : St} (C : Cx p rm_X12_bits s m args c D A cX12_bits 3 RX12 rm_X12_bits N) (hE : En p l e rm_X12_bits s m args below meth c Q D A cX12_bits .ireturn (wR N z1) [.int r])  (s0 : St) (x0 : Int32) (h : F_X12_bits_0 s0 x0 = some (r, z1)) : Aw p l e rm_X12_bits s m args below meth c Q D A 3 (wR N s0) 0 [(0, .int x0)] [] := by
  unfold F_X12_bits_0 at h
  refine aw_iconst (v := 0) C dX12_bits_0 (by decide) ?_
  refine aw_topi (fun y1 ey1 => ?_)
  have h := oL_e ey1 h
  refine aw_istore_n (lv' := [(0, .int x0), (1, .int y1)]) C [1, 0] dX12_bits_1 rfl (by decide) rfl ?_
  refine aw_iconst (v := 0) C dX12_bits_2 (by decide) ?_
  refine aw_topi (fun y2 ey2 => ?_)
  have h := oL_e ey2 h
  refine aw_istore_n (lv' := [(0, .int x0), (1, .int y1), (2, .int y2)]) C [1, 2, 0] dX12_bits_3 rfl (by decide) rfl ?_
  refine aw_sub (lv' := [(0, .int x0), (1, .int y1), (2, .int y2)]) [0, 1, 2] rfl ?_
  exact T_X12_bits_4 C hE 100000 s0 x0 y1 y2 h
def f_X12_bits (s0 : St) (x0 : Int32) : Option (Int32 × St) := F_X12_bits_0 s0 x0
theorem c_X12_bits (l : Launch) (D : va_G) (N : Nm) (s0 z1 : St) (x0 : Int32) (r : Int32) (h : f_X12_bits s0 x0 = some (r, z1)) : Meti l yX12_bits (tsU yX12_bits cX12_bits 3 (some .int)) rm_X12_bits D N [.int x0] (wR N s0) r (wR N z1) :=
  met_i (cc := cX12_bits) (nL := 3) (own := RX12) (by decide) rfl (Nat.le_of_ble_eq_true rfl) (fun p e s m args below meth c Q A C hE => aw_sub [0] rfl (T_X12_bits_0 C hE s0 x0 h))
/-! AwardLineModel.turned(II)I -/
def rm_X12_turned : Room := { frames := 4, cells := 0, slots := 0, locals := 93 }
def F_X12_turned_21 (s0 : St) : Option (Int32 × St) :=
  some ((-1 : Int32), s0)
set_option maxHeartbeats 4000000 in
set_option maxRecDepth 100000 in
theorem T_X12_turned_21 {r : Int32} {z1 : St} (C : Cx p rm_X12_turned s m args c D A cX12_turned 3 RX12 rm_X12_turned N) (hE : En p l e rm_X12_turned s m args below meth c Q D A cX12_turned .ireturn (wR N z1) [.int r])  (s0 : St) (h : F_X12_turned_21 s0 = some (r, z1)) : Aw p l e rm_X12_turned s m args below meth c Q D A 3 (wR N s0) 21 [] [] := by
  unfold F_X12_turned_21 at h
  refine aw_iconst (v := -1) C dX12_turned_21 (by decide) ?_
  cases h
  exact aw_ret hE dX12_turned_22
def F_X12_turned_0 (s0 : St) (x1 : Int32) (x2 : Int32) : Option (Int32 × St) :=
  oL (sI s0 0 (0 : Int32)) fun s1 =>
  if x1 < 0 then (
    F_X12_turned_21 s1)
  else (
    if (2 : Int32) < x1 then (
      F_X12_turned_21 s1)
    else (
      oC (f_X12_isDay s1 x2) fun w4 =>
      oL w4.1 fun v2 => oL w4.2 fun s3 =>
      if v2 = 0 then (
        F_X12_turned_21 s3)
      else (
        oC (f_X12_reckons s3 x2) fun w7 =>
        oL w7 fun s6 =>
        oA (0 : Int32) 12 <|
        oC (f_X12_givenBy s6 (s6.2.1 3 (Int32.toNatClampNeg (0 : Int32)))) fun w11 =>
        oL w11.1 fun v9 => oL w11.2 fun s10 =>
        oC (f_X12_givenBy s10 x1) fun w14 =>
        oL w14.1 fun v12 => oL w14.2 fun s13 =>
        oC (f_X12_bits s13 (v9 ^^^ v12)) fun w17 =>
        oL w17.1 fun v15 => oL w17.2 fun s16 =>
        some (v15, s16))))
set_option maxHeartbeats 4000000 in
set_option maxRecDepth 100000 in
theorem T_X12_turned_0 {r : Int32} {z1 : St} (C : Cx p rm_X12_turned s m args c D A cX12_turned 3 RX12 rm_X12_turned N) (hE : En p l e rm_X12_turned s m args below meth c Q D A cX12_turned .ireturn (wR N z1) [.int r])  (s0 : St) (x1 : Int32) (x2 : Int32) (h : F_X12_turned_0 s0 x1 x2 = some (r, z1)) : Aw p l e rm_X12_turned s m args below meth c Q D A 3 (wR N s0) 0 [(0, .ref (N.1 0)), (1, .int x1), (2, .int x2)] [] := by
  unfold F_X12_turned_0 at h
  refine aw_aload_n C 0 dX12_turned_0 rfl ?_
  refine aw_iconst (v := 0) C dX12_turned_1 (by decide) ?_
  refine rp_md_thrown C lw_10_11 dX12_turned_2 ?_
  refine ra_name (fun s1 es1 => ?_)
  have h := oL_e es1 h
  refine aw_iload_n C 1 dX12_turned_5 rfl ?_
  refine aw_if_lt (tgt := 21) C dX12_turned_6 (by decide) (fun q => ?_) (fun q => ?_)
  · have h := bq_t q h
    refine aw_sub (lv' := []) [] rfl ?_
    exact T_X12_turned_21 C hE s1 h
  · have h := bq_f q h
    refine aw_iload_n C 1 dX12_turned_9 rfl ?_
    refine aw_iconst (v := 2) C dX12_turned_10 (by decide) ?_
    refine aw_icmp_gt (tgt := 21) C dX12_turned_11 (by decide) (fun q => ?_) (fun q => ?_)
    · have h := bq_t q h
      refine aw_sub (lv' := []) [] rfl ?_
      exact T_X12_turned_21 C hE s1 h
    · have h := bq_f q h
      refine aw_iload_n C 2 dX12_turned_14 rfl ?_
      obtain ⟨⟨v2, s3⟩, cw4, h⟩ := oC_e h
      have h := oL_e (x := s3) rfl (oL_e (x := v2) rfl h)
      refine aw_callSi (n := 1) (As := [.int x2]) (rest := []) C (c_X12_isDay l D N s1 s3 x2 v2 cw4) lw_29_4 lw_29_5 lw_1_5 lw_29_6 rfl rfl (by decide +kernel) ⟨Nat.le_of_ble_eq_true rfl, Nat.le_of_ble_eq_true rfl⟩ rfl rfl (Nat.le_of_ble_eq_true rfl) dX12_turned_15 ?_
      refine aw_if_ne (tgt := 23) C dX12_turned_18 (by decide) (fun q => ?_) (fun q => ?_)
      · have h := bq_f q h
        refine aw_aload_n C 0 dX12_turned_23 rfl ?_
        refine aw_iload_n C 2 dX12_turned_24 rfl ?_
        obtain ⟨s6, cw7, h⟩ := oC_e h
        have h := oL_e (x := s6) rfl h
        refine aw_callVv (n := 1) (As := [.int x2]) (rest := []) (q0 := 0) C (c_X12_reckons l D N s3 s6 x2 cw7) lw_33_17 lw_33_18 lw_33_19 lw_1_5 lw_33_20 rfl rfl (by decide +kernel) ⟨Nat.le_of_ble_eq_true rfl, Nat.le_of_ble_eq_true rfl⟩ rfl rfl rfl rfl rfl (Nat.le_of_ble_eq_true rfl) dX12_turned_25 ?_
        refine aw_aload_n C 0 dX12_turned_28 rfl ?_
        refine aw_aload_n C 0 dX12_turned_29 rfl ?_
        refine rg_md_rule C lw_8_3 dX12_turned_30 ?_
        refine aw_iconst (v := 0) C dX12_turned_33 (by decide) ?_
        obtain ⟨q8, h⟩ := oA_e h
        refine ra_iald (k := 3) C (by decide) rfl q8 dX12_turned_34 ?_
        obtain ⟨⟨v9, s10⟩, cw11, h⟩ := oC_e h
        have h := oL_e (x := s10) rfl (oL_e (x := v9) rfl h)
        refine aw_callVi (n := 1) (As := [.int (s6.2.1 3 (Int32.toNatClampNeg (0 : Int32)))]) (rest := []) (q0 := 0) C (c_X12_givenBy l D N s6 s10 (s6.2.1 3 (Int32.toNatClampNeg (0 : Int32))) v9 cw11) lw_33_21 lw_33_22 lw_33_23 lw_1_5 lw_34_0 rfl rfl (by decide +kernel) ⟨Nat.le_of_ble_eq_true rfl, Nat.le_of_ble_eq_true rfl⟩ rfl rfl rfl rfl rfl (Nat.le_of_ble_eq_true rfl) dX12_turned_35 ?_
        refine aw_aload_n C 0 dX12_turned_38 rfl ?_
        refine aw_iload_n C 1 dX12_turned_39 rfl ?_
        obtain ⟨⟨v12, s13⟩, cw14, h⟩ := oC_e h
        have h := oL_e (x := s13) rfl (oL_e (x := v12) rfl h)
        refine aw_callVi (n := 1) (As := [.int x1]) (rest := [.int v9]) (q0 := 0) C (c_X12_givenBy l D N s10 s13 x1 v12 cw14) lw_33_21 lw_33_22 lw_33_23 lw_1_5 lw_34_0 rfl rfl (by decide +kernel) ⟨Nat.le_of_ble_eq_true rfl, Nat.le_of_ble_eq_true rfl⟩ rfl rfl rfl rfl rfl (Nat.le_of_ble_eq_true rfl) dX12_turned_40 ?_
        refine aw_ixor C dX12_turned_43 ?_
        obtain ⟨⟨v15, s16⟩, cw17, h⟩ := oC_e h
        have h := oL_e (x := s16) rfl (oL_e (x := v15) rfl h)
        refine aw_callSi (n := 1) (As := [.int (v9 ^^^ v12)]) (rest := []) C (c_X12_bits l D N s13 s16 (v9 ^^^ v12) v15 cw17) lw_35_14 lw_35_15 lw_1_5 lw_35_16 rfl rfl (by decide +kernel) ⟨Nat.le_of_ble_eq_true rfl, Nat.le_of_ble_eq_true rfl⟩ rfl rfl (Nat.le_of_ble_eq_true rfl) dX12_turned_44 ?_
        cases h
        exact aw_ret hE dX12_turned_47
      · have h := bq_t q h
        refine aw_sub (lv' := []) [] rfl ?_
        exact T_X12_turned_21 C hE s3 h
def f_X12_turned (s0 : St) (x1 : Int32) (x2 : Int32) : Option (Int32 × St) := F_X12_turned_0 s0 x1 x2
theorem c_X12_turned (l : Launch) (D : va_G) (N : Nm) (s0 z1 : St) (x1 : Int32) (x2 : Int32) (r : Int32) (h : f_X12_turned s0 x1 x2 = some (r, z1)) : Meti l yX12_turned (tsU yX12_turned cX12_turned 3 (some .int)) rm_X12_turned D N [.ref (N.1 0), .int x1, .int x2] (wR N s0) r (wR N z1) :=
  met_i (cc := cX12_turned) (nL := 3) (own := RX12) (by decide) rfl (Nat.le_of_ble_eq_true rfl) (fun p e s m args below meth c Q A C hE => aw_sub [0, 1, 2] rfl (T_X12_turned_0 C hE s0 x1 x2 h))
/-! AwardLineModel.draft(I)I -/
def rm_X12_draft : Room := { frames := 2, cells := 0, slots := 0, locals := 41 }
def F_X12_draft_22 (s0 : St) : Option (Int32 × St) :=
  some ((-1 : Int32), s0)
set_option maxHeartbeats 4000000 in
set_option maxRecDepth 100000 in
theorem T_X12_draft_22 {r : Int32} {z1 : St} (C : Cx p rm_X12_draft s m args c D A cX12_draft 2 RX12 rm_X12_draft N) (hE : En p l e rm_X12_draft s m args below meth c Q D A cX12_draft .ireturn (wR N z1) [.int r])  (s0 : St) (h : F_X12_draft_22 s0 = some (r, z1)) : Aw p l e rm_X12_draft s m args below meth c Q D A 2 (wR N s0) 22 [] [] := by
  unfold F_X12_draft_22 at h
  refine aw_iconst (v := -1) C dX12_draft_22 (by decide) ?_
  cases h
  exact aw_ret hE dX12_draft_23
def F_X12_draft_0 (s0 : St) (x1 : Int32) : Option (Int32 × St) :=
  oL (sI s0 0 (0 : Int32)) fun s1 =>
  oC (f_X12_isLine s1 x1) fun w4 =>
  oL w4.1 fun v2 => oL w4.2 fun s3 =>
  if v2 = 0 then (
    F_X12_draft_22 s3)
  else (
    if (s3.1 25) = (12 : Int32) then (
      F_X12_draft_22 s3)
    else (
      oA (s3.1 25) 12 <|
      oL (sA s3 13 (upd (s3.2.1 13) (Int32.toNatClampNeg (s3.1 25)) x1)) fun s6 =>
      oA (s6.1 25) 12 <|
      oL (sA s6 14 (upd (s6.2.1 14) (Int32.toNatClampNeg (s6.1 25)) (s6.1 21))) fun s8 =>
      oL (sI s8 25 ((s8.1 25) + (1 : Int32))) fun s9 =>
      some ((s9.1 25) - (1 : Int32), s9)))
set_option maxHeartbeats 4000000 in
set_option maxRecDepth 100000 in
theorem T_X12_draft_0 {r : Int32} {z1 : St} (C : Cx p rm_X12_draft s m args c D A cX12_draft 2 RX12 rm_X12_draft N) (hE : En p l e rm_X12_draft s m args below meth c Q D A cX12_draft .ireturn (wR N z1) [.int r])  (s0 : St) (x1 : Int32) (h : F_X12_draft_0 s0 x1 = some (r, z1)) : Aw p l e rm_X12_draft s m args below meth c Q D A 2 (wR N s0) 0 [(0, .ref (N.1 0)), (1, .int x1)] [] := by
  unfold F_X12_draft_0 at h
  refine aw_aload_n C 0 dX12_draft_0 rfl ?_
  refine aw_iconst (v := 0) C dX12_draft_1 (by decide) ?_
  refine rp_md_thrown C lw_10_11 dX12_draft_2 ?_
  refine ra_name (fun s1 es1 => ?_)
  have h := oL_e es1 h
  refine aw_aload_n C 0 dX12_draft_5 rfl ?_
  refine aw_iload_n C 1 dX12_draft_6 rfl ?_
  obtain ⟨⟨v2, s3⟩, cw4, h⟩ := oC_e h
  have h := oL_e (x := s3) rfl (oL_e (x := v2) rfl h)
  refine aw_callVi (n := 1) (As := [.int x1]) (rest := []) (q0 := 0) C (c_X12_isLine l D N s1 s3 x1 v2 cw4) lw_36_9 lw_36_10 lw_36_11 lw_1_5 lw_36_12 rfl rfl (by decide +kernel) ⟨Nat.le_of_ble_eq_true rfl, Nat.le_of_ble_eq_true rfl⟩ rfl rfl rfl rfl rfl (Nat.le_of_ble_eq_true rfl) dX12_draft_7 ?_
  refine aw_if_eq (tgt := 22) C dX12_draft_10 (by decide) (fun q => ?_) (fun q => ?_)
  · have h := bq_t q h
    refine aw_sub (lv' := []) [] rfl ?_
    exact T_X12_draft_22 C hE s3 h
  · have h := bq_f q h
    refine aw_aload_n C 0 dX12_draft_13 rfl ?_
    refine rg_md_drafts C lw_9_14 dX12_draft_14 ?_
    refine aw_bipush (v := 12) C dX12_draft_17 (by decide) ?_
    refine aw_icmp_ne (tgt := 24) C dX12_draft_19 (by decide) (fun q => ?_) (fun q => ?_)
    · have h := bq_f q h
      refine aw_aload_n C 0 dX12_draft_24 rfl ?_
      refine rg_md_draftLine C lw_8_14 dX12_draft_25 ?_
      refine aw_aload_n C 0 dX12_draft_28 rfl ?_
      refine rg_md_drafts C lw_9_14 dX12_draft_29 ?_
      refine aw_iload_n C 1 dX12_draft_32 rfl ?_
      obtain ⟨q5, h⟩ := oA_e h
      refine ra_iast (k := 13) C (by decide) rfl q5 dX12_draft_33 ?_
      refine ra_name (fun s6 es6 => ?_)
      have h := oL_e es6 h
      refine aw_aload_n C 0 dX12_draft_34 rfl ?_
      refine rg_md_draftDay C lw_8_15 dX12_draft_35 ?_
      refine aw_aload_n C 0 dX12_draft_38 rfl ?_
      refine rg_md_drafts C lw_9_14 dX12_draft_39 ?_
      refine aw_aload_n C 0 dX12_draft_42 rfl ?_
      refine rg_md_today C lw_22_23 dX12_draft_43 ?_
      obtain ⟨q7, h⟩ := oA_e h
      refine ra_iast (k := 14) C (by decide) rfl q7 dX12_draft_46 ?_
      refine ra_name (fun s8 es8 => ?_)
      have h := oL_e es8 h
      refine aw_aload_n C 0 dX12_draft_47 rfl ?_
      refine aw_dup C dX12_draft_48 rfl ?_
      refine rg_md_drafts C lw_9_14 dX12_draft_49 ?_
      refine aw_iconst (v := 1) C dX12_draft_52 (by decide) ?_
      refine aw_iadd C dX12_draft_53 ?_
      refine rp_md_drafts C lw_9_14 dX12_draft_54 ?_
      refine ra_name (fun s9 es9 => ?_)
      have h := oL_e es9 h
      refine aw_aload_n C 0 dX12_draft_57 rfl ?_
      refine rg_md_drafts C lw_9_14 dX12_draft_58 ?_
      refine aw_iconst (v := 1) C dX12_draft_61 (by decide) ?_
      refine aw_isub C dX12_draft_62 ?_
      cases h
      exact aw_ret hE dX12_draft_63
    · have h := bq_t q h
      refine aw_sub (lv' := []) [] rfl ?_
      exact T_X12_draft_22 C hE s3 h
def f_X12_draft (s0 : St) (x1 : Int32) : Option (Int32 × St) := F_X12_draft_0 s0 x1
theorem c_X12_draft (l : Launch) (D : va_G) (N : Nm) (s0 z1 : St) (x1 : Int32) (r : Int32) (h : f_X12_draft s0 x1 = some (r, z1)) : Meti l yX12_draft (tsU yX12_draft cX12_draft 2 (some .int)) rm_X12_draft D N [.ref (N.1 0), .int x1] (wR N s0) r (wR N z1) :=
  met_i (cc := cX12_draft) (nL := 2) (own := RX12) (by decide) rfl (Nat.le_of_ble_eq_true rfl) (fun p e s m args below meth c Q A C hE => aw_sub [0, 1] rfl (T_X12_draft_0 C hE s0 x1 h))
/-! AwardLineModel.look(II)I -/
def rm_X12_look : Room := { frames := 1, cells := 0, slots := 0, locals := 21 }
def F_X12_look_58 (s0 : St) (t0 : Int32) : Option (Int32 × St) :=
  some (t0, s0)
set_option maxHeartbeats 4000000 in
set_option maxRecDepth 100000 in
theorem T_X12_look_58 {r : Int32} {z1 : St} (C : Cx p rm_X12_look s m args c D A cX12_look 3 RX12 rm_X12_look N) (hE : En p l e rm_X12_look s m args below meth c Q D A cX12_look .ireturn (wR N z1) [.int r])  (s0 : St) (t0 : Int32) (h : F_X12_look_58 s0 t0 = some (r, z1)) : Aw p l e rm_X12_look s m args below meth c Q D A 3 (wR N s0) 58 [] [.int t0] := by
  unfold F_X12_look_58 at h
  cases h
  exact aw_ret hE dX12_look_58
def F_X12_look_27 (s0 : St) (x1 : Int32) (x2 : Int32) (t0 : Int32) : Option (Int32 × St) :=
  oL (sI s0 0 t0) fun s1 =>
  if (s1.1 0) = 0 then (
    if x2 = 0 then (
      oA x1 12 <|
      F_X12_look_58 s1 (s1.2.1 13 (Int32.toNatClampNeg x1)))
    else (
      oA x1 12 <|
      F_X12_look_58 s1 (s1.2.1 14 (Int32.toNatClampNeg x1))))
  else (
    some ((0 : Int32), s1))
set_option maxHeartbeats 4000000 in
set_option maxRecDepth 100000 in
theorem T_X12_look_27 {r : Int32} {z1 : St} (C : Cx p rm_X12_look s m args c D A cX12_look 3 RX12 rm_X12_look N) (hE : En p l e rm_X12_look s m args below meth c Q D A cX12_look .ireturn (wR N z1) [.int r])  (s0 : St) (x1 : Int32) (x2 : Int32) (t0 : Int32) (h : F_X12_look_27 s0 x1 x2 t0 = some (r, z1)) : Aw p l e rm_X12_look s m args below meth c Q D A 3 (wR N s0) 27 [(0, .ref (N.1 0)), (1, .int x1), (2, .int x2)] [.int t0, .ref (N.1 0)] := by
  unfold F_X12_look_27 at h
  refine rp_md_thrown C lw_10_11 dX12_look_27 ?_
  refine ra_name (fun s1 es1 => ?_)
  have h := oL_e es1 h
  refine aw_aload_n C 0 dX12_look_30 rfl ?_
  refine rg_md_thrown C lw_10_11 dX12_look_31 ?_
  refine aw_if_eq (tgt := 39) C dX12_look_34 (by decide) (fun q => ?_) (fun q => ?_)
  · have h := bq_t q h
    refine aw_iload_n C 2 dX12_look_39 rfl ?_
    refine aw_if_ne (tgt := 52) C dX12_look_40 (by decide) (fun q => ?_) (fun q => ?_)
    · have h := bq_f q h
      refine aw_aload_n C 0 dX12_look_52 rfl ?_
      refine rg_md_draftDay C lw_8_15 dX12_look_53 ?_
      refine aw_iload_n C 1 dX12_look_56 rfl ?_
      obtain ⟨q2, h⟩ := oA_e h
      refine ra_iald (k := 14) C (by decide) rfl q2 dX12_look_57 ?_
      refine aw_sub (lv' := []) [] rfl ?_
      exact T_X12_look_58 C hE s1 (s1.2.1 14 (Int32.toNatClampNeg x1)) h
    · have h := bq_t q h
      refine aw_aload_n C 0 dX12_look_43 rfl ?_
      refine rg_md_draftLine C lw_8_14 dX12_look_44 ?_
      refine aw_iload_n C 1 dX12_look_47 rfl ?_
      obtain ⟨q3, h⟩ := oA_e h
      refine ra_iald (k := 13) C (by decide) rfl q3 dX12_look_48 ?_
      refine aw_goto (tgt := 58) C dX12_look_49 (by decide) ?_
      refine aw_sub (lv' := []) [] rfl ?_
      exact T_X12_look_58 C hE s1 (s1.2.1 13 (Int32.toNatClampNeg x1)) h
  · have h := bq_f q h
    refine aw_iconst (v := 0) C dX12_look_37 (by decide) ?_
    cases h
    exact aw_ret hE dX12_look_38
def F_X12_look_22 (s0 : St) (x1 : Int32) (x2 : Int32) : Option (Int32 × St) :=
  F_X12_look_27 s0 x1 x2 (2 : Int32)
set_option maxHeartbeats 4000000 in
set_option maxRecDepth 100000 in
theorem T_X12_look_22 {r : Int32} {z1 : St} (C : Cx p rm_X12_look s m args c D A cX12_look 3 RX12 rm_X12_look N) (hE : En p l e rm_X12_look s m args below meth c Q D A cX12_look .ireturn (wR N z1) [.int r])  (s0 : St) (x1 : Int32) (x2 : Int32) (h : F_X12_look_22 s0 x1 x2 = some (r, z1)) : Aw p l e rm_X12_look s m args below meth c Q D A 3 (wR N s0) 22 [(0, .ref (N.1 0)), (1, .int x1), (2, .int x2)] [.ref (N.1 0)] := by
  unfold F_X12_look_22 at h
  refine aw_iconst (v := 2) C dX12_look_22 (by decide) ?_
  refine aw_goto (tgt := 27) C dX12_look_23 (by decide) ?_
  refine aw_sub (lv' := [(0, .ref (N.1 0)), (1, .int x1), (2, .int x2)]) [0, 1, 2] rfl ?_
  exact T_X12_look_27 C hE s0 x1 x2 (2 : Int32) h
def F_X12_look_0 (s0 : St) (x1 : Int32) (x2 : Int32) : Option (Int32 × St) :=
  oC (f_X12_isDraft s0 x1) fun w3 =>
  oL w3.1 fun v1 => oL w3.2 fun s2 =>
  if v1 = 0 then (
    F_X12_look_27 s2 x1 x2 (1 : Int32))
  else (
    if x2 < 0 then (
      F_X12_look_22 s2 x1 x2)
    else (
      if x2 ≤ (1 : Int32) then (
        F_X12_look_27 s2 x1 x2 (0 : Int32))
      else (
        F_X12_look_22 s2 x1 x2)))
set_option maxHeartbeats 4000000 in
set_option maxRecDepth 100000 in
theorem T_X12_look_0 {r : Int32} {z1 : St} (C : Cx p rm_X12_look s m args c D A cX12_look 3 RX12 rm_X12_look N) (hE : En p l e rm_X12_look s m args below meth c Q D A cX12_look .ireturn (wR N z1) [.int r])  (s0 : St) (x1 : Int32) (x2 : Int32) (h : F_X12_look_0 s0 x1 x2 = some (r, z1)) : Aw p l e rm_X12_look s m args below meth c Q D A 3 (wR N s0) 0 [(0, .ref (N.1 0)), (1, .int x1), (2, .int x2)] [] := by
  unfold F_X12_look_0 at h
  refine aw_aload_n C 0 dX12_look_0 rfl ?_
  refine aw_aload_n C 0 dX12_look_1 rfl ?_
  refine aw_iload_n C 1 dX12_look_2 rfl ?_
  obtain ⟨⟨v1, s2⟩, cw3, h⟩ := oC_e h
  have h := oL_e (x := s2) rfl (oL_e (x := v1) rfl h)
  refine aw_callVi (n := 1) (As := [.int x1]) (rest := [.ref (N.1 0)]) (q0 := 0) C (c_X12_isDraft l D N s0 s2 x1 v1 cw3) lw_26_7 lw_26_8 lw_26_9 lw_1_5 lw_26_10 rfl rfl (by decide +kernel) ⟨Nat.le_of_ble_eq_true rfl, Nat.le_of_ble_eq_true rfl⟩ rfl rfl rfl rfl rfl (Nat.le_of_ble_eq_true rfl) dX12_look_3 ?_
  refine aw_if_ne (tgt := 13) C dX12_look_6 (by decide) (fun q => ?_) (fun q => ?_)
  · have h := bq_f q h
    refine aw_iload_n C 2 dX12_look_13 rfl ?_
    refine aw_if_lt (tgt := 22) C dX12_look_14 (by decide) (fun q => ?_) (fun q => ?_)
    · have h := bq_t q h
      refine aw_sub (lv' := [(0, .ref (N.1 0)), (1, .int x1), (2, .int x2)]) [0, 1, 2] rfl ?_
      exact T_X12_look_22 C hE s2 x1 x2 h
    · have h := bq_f q h
      refine aw_iload_n C 2 dX12_look_17 rfl ?_
      refine aw_iconst (v := 1) C dX12_look_18 (by decide) ?_
      refine aw_icmp_le (tgt := 26) C dX12_look_19 (by decide) (fun q => ?_) (fun q => ?_)
      · have h := bq_t q h
        refine aw_iconst (v := 0) C dX12_look_26 (by decide) ?_
        refine aw_sub (lv' := [(0, .ref (N.1 0)), (1, .int x1), (2, .int x2)]) [0, 1, 2] rfl ?_
        exact T_X12_look_27 C hE s2 x1 x2 (0 : Int32) h
      · have h := bq_f q h
        refine aw_sub (lv' := [(0, .ref (N.1 0)), (1, .int x1), (2, .int x2)]) [0, 1, 2] rfl ?_
        exact T_X12_look_22 C hE s2 x1 x2 h
  · have h := bq_t q h
    refine aw_iconst (v := 1) C dX12_look_9 (by decide) ?_
    refine aw_goto (tgt := 27) C dX12_look_10 (by decide) ?_
    refine aw_sub (lv' := [(0, .ref (N.1 0)), (1, .int x1), (2, .int x2)]) [0, 1, 2] rfl ?_
    exact T_X12_look_27 C hE s2 x1 x2 (1 : Int32) h
def f_X12_look (s0 : St) (x1 : Int32) (x2 : Int32) : Option (Int32 × St) := F_X12_look_0 s0 x1 x2
theorem c_X12_look (l : Launch) (D : va_G) (N : Nm) (s0 z1 : St) (x1 : Int32) (x2 : Int32) (r : Int32) (h : f_X12_look s0 x1 x2 = some (r, z1)) : Meti l yX12_look (tsU yX12_look cX12_look 3 (some .int)) rm_X12_look D N [.ref (N.1 0), .int x1, .int x2] (wR N s0) r (wR N z1) :=
  met_i (cc := cX12_look) (nL := 3) (own := RX12) (by decide) rfl (Nat.le_of_ble_eq_true rfl) (fun p e s m args below meth c Q A C hE => aw_sub [0, 1, 2] rfl (T_X12_look_0 C hE s0 x1 x2 h))
end WK
