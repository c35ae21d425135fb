section WK
variable {p : Program} {l : Launch} {e : Env} {s : State} {m : MethodId} {args : Array Value} {below : List Frame} {meth : Method} {c : Code} {Q : State → Prop} {D : va_G} {A : Nat → Prop} {N : Nm}
/-! AwardLine.feed(IIIII)I -/
def rm_X11_feed : Room := { frames := 1, cells := 0, slots := 0, locals := 22 }
def F_X11_feed_0 (s0 : St) (x1 : Int32) (x2 : Int32) (x3 : Int32) (x4 : Int32) (x5 : Int32) : Option (Int32 × St) :=
  oC (f_X6_hasRoom s0) fun w3 =>
  oL w3.1 fun v1 => oL w3.2 fun s2 =>
  if v1 = 0 then (
    some ((-1 : Int32), s2))
  else (
    oC (f_X6_store s2 x1) fun w6 =>
    oL w6 fun s5 =>
    oC (f_X6_store s5 x2) fun w9 =>
    oL w9 fun s8 =>
    oC (f_X6_store s8 x3) fun w12 =>
    oL w12 fun s11 =>
    oC (f_X6_store s11 x4) fun w15 =>
    oL w15 fun s14 =>
    oC (f_X6_store s14 x5) fun w18 =>
    oL w18 fun s17 =>
    some ((s17.1 1), s17))
set_option maxHeartbeats 4000000 in
set_option maxRecDepth 100000 in
theorem T_X11_feed_0 {r : Int32} {z1 : St} (C : Cx p rm_X11_feed s m args c D A cX11_feed 6 RX11 rm_X11_feed N) (hE : En p l e rm_X11_feed s m args below meth c Q D A cX11_feed .ireturn (wC N z1) [.int r])  (s0 : St) (x1 : Int32) (x2 : Int32) (x3 : Int32) (x4 : Int32) (x5 : Int32) (h : F_X11_feed_0 s0 x1 x2 x3 x4 x5 = some (r, z1)) : Aw p l e rm_X11_feed s m args below meth c Q D A 6 (wC N s0) 0 [(0, .ref (N.1 0)), (1, .int x1), (2, .int x2), (3, .int x3), (4, .int x4), (5, .int x5)] [] := by
  unfold F_X11_feed_0 at h
  refine aw_aload_n C 0 dX11_feed_0 rfl ?_
  refine cg_aw_reader C lw_2_2 dX11_feed_1 ?_
  obtain ⟨⟨v1, s2⟩, cw3, h⟩ := oC_e h
  have h := oL_e (x := s2) rfl (oL_e (x := v1) rfl h)
  refine aw_callVi (n := 0) (As := []) (rest := []) (q0 := 1) C (c_X6_hasRoom l D N s0 s2 v1 cw3) lw_9_22 lw_9_23 lw_10_0 lw_2_1 lw_10_1 rfl rfl (by decide +kernel) ⟨Nat.le_of_ble_eq_true rfl, Nat.le_of_ble_eq_true rfl⟩ rfl rfl rfl rfl rfl (Nat.le_of_ble_eq_true rfl) dX11_feed_4 ?_
  refine aw_if_ne (tgt := 12) C dX11_feed_7 (by decide) (fun q => ?_) (fun q => ?_)
  · have h := bq_f q h
    refine aw_aload_n C 0 dX11_feed_12 rfl ?_
    refine cg_aw_reader C lw_2_2 dX11_feed_13 ?_
    refine aw_iload_n C 1 dX11_feed_16 rfl ?_
    obtain ⟨s5, cw6, h⟩ := oC_e h
    have h := oL_e (x := s5) rfl h
    refine aw_callVv (n := 1) (As := [.int x1]) (rest := []) (q0 := 1) C (c_X6_store l D N s2 s5 x1 cw6) lw_10_3 lw_10_4 lw_10_5 lw_2_1 lw_10_6 rfl rfl (by decide +kernel) ⟨Nat.le_of_ble_eq_true rfl, Nat.le_of_ble_eq_true rfl⟩ rfl rfl rfl rfl rfl (Nat.le_of_ble_eq_true rfl) dX11_feed_17 ?_
    refine aw_aload_n C 0 dX11_feed_20 rfl ?_
    refine cg_aw_reader C lw_2_2 dX11_feed_21 ?_
    refine aw_iload_n C 2 dX11_feed_24 rfl ?_
    obtain ⟨s8, cw9, h⟩ := oC_e h
    have h := oL_e (x := s8) rfl h
    refine aw_callVv (n := 1) (As := [.int x2]) (rest := []) (q0 := 1) C (c_X6_store l D N s5 s8 x2 cw9) lw_10_3 lw_10_4 lw_10_5 lw_2_1 lw_10_6 rfl rfl (by decide +kernel) ⟨Nat.le_of_ble_eq_true rfl, Nat.le_of_ble_eq_true rfl⟩ rfl rfl rfl rfl rfl (Nat.le_of_ble_eq_true rfl) dX11_feed_25 ?_
    refine aw_aload_n C 0 dX11_feed_28 rfl ?_
    refine cg_aw_reader C lw_2_2 dX11_feed_29 ?_
    refine aw_iload_n C 3 dX11_feed_32 rfl ?_
    obtain ⟨s11, cw12, h⟩ := oC_e h
    have h := oL_e (x := s11) rfl h
    refine aw_callVv (n := 1) (As := [.int x3]) (rest := []) (q0 := 1) C (c_X6_store l D N s8 s11 x3 cw12) lw_10_3 lw_10_4 lw_10_5 lw_2_1 lw_10_6 rfl rfl (by decide +kernel) ⟨Nat.le_of_ble_eq_true rfl, Nat.le_of_ble_eq_true rfl⟩ rfl rfl rfl rfl rfl (Nat.le_of_ble_eq_true rfl) dX11_feed_33 ?_
    refine aw_aload_n C 0 dX11_feed_36 rfl ?_
    refine cg_aw_reader C lw_2_2 dX11_feed_37 ?_
    refine aw_iload C 4 dX11_feed_40 rfl ?_
    obtain ⟨s14, cw15, h⟩ := oC_e h
    have h := oL_e (x := s14) rfl h
    refine aw_callVv (n := 1) (As := [.int x4]) (rest := []) (q0 := 1) C (c_X6_store l D N s11 s14 x4 cw15) lw_10_3 lw_10_4 lw_10_5 lw_2_1 lw_10_6 rfl rfl (by decide +kernel) ⟨Nat.le_of_ble_eq_true rfl, Nat.le_of_ble_eq_true rfl⟩ rfl rfl rfl rfl rfl (Nat.le_of_ble_eq_true rfl) dX11_feed_42 ?_
    refine aw_aload_n C 0 dX11_feed_45 rfl ?_
    refine cg_aw_reader C lw_2_2 dX11_feed_46 ?_
    refine aw_iload C 5 dX11_feed_49 rfl ?_
    obtain ⟨s17, cw18, h⟩ := oC_e h
    have h := oL_e (x := s17) rfl h
    refine aw_callVv (n := 1) (As := [.int x5]) (rest := []) (q0 := 1) C (c_X6_store l D N s14 s17 x5 cw18) lw_10_3 lw_10_4 lw_10_5 lw_2_1 lw_10_6 rfl rfl (by decide +kernel) ⟨Nat.le_of_ble_eq_true rfl, Nat.le_of_ble_eq_true rfl⟩ rfl rfl rfl rfl rfl (Nat.le_of_ble_eq_true rfl) dX11_feed_51 ?_
    refine aw_aload_n C 0 dX11_feed_54 rfl ?_
    refine cg_aw_reader C lw_2_2 dX11_feed_55 ?_
    refine cg_rd_held C lw_9_21 dX11_feed_58 ?_
    cases h
    exact aw_ret hE dX11_feed_61
  · have h := bq_t q h
    refine aw_iconst (v := -1) C dX11_feed_10 (by decide) ?_
    cases h
    exact aw_ret hE dX11_feed_11
def f_X11_feed (s0 : St) (x1 : Int32) (x2 : Int32) (x3 : Int32) (x4 : Int32) (x5 : Int32) : Option (Int32 × St) := F_X11_feed_0 s0 x1 x2 x3 x4 x5
theorem c_X11_feed (l : Launch) (D : va_G) (N : Nm) (s0 z1 : St) (x1 : Int32) (x2 : Int32) (x3 : Int32) (x4 : Int32) (x5 : Int32) (r : Int32) (h : f_X11_feed s0 x1 x2 x3 x4 x5 = some (r, z1)) : Meti l yX11_feed (tsU yX11_feed cX11_feed 6 (some .int)) rm_X11_feed D N [.ref (N.1 0), .int x1, .int x2, .int x3, .int x4, .int x5] (wC N s0) r (wC N z1) :=
  met_i (cc := cX11_feed) (nL := 6) (own := RX11) (by decide) rfl (Nat.le_of_ble_eq_true rfl) (fun p e s m args below meth c Q A C hE => aw_sub [0, 1, 2, 3, 4, 5] rfl (T_X11_feed_0 C hE s0 x1 x2 x3 x4 x5 h))
/-! AwardLine.fault(I)I -/
def rm_X11_fault : Room := { frames := 0, cells := 0, slots := 0, locals := 0 }
def F_X11_fault_0 (s0 : St) (x1 : Int32) : Option (Int32 × St) :=
  if x1 = 0 then (
    some ((s0.1 2), s0))
  else (
  if x1 = 1 then (
    some ((s0.1 3), s0))
  else (
    some ((-1 : Int32), s0)))
set_option maxHeartbeats 4000000 in
set_option maxRecDepth 100000 in
theorem T_X11_fault_0 {r : Int32} {z1 : St} (C : Cx p rm_X11_fault s m args c D A cX11_fault 2 RX11 rm_X11_fault N) (hE : En p l e rm_X11_fault s m args below meth c Q D A cX11_fault .ireturn (wC N z1) [.int r])  (s0 : St) (x1 : Int32) (h : F_X11_fault_0 s0 x1 = some (r, z1)) : Aw p l e rm_X11_fault s m args below meth c Q D A 2 (wC N s0) 0 [(0, .ref (N.1 0)), (1, .int x1)] [] := by
  unfold F_X11_fault_0 at h
  refine aw_iload_n C 1 dX11_fault_0 rfl ?_
  by_cases q0 : x1 = (0 : Int32)
  · have h := bq_t q0 h
    refine aw_lookup (tgt := 28) C 27 dX11_fault_1 (by decide) (by rw [q0]; decide) (by decide) ?_
    refine aw_aload_n C 0 dX11_fault_28 rfl ?_
    refine cg_aw_reader C lw_2_2 dX11_fault_29 ?_
    refine cg_rd_fault C lw_21_21 dX11_fault_32 ?_
    cases h
    exact aw_ret hE dX11_fault_35
  have h := bq_f q0 h
  by_cases q1 : x1 = (1 : Int32)
  · have h := bq_t q1 h
    refine aw_lookup (tgt := 36) C 35 dX11_fault_1 (by decide) (by rw [q1]; decide) (by decide) ?_
    refine aw_aload_n C 0 dX11_fault_36 rfl ?_
    refine cg_aw_reader C lw_2_2 dX11_fault_37 ?_
    refine cg_rd_faultPlace C lw_21_22 dX11_fault_40 ?_
    cases h
    exact aw_ret hE dX11_fault_43
  have h := bq_f q1 h
  refine aw_lookup (tgt := 44) C 43 dX11_fault_1 (by decide) (by have n0 := sw_ne (k := 0) (by decide) q0; have n1 := sw_ne (k := 1) (by decide) q1; simp only [Op.lookupswitch.offset]; rw [if_neg (fun e => n0 e.symm)]; rw [if_neg (fun e => n1 e.symm)]) (by decide) ?_
  refine aw_iconst (v := -1) C dX11_fault_44 (by decide) ?_
  cases h
  exact aw_ret hE dX11_fault_45
def f_X11_fault (s0 : St) (x1 : Int32) : Option (Int32 × St) := F_X11_fault_0 s0 x1
theorem c_X11_fault (l : Launch) (D : va_G) (N : Nm) (s0 z1 : St) (x1 : Int32) (r : Int32) (h : f_X11_fault s0 x1 = some (r, z1)) : Meti l yX11_fault (tsU yX11_fault cX11_fault 2 (some .int)) rm_X11_fault D N [.ref (N.1 0), .int x1] (wC N s0) r (wC N z1) :=
  met_i (cc := cX11_fault) (nL := 2) (own := RX11) (by decide) rfl (Nat.le_of_ble_eq_true rfl) (fun p e s m args below meth c Q A C hE => aw_sub [0, 1] rfl (T_X11_fault_0 C hE s0 x1 h))
/-! AwardLine.land(II)Z -/
def rm_X11_land : Room := { frames := 2, cells := 0, slots := 0, locals := 46 }
def F_X11_land_20 (s0 : St) : Option (Int32 × St) :=
  some ((0 : Int32), s0)
set_option maxHeartbeats 4000000 in
set_option maxRecDepth 100000 in
theorem T_X11_land_20 {r : Int32} {z1 : St} (C : Cx p rm_X11_land s m args c D A cX11_land 3 RX11 rm_X11_land N) (hE : En p l e rm_X11_land s m args below meth c Q D A cX11_land .ireturn (wC N z1) [.int r])  (s0 : St) (h : F_X11_land_20 s0 = some (r, z1)) : Aw p l e rm_X11_land s m args below meth c Q D A 3 (wC N s0) 20 [] [] := by
  unfold F_X11_land_20 at h
  refine aw_iconst (v := 0) C dX11_land_20 (by decide) ?_
  cases h
  exact aw_ret hE dX11_land_21
def F_X11_land_0 (s0 : St) (x1 : Int32) (x2 : Int32) : Option (Int32 × St) :=
  if x1 < (2 : Int32) then (
    F_X11_land_20 s0)
  else (
    if (5 : Int32) < x1 then (
      F_X11_land_20 s0)
    else (
      if x2 < (2 : Int32) then (
        F_X11_land_20 s0)
      else (
        if x2 ≤ (5 : Int32) then (
          oC (f_X4_lay s0 x1 x2) fun w3 =>
          oL w3 fun s2 =>
          oL (sI s2 29 (0 : Int32)) fun s4 =>
          oL (sI s4 30 (0 : Int32)) fun s5 =>
          oL (sI s5 37 (0 : Int32)) fun s6 =>
          some ((1 : Int32), s6))
        else (
          F_X11_land_20 s0))))
set_option maxHeartbeats 4000000 in
set_option maxRecDepth 100000 in
theorem T_X11_land_0 {r : Int32} {z1 : St} (C : Cx p rm_X11_land s m args c D A cX11_land 3 RX11 rm_X11_land N) (hE : En p l e rm_X11_land s m args below meth c Q D A cX11_land .ireturn (wC N z1) [.int r])  (s0 : St) (x1 : Int32) (x2 : Int32) (h : F_X11_land_0 s0 x1 x2 = some (r, z1)) : Aw p l e rm_X11_land s m args below meth c Q D A 3 (wC N s0) 0 [(0, .ref (N.1 0)), (1, .int x1), (2, .int x2)] [] := by
  unfold F_X11_land_0 at h
  refine aw_iload_n C 1 dX11_land_0 rfl ?_
  refine aw_iconst (v := 2) C dX11_land_1 (by decide) ?_
  refine aw_icmp_lt (tgt := 20) C dX11_land_2 (by decide) (fun q => ?_) (fun q => ?_)
  · have h := bq_t q h
    refine aw_sub (lv' := []) [] rfl ?_
    exact T_X11_land_20 C hE s0 h
  · have h := bq_f q h
    refine aw_iload_n C 1 dX11_land_5 rfl ?_
    refine aw_iconst (v := 5) C dX11_land_6 (by decide) ?_
    refine aw_icmp_gt (tgt := 20) C dX11_land_7 (by decide) (fun q => ?_) (fun q => ?_)
    · have h := bq_t q h
      refine aw_sub (lv' := []) [] rfl ?_
      exact T_X11_land_20 C hE s0 h
    · have h := bq_f q h
      refine aw_iload_n C 2 dX11_land_10 rfl ?_
      refine aw_iconst (v := 2) C dX11_land_11 (by decide) ?_
      refine aw_icmp_lt (tgt := 20) C dX11_land_12 (by decide) (fun q => ?_) (fun q => ?_)
      · have h := bq_t q h
        refine aw_sub (lv' := []) [] rfl ?_
        exact T_X11_land_20 C hE s0 h
      · have h := bq_f q h
        refine aw_iload_n C 2 dX11_land_15 rfl ?_
        refine aw_iconst (v := 5) C dX11_land_16 (by decide) ?_
        refine aw_icmp_le (tgt := 22) C dX11_land_17 (by decide) (fun q => ?_) (fun q => ?_)
        · have h := bq_t q h
          refine aw_aload_n C 0 dX11_land_22 rfl ?_
          refine cg_aw_land C lw_2_8 dX11_land_23 ?_
          refine aw_iload_n C 1 dX11_land_26 rfl ?_
          refine aw_iload_n C 2 dX11_land_27 rfl ?_
          obtain ⟨s2, cw3, h⟩ := oC_e h
          have h := oL_e (x := s2) rfl h
          refine aw_callVv (n := 2) (As := [.int x1, .int x2]) (rest := []) (q0 := 4) C (c_X4_lay l D N s0 s2 x1 x2 cw3) lw_22_10 lw_3_17 lw_3_18 lw_1_15 lw_3_19 rfl rfl (by decide +kernel) ⟨Nat.le_of_ble_eq_true rfl, Nat.le_of_ble_eq_true rfl⟩ rfl rfl rfl rfl rfl (Nat.le_of_ble_eq_true rfl) dX11_land_28 ?_
          refine aw_aload_n C 0 dX11_land_31 rfl ?_
          refine cg_aw_notes C lw_2_9 dX11_land_32 ?_
          refine aw_iconst (v := 0) C dX11_land_35 (by decide) ?_
          refine cp_nt_held C lw_22_7 dX11_land_36 ?_
          refine ca_name (fun s4 es4 => ?_)
          have h := oL_e es4 h
          refine aw_aload_n C 0 dX11_land_39 rfl ?_
          refine cg_aw_drafts C lw_2_14 dX11_land_40 ?_
          refine aw_iconst (v := 0) C dX11_land_43 (by decide) ?_
          refine cp_dr_held C lw_22_8 dX11_land_44 ?_
          refine ca_name (fun s5 es5 => ?_)
          have h := oL_e es5 h
          refine aw_aload_n C 0 dX11_land_47 rfl ?_
          refine cg_aw_exodus C lw_3_6 dX11_land_48 ?_
          refine aw_iconst (v := 0) C dX11_land_51 (by decide) ?_
          refine cp_ex_candidates C lw_22_9 dX11_land_52 ?_
          refine ca_name (fun s6 es6 => ?_)
          have h := oL_e es6 h
          refine aw_iconst (v := 1) C dX11_land_55 (by decide) ?_
          cases h
          exact aw_ret hE dX11_land_56
        · have h := bq_f q h
          refine aw_sub (lv' := []) [] rfl ?_
          exact T_X11_land_20 C hE s0 h
def f_X11_land (s0 : St) (x1 : Int32) (x2 : Int32) : Option (Int32 × St) := oC (F_X11_land_0 s0 x1 x2) fun w => oZ w.1 (some w)
theorem c_X11_land (l : Launch) (D : va_G) (N : Nm) (s0 z1 : St) (x1 : Int32) (x2 : Int32) (r : Int32) (h : f_X11_land s0 x1 x2 = some (r, z1)) : Meti l yX11_land (tsU yX11_land cX11_land 3 (some .boolean)) rm_X11_land D N [.ref (N.1 0), .int x1, .int x2] (wC N s0) r (wC N z1) := by
  obtain ⟨w, h1, h2⟩ := oC_e h
  obtain ⟨hz, h2⟩ := oZ_e h2
  cases h2
  exact met_z (cc := cX11_land) (nL := 3) (own := RX11) (by decide) rfl (Nat.le_of_ble_eq_true rfl) (zN hz) (fun p e s m args below meth c Q A C hE => aw_sub [0, 1, 2] rfl (T_X11_land_0 C hE s0 x1 x2 h1))
/-! AwardLine.days(I)I -/
def rm_X11_days : Room := { frames := 0, cells := 0, slots := 0, locals := 0 }
def F_X11_days_16 (s0 : St) : Option (Int32 × St) :=
  some ((-1 : Int32), s0)
set_option maxHeartbeats 4000000 in
set_option maxRecDepth 100000 in
theorem T_X11_days_16 {r : Int32} {z1 : St} (C : Cx p rm_X11_days s m args c D A cX11_days 2 RX11 rm_X11_days N) (hE : En p l e rm_X11_days s m args below meth c Q D A cX11_days .ireturn (wC N z1) [.int r])  (s0 : St) (h : F_X11_days_16 s0 = some (r, z1)) : Aw p l e rm_X11_days s m args below meth c Q D A 2 (wC N s0) 16 [] [] := by
  unfold F_X11_days_16 at h
  refine aw_iconst (v := -1) C dX11_days_16 (by decide) ?_
  cases h
  exact aw_ret hE dX11_days_17
def F_X11_days_0 (s0 : St) (x1 : Int32) : Option (Int32 × St) :=
  if x1 < 0 then (
    F_X11_days_16 s0)
  else (
    if x1 ≤ (999 : Int32) - (s0.1 0) then (
      oL (sI s0 0 ((s0.1 0) + x1)) fun s1 =>
      some ((s1.1 0), s1))
    else (
      F_X11_days_16 s0))
set_option maxHeartbeats 4000000 in
set_option maxRecDepth 100000 in
theorem T_X11_days_0 {r : Int32} {z1 : St} (C : Cx p rm_X11_days s m args c D A cX11_days 2 RX11 rm_X11_days N) (hE : En p l e rm_X11_days s m args below meth c Q D A cX11_days .ireturn (wC N z1) [.int r])  (s0 : St) (x1 : Int32) (h : F_X11_days_0 s0 x1 = some (r, z1)) : Aw p l e rm_X11_days s m args below meth c Q D A 2 (wC N s0) 0 [(0, .ref (N.1 0)), (1, .int x1)] [] := by
  unfold F_X11_days_0 at h
  refine aw_iload_n C 1 dX11_days_0 rfl ?_
  refine aw_if_lt (tgt := 16) C dX11_days_1 (by decide) (fun q => ?_) (fun q => ?_)
  · have h := bq_t q h
    refine aw_sub (lv' := []) [] rfl ?_
    exact T_X11_days_16 C hE s0 h
  · have h := bq_f q h
    refine aw_iload_n C 1 dX11_days_4 rfl ?_
    refine aw_sipush (v := 999) C dX11_days_5 (by decide) ?_
    refine aw_aload_n C 0 dX11_days_8 rfl ?_
    refine cg_aw_today C lw_1_22 dX11_days_9 ?_
    refine aw_isub C dX11_days_12 ?_
    refine aw_icmp_le (tgt := 18) C dX11_days_13 (by decide) (fun q => ?_) (fun q => ?_)
    · have h := bq_t q h
      refine aw_aload_n C 0 dX11_days_18 rfl ?_
      refine aw_dup C dX11_days_19 rfl ?_
      refine cg_aw_today C lw_1_22 dX11_days_20 ?_
      refine aw_iload_n C 1 dX11_days_23 rfl ?_
      refine aw_iadd C dX11_days_24 ?_
      refine cp_aw_today C lw_1_22 dX11_days_25 ?_
      refine ca_name (fun s1 es1 => ?_)
      have h := oL_e es1 h
      refine aw_aload_n C 0 dX11_days_28 rfl ?_
      refine cg_aw_today C lw_1_22 dX11_days_29 ?_
      cases h
      exact aw_ret hE dX11_days_32
    · have h := bq_f q h
      refine aw_sub (lv' := []) [] rfl ?_
      exact T_X11_days_16 C hE s0 h
def f_X11_days (s0 : St) (x1 : Int32) : Option (Int32 × St) := F_X11_days_0 s0 x1
theorem c_X11_days (l : Launch) (D : va_G) (N : Nm) (s0 z1 : St) (x1 : Int32) (r : Int32) (h : f_X11_days s0 x1 = some (r, z1)) : Meti l yX11_days (tsU yX11_days cX11_days 2 (some .int)) rm_X11_days D N [.ref (N.1 0), .int x1] (wC N s0) r (wC N z1) :=
  met_i (cc := cX11_days) (nL := 2) (own := RX11) (by decide) rfl (Nat.le_of_ble_eq_true rfl) (fun p e s m args below meth c Q A C hE => aw_sub [0, 1] rfl (T_X11_days_0 C hE s0 x1 h))
/-! AwardLine.village(IIIZ)Z -/
def rm_X11_village : Room := { frames := 1, cells := 0, slots := 0, locals := 26 }
def F_X11_village_21 (s0 : St) : Option (Int32 × St) :=
  some ((0 : Int32), s0)
set_option maxHeartbeats 4000000 in
set_option maxRecDepth 100000 in
theorem T_X11_village_21 {r : Int32} {z1 : St} (C : Cx p rm_X11_village s m args c D A cX11_village 5 RX11 rm_X11_village N) (hE : En p l e rm_X11_village s m args below meth c Q D A cX11_village .ireturn (wC N z1) [.int r])  (s0 : St) (h : F_X11_village_21 s0 = some (r, z1)) : Aw p l e rm_X11_village s m args below meth c Q D A 5 (wC N s0) 21 [] [] := by
  unfold F_X11_village_21 at h
  refine aw_iconst (v := 0) C dX11_village_21 (by decide) ?_
  cases h
  exact aw_ret hE dX11_village_22
def F_X11_village_37 (s0 : St) (x1 : Int32) (x2 : Int32) (x3 : Int32) (x4 : Int32) : Option (Int32 × St) :=
  oC (f_X4_describe s0 x1 x2 x3 x4) fun w3 =>
  oL w3 fun s2 =>
  some ((1 : Int32), s2)
set_option maxHeartbeats 4000000 in
set_option maxRecDepth 100000 in
theorem T_X11_village_37 {r : Int32} {z1 : St} (C : Cx p rm_X11_village s m args c D A cX11_village 5 RX11 rm_X11_village N) (hE : En p l e rm_X11_village s m args below meth c Q D A cX11_village .ireturn (wC N z1) [.int r])  (s0 : St) (x1 : Int32) (x2 : Int32) (x3 : Int32) (x4 : Int32) (h : F_X11_village_37 s0 x1 x2 x3 x4 = some (r, z1)) : Aw p l e rm_X11_village s m args below meth c Q D A 5 (wC N s0) 37 [(0, .ref (N.1 0)), (1, .int x1), (2, .int x2), (3, .int x3), (4, .int x4)] [] := by
  unfold F_X11_village_37 at h
  refine aw_aload_n C 0 dX11_village_37 rfl ?_
  refine cg_aw_land C lw_2_8 dX11_village_38 ?_
  refine aw_iload_n C 1 dX11_village_41 rfl ?_
  refine aw_iload_n C 2 dX11_village_42 rfl ?_
  refine aw_iload_n C 3 dX11_village_43 rfl ?_
  refine aw_iload C 4 dX11_village_44 rfl ?_
  obtain ⟨s2, cw3, h⟩ := oC_e h
  have h := oL_e (x := s2) rfl h
  refine aw_callVv (n := 4) (As := [.int x1, .int x2, .int x3, .int x4]) (rest := []) (q0 := 4) C (c_X4_describe l D N s0 s2 x1 x2 x3 x4 cw3) lw_23_11 lw_23_12 lw_23_13 lw_1_15 lw_23_14 rfl rfl (by decide +kernel) ⟨Nat.le_of_ble_eq_true rfl, Nat.le_of_ble_eq_true rfl⟩ rfl rfl rfl rfl rfl (Nat.le_of_ble_eq_true rfl) dX11_village_46 ?_
  refine aw_iconst (v := 1) C dX11_village_49 (by decide) ?_
  cases h
  exact aw_ret hE dX11_village_50
def F_X11_village_0 (s0 : St) (x1 : Int32) (x2 : Int32) (x3 : Int32) (x4 : Int32) : Option (Int32 × St) :=
  oC (f_X4_has s0 x1) fun w3 =>
  oL w3.1 fun v1 => oL w3.2 fun s2 =>
  if v1 = 0 then (
    F_X11_village_21 s2)
  else (
    if x2 < 0 then (
      F_X11_village_21 s2)
    else (
      if x2 < (6 : Int32) then (
        if x3 = (-1 : Int32) then (
          F_X11_village_37 s2 x1 x2 x3 x4)
        else (
          oC (f_X11_isSide s2 x3) fun w6 =>
          oL w6.1 fun v4 => oL w6.2 fun s5 =>
          if v4 = 0 then (
            some ((0 : Int32), s5))
          else (
            F_X11_village_37 s5 x1 x2 x3 x4)))
      else (
        F_X11_village_21 s2)))
set_option maxHeartbeats 4000000 in
set_option maxRecDepth 100000 in
theorem T_X11_village_0 {r : Int32} {z1 : St} (C : Cx p rm_X11_village s m args c D A cX11_village 5 RX11 rm_X11_village N) (hE : En p l e rm_X11_village s m args below meth c Q D A cX11_village .ireturn (wC N z1) [.int r])  (s0 : St) (x1 : Int32) (x2 : Int32) (x3 : Int32) (x4 : Int32) (h : F_X11_village_0 s0 x1 x2 x3 x4 = some (r, z1)) : Aw p l e rm_X11_village s m args below meth c Q D A 5 (wC N s0) 0 [(0, .ref (N.1 0)), (1, .int x1), (2, .int x2), (3, .int x3), (4, .int x4)] [] := by
  unfold F_X11_village_0 at h
  refine aw_aload_n C 0 dX11_village_0 rfl ?_
  refine cg_aw_land C lw_2_8 dX11_village_1 ?_
  refine aw_iload_n C 1 dX11_village_4 rfl ?_
  obtain ⟨⟨v1, s2⟩, cw3, h⟩ := oC_e h
  have h := oL_e (x := s2) rfl (oL_e (x := v1) rfl h)
  refine aw_callVi (n := 1) (As := [.int x1]) (rest := []) (q0 := 4) C (c_X4_has l D N s0 s2 x1 v1 cw3) lw_23_4 lw_23_5 lw_23_6 lw_1_15 lw_23_7 rfl rfl (by decide +kernel) ⟨Nat.le_of_ble_eq_true rfl, Nat.le_of_ble_eq_true rfl⟩ rfl rfl rfl rfl rfl (Nat.le_of_ble_eq_true rfl) dX11_village_5 ?_
  refine aw_if_eq (tgt := 21) C dX11_village_8 (by decide) (fun q => ?_) (fun q => ?_)
  · have h := bq_t q h
    refine aw_sub (lv' := []) [] rfl ?_
    exact T_X11_village_21 C hE s2 h
  · have h := bq_f q h
    refine aw_iload_n C 2 dX11_village_11 rfl ?_
    refine aw_if_lt (tgt := 21) C dX11_village_12 (by decide) (fun q => ?_) (fun q => ?_)
    · have h := bq_t q h
      refine aw_sub (lv' := []) [] rfl ?_
      exact T_X11_village_21 C hE s2 h
    · have h := bq_f q h
      refine aw_iload_n C 2 dX11_village_15 rfl ?_
      refine aw_bipush (v := 6) C dX11_village_16 (by decide) ?_
      refine aw_icmp_lt (tgt := 23) C dX11_village_18 (by decide) (fun q => ?_) (fun q => ?_)
      · have h := bq_t q h
        refine aw_iload_n C 3 dX11_village_23 rfl ?_
        refine aw_iconst (v := -1) C dX11_village_24 (by decide) ?_
        refine aw_icmp_eq (tgt := 37) C dX11_village_25 (by decide) (fun q => ?_) (fun q => ?_)
        · have h := bq_t q h
          refine aw_sub (lv' := [(0, .ref (N.1 0)), (1, .int x1), (2, .int x2), (3, .int x3), (4, .int x4)]) [0, 1, 2, 3, 4] rfl ?_
          exact T_X11_village_37 C hE s2 x1 x2 x3 x4 h
        · have h := bq_f q h
          refine aw_iload_n C 3 dX11_village_28 rfl ?_
          obtain ⟨⟨v4, s5⟩, cw6, h⟩ := oC_e h
          have h := oL_e (x := s5) rfl (oL_e (x := v4) rfl h)
          refine aw_callSi (n := 1) (As := [.int x3]) (rest := []) C (c_X11_isSide l D N s2 s5 x3 v4 cw6) lw_23_8 lw_23_9 lw_1_2 lw_23_10 rfl rfl (by decide +kernel) ⟨Nat.le_of_ble_eq_true rfl, Nat.le_of_ble_eq_true rfl⟩ rfl rfl (Nat.le_of_ble_eq_true rfl) dX11_village_29 ?_
          refine aw_if_ne (tgt := 37) C dX11_village_32 (by decide) (fun q => ?_) (fun q => ?_)
          · have h := bq_f q h
            refine aw_sub (lv' := [(0, .ref (N.1 0)), (1, .int x1), (2, .int x2), (3, .int x3), (4, .int x4)]) [0, 1, 2, 3, 4] rfl ?_
            exact T_X11_village_37 C hE s5 x1 x2 x3 x4 h
          · have h := bq_t q h
            refine aw_iconst (v := 0) C dX11_village_35 (by decide) ?_
            cases h
            exact aw_ret hE dX11_village_36
      · have h := bq_f q h
        refine aw_sub (lv' := []) [] rfl ?_
        exact T_X11_village_21 C hE s2 h
def f_X11_village (s0 : St) (x1 : Int32) (x2 : Int32) (x3 : Int32) (x4 : Int32) : Option (Int32 × St) := oC (F_X11_village_0 s0 x1 x2 x3 x4) fun w => oZ w.1 (some w)
theorem c_X11_village (l : Launch) (D : va_G) (N : Nm) (s0 z1 : St) (x1 : Int32) (x2 : Int32) (x3 : Int32) (x4 : Int32) (r : Int32) (h : f_X11_village s0 x1 x2 x3 x4 = some (r, z1)) : Meti l yX11_village (tsU yX11_village cX11_village 5 (some .boolean)) rm_X11_village D N [.ref (N.1 0), .int x1, .int x2, .int x3, .int x4] (wC N s0) r (wC N z1) := by
  obtain ⟨w, h1, h2⟩ := oC_e h
  obtain ⟨hz, h2⟩ := oZ_e h2
  cases h2
  exact met_z (cc := cX11_village) (nL := 5) (own := RX11) (by decide) rfl (Nat.le_of_ble_eq_true rfl) (zN hz) (fun p e s m args below meth c Q A C hE => aw_sub [0, 1, 2, 3, 4] rfl (T_X11_village_0 C hE s0 x1 x2 x3 x4 h1))
/-! AwardLine.errs(II)Z -/
def rm_X11_errs : Room := { frames := 1, cells := 0, slots := 0, locals := 20 }
def F_X11_errs_17 (s0 : St) : Option (Int32 × St) :=
  some ((0 : Int32), s0)
set_option maxHeartbeats 4000000 in
set_option maxRecDepth 100000 in
theorem T_X11_errs_17 {r : Int32} {z1 : St} (C : Cx p rm_X11_errs s m args c D A cX11_errs 3 RX11 rm_X11_errs N) (hE : En p l e rm_X11_errs s m args below meth c Q D A cX11_errs .ireturn (wC N z1) [.int r])  (s0 : St) (h : F_X11_errs_17 s0 = some (r, z1)) : Aw p l e rm_X11_errs s m args below meth c Q D A 3 (wC N s0) 17 [] [] := by
  unfold F_X11_errs_17 at h
  refine aw_iconst (v := 0) C dX11_errs_17 (by decide) ?_
  cases h
  exact aw_ret hE dX11_errs_18
def F_X11_errs_0 (s0 : St) (x1 : Int32) (x2 : Int32) : Option (Int32 × St) :=
  oC (f_X11_isHand s0 x1) fun w3 =>
  oL w3.1 fun v1 => oL w3.2 fun s2 =>
  if v1 = 0 then (
    F_X11_errs_17 s2)
  else (
    if x2 < 0 then (
      F_X11_errs_17 s2)
    else (
      if x2 ≤ (50 : Int32) then (
        oA x1 4 <|
        oL (sA s2 18 (upd (s2.2.1 18) (Int32.toNatClampNeg x1) x2)) fun s5 =>
        some ((1 : Int32), s5))
      else (
        F_X11_errs_17 s2)))
set_option maxHeartbeats 4000000 in
set_option maxRecDepth 100000 in
theorem T_X11_errs_0 {r : Int32} {z1 : St} (C : Cx p rm_X11_errs s m args c D A cX11_errs 3 RX11 rm_X11_errs N) (hE : En p l e rm_X11_errs s m args below meth c Q D A cX11_errs .ireturn (wC N z1) [.int r])  (s0 : St) (x1 : Int32) (x2 : Int32) (h : F_X11_errs_0 s0 x1 x2 = some (r, z1)) : Aw p l e rm_X11_errs s m args below meth c Q D A 3 (wC N s0) 0 [(0, .ref (N.1 0)), (1, .int x1), (2, .int x2)] [] := by
  unfold F_X11_errs_0 at h
  refine aw_iload_n C 1 dX11_errs_0 rfl ?_
  obtain ⟨⟨v1, s2⟩, cw3, h⟩ := oC_e h
  have h := oL_e (x := s2) rfl (oL_e (x := v1) rfl h)
  refine aw_callSi (n := 1) (As := [.int x1]) (rest := []) C (c_X11_isHand l D N s0 s2 x1 v1 cw3) lw_24_8 lw_24_9 lw_1_2 lw_24_10 rfl rfl (by decide +kernel) ⟨Nat.le_of_ble_eq_true rfl, Nat.le_of_ble_eq_true rfl⟩ rfl rfl (Nat.le_of_ble_eq_true rfl) dX11_errs_1 ?_
  refine aw_if_eq (tgt := 17) C dX11_errs_4 (by decide) (fun q => ?_) (fun q => ?_)
  · have h := bq_t q h
    refine aw_sub (lv' := []) [] rfl ?_
    exact T_X11_errs_17 C hE s2 h
  · have h := bq_f q h
    refine aw_iload_n C 2 dX11_errs_7 rfl ?_
    refine aw_if_lt (tgt := 17) C dX11_errs_8 (by decide) (fun q => ?_) (fun q => ?_)
    · have h := bq_t q h
      refine aw_sub (lv' := []) [] rfl ?_
      exact T_X11_errs_17 C hE s2 h
    · have h := bq_f q h
      refine aw_iload_n C 2 dX11_errs_11 rfl ?_
      refine aw_bipush (v := 50) C dX11_errs_12 (by decide) ?_
      refine aw_icmp_le (tgt := 19) C dX11_errs_14 (by decide) (fun q => ?_) (fun q => ?_)
      · have h := bq_t q h
        refine aw_aload_n C 0 dX11_errs_19 rfl ?_
        refine cg_aw_census C lw_2_10 dX11_errs_20 ?_
        refine cg_ce_error C lw_24_7 dX11_errs_23 ?_
        refine aw_iload_n C 1 dX11_errs_26 rfl ?_
        refine aw_iload_n C 2 dX11_errs_27 rfl ?_
        obtain ⟨q4, h⟩ := oA_e h
        refine ca_iast (k := 18) C (by decide) rfl q4 dX11_errs_28 ?_
        refine ca_name (fun s5 es5 => ?_)
        have h := oL_e es5 h
        refine aw_iconst (v := 1) C dX11_errs_29 (by decide) ?_
        cases h
        exact aw_ret hE dX11_errs_30
      · have h := bq_f q h
        refine aw_sub (lv' := []) [] rfl ?_
        exact T_X11_errs_17 C hE s2 h
def f_X11_errs (s0 : St) (x1 : Int32) (x2 : Int32) : Option (Int32 × St) := oC (F_X11_errs_0 s0 x1 x2) fun w => oZ w.1 (some w)
theorem c_X11_errs (l : Launch) (D : va_G) (N : Nm) (s0 z1 : St) (x1 : Int32) (x2 : Int32) (r : Int32) (h : f_X11_errs s0 x1 x2 = some (r, z1)) : Meti l yX11_errs (tsU yX11_errs cX11_errs 3 (some .boolean)) rm_X11_errs D N [.ref (N.1 0), .int x1, .int x2] (wC N s0) r (wC N z1) := by
  obtain ⟨w, h1, h2⟩ := oC_e h
  obtain ⟨hz, h2⟩ := oZ_e h2
  cases h2
  exact met_z (cc := cX11_errs) (nL := 3) (own := RX11) (by decide) rfl (Nat.le_of_ble_eq_true rfl) (zN hz) (fun p e s m args below meth c Q A C hE => aw_sub [0, 1, 2] rfl (T_X11_errs_0 C hE s0 x1 x2 h1))
/-! AwardLine.count(IIII)I -/
def rm_X11_count : Room := { frames := 1, cells := 0, slots := 0, locals := 26 }
def F_X11_count_33 (s0 : St) : Option (Int32 × St) :=
  some ((-1 : Int32), s0)
set_option maxHeartbeats 4000000 in
set_option maxRecDepth 100000 in
theorem T_X11_count_33 {r : Int32} {z1 : St} (C : Cx p rm_X11_count s m args c D A cX11_count 5 RX11 rm_X11_count N) (hE : En p l e rm_X11_count s m args below meth c Q D A cX11_count .ireturn (wC N z1) [.int r])  (s0 : St) (h : F_X11_count_33 s0 = some (r, z1)) : Aw p l e rm_X11_count s m args below meth c Q D A 5 (wC N s0) 33 [] [] := by
  unfold F_X11_count_33 at h
  refine aw_iconst (v := -1) C dX11_count_33 (by decide) ?_
  cases h
  exact aw_ret hE dX11_count_34
def F_X11_count_0 (s0 : St) (x1 : Int32) (x2 : Int32) (x3 : Int32) (x4 : Int32) : Option (Int32 × St) :=
  oC (f_X11_isHand s0 x1) fun w3 =>
  oL w3.1 fun v1 => oL w3.2 fun s2 =>
  if v1 = 0 then (
    F_X11_count_33 s2)
  else (
    oC (f_X4_has s2 x2) fun w6 =>
    oL w6.1 fun v4 => oL w6.2 fun s5 =>
    if v4 = 0 then (
      F_X11_count_33 s5)
    else (
      oC (f_X11_isCount s5 x3) fun w9 =>
      oL w9.1 fun v7 => oL w9.2 fun s8 =>
      if v7 = 0 then (
        F_X11_count_33 s8)
      else (
        oC (f_X11_isCount s8 x4) fun w12 =>
        oL w12.1 fun v10 => oL w12.2 fun s11 =>
        if v10 = 0 then (
          F_X11_count_33 s11)
        else (
          oC (f_X5_add s11 (3 : Int32) x1 x2 x3 x4 (s11.1 0)) fun w15 =>
          oL w15.1 fun v13 => oL w15.2 fun s14 =>
          some (v13, s14)))))
set_option maxHeartbeats 4000000 in
set_option maxRecDepth 100000 in
theorem T_X11_count_0 {r : Int32} {z1 : St} (C : Cx p rm_X11_count s m args c D A cX11_count 5 RX11 rm_X11_count N) (hE : En p l e rm_X11_count s m args below meth c Q D A cX11_count .ireturn (wC N z1) [.int r])  (s0 : St) (x1 : Int32) (x2 : Int32) (x3 : Int32) (x4 : Int32) (h : F_X11_count_0 s0 x1 x2 x3 x4 = some (r, z1)) : Aw p l e rm_X11_count s m args below meth c Q D A 5 (wC N s0) 0 [(0, .ref (N.1 0)), (1, .int x1), (2, .int x2), (3, .int x3), (4, .int x4)] [] := by
  unfold F_X11_count_0 at h
  refine aw_iload_n C 1 dX11_count_0 rfl ?_
  obtain ⟨⟨v1, s2⟩, cw3, h⟩ := oC_e h
  have h := oL_e (x := s2) rfl (oL_e (x := v1) rfl h)
  refine aw_callSi (n := 1) (As := [.int x1]) (rest := []) C (c_X11_isHand l D N s0 s2 x1 v1 cw3) lw_24_8 lw_24_9 lw_1_2 lw_24_10 rfl rfl (by decide +kernel) ⟨Nat.le_of_ble_eq_true rfl, Nat.le_of_ble_eq_true rfl⟩ rfl rfl (Nat.le_of_ble_eq_true rfl) dX11_count_1 ?_
  refine aw_if_eq (tgt := 33) C dX11_count_4 (by decide) (fun q => ?_) (fun q => ?_)
  · have h := bq_t q h
    refine aw_sub (lv' := []) [] rfl ?_
    exact T_X11_count_33 C hE s2 h
  · have h := bq_f q h
    refine aw_aload_n C 0 dX11_count_7 rfl ?_
    refine cg_aw_land C lw_2_8 dX11_count_8 ?_
    refine aw_iload_n C 2 dX11_count_11 rfl ?_
    obtain ⟨⟨v4, s5⟩, cw6, h⟩ := oC_e h
    have h := oL_e (x := s5) rfl (oL_e (x := v4) rfl h)
    refine aw_callVi (n := 1) (As := [.int x2]) (rest := []) (q0 := 4) C (c_X4_has l D N s2 s5 x2 v4 cw6) lw_23_4 lw_23_5 lw_23_6 lw_1_15 lw_23_7 rfl rfl (by decide +kernel) ⟨Nat.le_of_ble_eq_true rfl, Nat.le_of_ble_eq_true rfl⟩ rfl rfl rfl rfl rfl (Nat.le_of_ble_eq_true rfl) dX11_count_12 ?_
    refine aw_if_eq (tgt := 33) C dX11_count_15 (by decide) (fun q => ?_) (fun q => ?_)
    · have h := bq_t q h
      refine aw_sub (lv' := []) [] rfl ?_
      exact T_X11_count_33 C hE s5 h
    · have h := bq_f q h
      refine aw_iload_n C 3 dX11_count_18 rfl ?_
      obtain ⟨⟨v7, s8⟩, cw9, h⟩ := oC_e h
      have h := oL_e (x := s8) rfl (oL_e (x := v7) rfl h)
      refine aw_callSi (n := 1) (As := [.int x3]) (rest := []) C (c_X11_isCount l D N s5 s8 x3 v7 cw9) lw_24_19 lw_24_20 lw_1_2 lw_24_21 rfl rfl (by decide +kernel) ⟨Nat.le_of_ble_eq_true rfl, Nat.le_of_ble_eq_true rfl⟩ rfl rfl (Nat.le_of_ble_eq_true rfl) dX11_count_19 ?_
      refine aw_if_eq (tgt := 33) C dX11_count_22 (by decide) (fun q => ?_) (fun q => ?_)
      · have h := bq_t q h
        refine aw_sub (lv' := []) [] rfl ?_
        exact T_X11_count_33 C hE s8 h
      · have h := bq_f q h
        refine aw_iload C 4 dX11_count_25 rfl ?_
        obtain ⟨⟨v10, s11⟩, cw12, h⟩ := oC_e h
        have h := oL_e (x := s11) rfl (oL_e (x := v10) rfl h)
        refine aw_callSi (n := 1) (As := [.int x4]) (rest := []) C (c_X11_isCount l D N s8 s11 x4 v10 cw12) lw_24_19 lw_24_20 lw_1_2 lw_24_21 rfl rfl (by decide +kernel) ⟨Nat.le_of_ble_eq_true rfl, Nat.le_of_ble_eq_true rfl⟩ rfl rfl (Nat.le_of_ble_eq_true rfl) dX11_count_27 ?_
        refine aw_if_ne (tgt := 35) C dX11_count_30 (by decide) (fun q => ?_) (fun q => ?_)
        · have h := bq_f q h
          refine aw_aload_n C 0 dX11_count_35 rfl ?_
          refine cg_aw_notes C lw_2_9 dX11_count_36 ?_
          refine aw_iconst (v := 3) C dX11_count_39 (by decide) ?_
          refine aw_iload_n C 1 dX11_count_40 rfl ?_
          refine aw_iload_n C 2 dX11_count_41 rfl ?_
          refine aw_iload_n C 3 dX11_count_42 rfl ?_
          refine aw_iload C 4 dX11_count_43 rfl ?_
          refine aw_aload_n C 0 dX11_count_45 rfl ?_
          refine cg_aw_today C lw_1_22 dX11_count_46 ?_
          obtain ⟨⟨v13, s14⟩, cw15, h⟩ := oC_e h
          have h := oL_e (x := s14) rfl (oL_e (x := v13) rfl h)
          refine aw_callVi (n := 6) (As := [.int (3 : Int32), .int x1, .int x2, .int x3, .int x4, .int (s11.1 0)]) (rest := []) (q0 := 5) C (c_X5_add l D N s11 s14 (3 : Int32) x1 x2 x3 x4 (s11.1 0) v13 cw15) lw_24_22 lw_24_23 lw_25_0 lw_1_18 lw_25_1 rfl rfl (by decide +kernel) ⟨Nat.le_of_ble_eq_true rfl, Nat.le_of_ble_eq_true rfl⟩ rfl rfl rfl rfl rfl (Nat.le_of_ble_eq_true rfl) dX11_count_49 ?_
          cases h
          exact aw_ret hE dX11_count_52
        · have h := bq_t q h
          refine aw_sub (lv' := []) [] rfl ?_
          exact T_X11_count_33 C hE s11 h
def f_X11_count (s0 : St) (x1 : Int32) (x2 : Int32) (x3 : Int32) (x4 : Int32) : Option (Int32 × St) := F_X11_count_0 s0 x1 x2 x3 x4
theorem c_X11_count (l : Launch) (D : va_G) (N : Nm) (s0 z1 : St) (x1 : Int32) (x2 : Int32) (x3 : Int32) (x4 : Int32) (r : Int32) (h : f_X11_count s0 x1 x2 x3 x4 = some (r, z1)) : Meti l yX11_count (tsU yX11_count cX11_count 5 (some .int)) rm_X11_count D N [.ref (N.1 0), .int x1, .int x2, .int x3, .int x4] (wC N s0) r (wC N z1) :=
  met_i (cc := cX11_count) (nL := 5) (own := RX11) (by decide) rfl (Nat.le_of_ble_eq_true rfl) (fun p e s m args below meth c Q A C hE => aw_sub [0, 1, 2, 3, 4] rfl (T_X11_count_0 C hE s0 x1 x2 x3 x4 h))
/-! AwardLine.note(IIII)I -/
def rm_X11_note : Room := { frames := 1, cells := 0, slots := 0, locals := 26 }
def F_X11_note_21 (s0 : St) : Option (Int32 × St) :=
  some ((-1 : Int32), s0)
set_option maxHeartbeats 4000000 in
set_option maxRecDepth 100000 in
theorem T_X11_note_21 {r : Int32} {z1 : St} (C : Cx p rm_X11_note s m args c D A cX11_note 6 RX11 rm_X11_note N) (hE : En p l e rm_X11_note s m args below meth c Q D A cX11_note .ireturn (wC N z1) [.int r])  (s0 : St) (h : F_X11_note_21 s0 = some (r, z1)) : Aw p l e rm_X11_note s m args below meth c Q D A 6 (wC N s0) 21 [] [] := by
  unfold F_X11_note_21 at h
  refine aw_iconst (v := -1) C dX11_note_21 (by decide) ?_
  cases h
  exact aw_ret hE dX11_note_22
def F_X11_note_151 (s0 : St) (t0 : Int32) : Option (Int32 × St) :=
  some (t0, s0)
set_option maxHeartbeats 4000000 in
set_option maxRecDepth 100000 in
theorem T_X11_note_151 {r : Int32} {z1 : St} (C : Cx p rm_X11_note s m args c D A cX11_note 6 RX11 rm_X11_note N) (hE : En p l e rm_X11_note s m args below meth c Q D A cX11_note .ireturn (wC N z1) [.int r])  (s0 : St) (t0 : Int32) (h : F_X11_note_151 s0 t0 = some (r, z1)) : Aw p l e rm_X11_note s m args below meth c Q D A 6 (wC N s0) 151 [] [.int t0] := by
  unfold F_X11_note_151 at h
  cases h
  exact aw_ret hE dX11_note_151
def F_X11_note_125 (s0 : St) (x1 : Int32) (x2 : Int32) (x3 : Int32) (x4 : Int32) (x5 : Int32) : Option (Int32 × St) :=
  if x5 = 0 then (
    F_X11_note_151 s0 (-1 : Int32))
  else (
    oC (f_X5_add s0 x1 x2 x3 x4 (0 : Int32) (s0.1 0)) fun w3 =>
    oL w3.1 fun v1 => oL w3.2 fun s2 =>
    F_X11_note_151 s2 v1)
set_option maxHeartbeats 4000000 in
set_option maxRecDepth 100000 in
theorem T_X11_note_125 {r : Int32} {z1 : St} (C : Cx p rm_X11_note s m args c D A cX11_note 6 RX11 rm_X11_note N) (hE : En p l e rm_X11_note s m args below meth c Q D A cX11_note .ireturn (wC N z1) [.int r])  (s0 : St) (x1 : Int32) (x2 : Int32) (x3 : Int32) (x4 : Int32) (x5 : Int32) (h : F_X11_note_125 s0 x1 x2 x3 x4 x5 = some (r, z1)) : Aw p l e rm_X11_note s m args below meth c Q D A 6 (wC N s0) 125 [(0, .ref (N.1 0)), (1, .int x1), (2, .int x2), (3, .int x3), (4, .int x4), (5, .int x5)] [] := by
  unfold F_X11_note_125 at h
  refine aw_iload C 5 dX11_note_125 rfl ?_
  refine aw_if_eq (tgt := 150) C dX11_note_127 (by decide) (fun q => ?_) (fun q => ?_)
  · have h := bq_t q h
    refine aw_iconst (v := -1) C dX11_note_150 (by decide) ?_
    refine aw_sub (lv' := []) [] rfl ?_
    exact T_X11_note_151 C hE s0 (-1 : Int32) h
  · have h := bq_f q h
    refine aw_aload_n C 0 dX11_note_130 rfl ?_
    refine cg_aw_notes C lw_2_9 dX11_note_131 ?_
    refine aw_iload_n C 1 dX11_note_134 rfl ?_
    refine aw_iload_n C 2 dX11_note_135 rfl ?_
    refine aw_iload_n C 3 dX11_note_136 rfl ?_
    refine aw_iload C 4 dX11_note_137 rfl ?_
    refine aw_iconst (v := 0) C dX11_note_139 (by decide) ?_
    refine aw_aload_n C 0 dX11_note_140 rfl ?_
    refine cg_aw_today C lw_1_22 dX11_note_141 ?_
    obtain ⟨⟨v1, s2⟩, cw3, h⟩ := oC_e h
    have h := oL_e (x := s2) rfl (oL_e (x := v1) rfl h)
    refine aw_callVi (n := 6) (As := [.int x1, .int x2, .int x3, .int x4, .int (0 : Int32), .int (s0.1 0)]) (rest := []) (q0 := 5) C (c_X5_add l D N s0 s2 x1 x2 x3 x4 (0 : Int32) (s0.1 0) v1 cw3) lw_24_22 lw_24_23 lw_25_0 lw_1_18 lw_25_1 rfl rfl (by decide +kernel) ⟨Nat.le_of_ble_eq_true rfl, Nat.le_of_ble_eq_true rfl⟩ rfl rfl rfl rfl rfl (Nat.le_of_ble_eq_true rfl) dX11_note_144 ?_
    refine aw_goto (tgt := 151) C dX11_note_147 (by decide) ?_
    refine aw_sub (lv' := []) [] rfl ?_
    exact T_X11_note_151 C hE s2 v1 h
def F_X11_note_82 (s0 : St) (x1 : Int32) (x2 : Int32) (x3 : Int32) (x4 : Int32) (t0 : Int32) : Option (Int32 × St) :=
  F_X11_note_125 s0 x1 x2 x3 x4 t0
set_option maxHeartbeats 4000000 in
set_option maxRecDepth 100000 in
theorem T_X11_note_82 {r : Int32} {z1 : St} (C : Cx p rm_X11_note s m args c D A cX11_note 6 RX11 rm_X11_note N) (hE : En p l e rm_X11_note s m args below meth c Q D A cX11_note .ireturn (wC N z1) [.int r])  (s0 : St) (x1 : Int32) (x2 : Int32) (x3 : Int32) (x4 : Int32) (t0 : Int32) (h : F_X11_note_82 s0 x1 x2 x3 x4 t0 = some (r, z1)) : Aw p l e rm_X11_note s m args below meth c Q D A 6 (wC N s0) 82 [(0, .ref (N.1 0)), (1, .int x1), (2, .int x2), (3, .int x3), (4, .int x4)] [.int t0] := by
  unfold F_X11_note_82 at h
  refine aw_istore (lv' := [(0, .ref (N.1 0)), (1, .int x1), (2, .int x2), (3, .int x3), (4, .int x4), (5, .int t0)]) C [1, 2, 3, 4, 5, 0] dX11_note_82 (by decide) rfl ?_
  refine aw_goto (tgt := 125) C dX11_note_84 (by decide) ?_
  refine aw_sub (lv' := [(0, .ref (N.1 0)), (1, .int x1), (2, .int x2), (3, .int x3), (4, .int x4), (5, .int t0)]) [0, 1, 2, 3, 4, 5] rfl ?_
  exact T_X11_note_125 C hE s0 x1 x2 x3 x4 t0 h
def F_X11_note_81 (s0 : St) (x1 : Int32) (x2 : Int32) (x3 : Int32) (x4 : Int32) : Option (Int32 × St) :=
  F_X11_note_82 s0 x1 x2 x3 x4 (0 : Int32)
set_option maxHeartbeats 4000000 in
set_option maxRecDepth 100000 in
theorem T_X11_note_81 {r : Int32} {z1 : St} (C : Cx p rm_X11_note s m args c D A cX11_note 6 RX11 rm_X11_note N) (hE : En p l e rm_X11_note s m args below meth c Q D A cX11_note .ireturn (wC N z1) [.int r])  (s0 : St) (x1 : Int32) (x2 : Int32) (x3 : Int32) (x4 : Int32) (h : F_X11_note_81 s0 x1 x2 x3 x4 = some (r, z1)) : Aw p l e rm_X11_note s m args below meth c Q D A 6 (wC N s0) 81 [(0, .ref (N.1 0)), (1, .int x1), (2, .int x2), (3, .int x3), (4, .int x4)] [] := by
  unfold F_X11_note_81 at h
  refine aw_iconst (v := 0) C dX11_note_81 (by decide) ?_
  refine aw_sub (lv' := [(0, .ref (N.1 0)), (1, .int x1), (2, .int x2), (3, .int x3), (4, .int x4)]) [0, 1, 2, 3, 4] rfl ?_
  exact T_X11_note_82 C hE s0 x1 x2 x3 x4 (0 : Int32) h
def F_X11_note_104 (s0 : St) (x1 : Int32) (x2 : Int32) (x3 : Int32) (x4 : Int32) (t0 : Int32) : Option (Int32 × St) :=
  F_X11_note_125 s0 x1 x2 x3 x4 t0
set_option maxHeartbeats 4000000 in
set_option maxRecDepth 100000 in
theorem T_X11_note_104 {r : Int32} {z1 : St} (C : Cx p rm_X11_note s m args c D A cX11_note 6 RX11 rm_X11_note N) (hE : En p l e rm_X11_note s m args below meth c Q D A cX11_note .ireturn (wC N z1) [.int r])  (s0 : St) (x1 : Int32) (x2 : Int32) (x3 : Int32) (x4 : Int32) (t0 : Int32) (h : F_X11_note_104 s0 x1 x2 x3 x4 t0 = some (r, z1)) : Aw p l e rm_X11_note s m args below meth c Q D A 6 (wC N s0) 104 [(0, .ref (N.1 0)), (1, .int x1), (2, .int x2), (3, .int x3), (4, .int x4)] [.int t0] := by
  unfold F_X11_note_104 at h
  refine aw_istore (lv' := [(0, .ref (N.1 0)), (1, .int x1), (2, .int x2), (3, .int x3), (4, .int x4), (5, .int t0)]) C [1, 2, 3, 4, 5, 0] dX11_note_104 (by decide) rfl ?_
  refine aw_goto (tgt := 125) C dX11_note_106 (by decide) ?_
  refine aw_sub (lv' := [(0, .ref (N.1 0)), (1, .int x1), (2, .int x2), (3, .int x3), (4, .int x4), (5, .int t0)]) [0, 1, 2, 3, 4, 5] rfl ?_
  exact T_X11_note_125 C hE s0 x1 x2 x3 x4 t0 h
def F_X11_note_103 (s0 : St) (x1 : Int32) (x2 : Int32) (x3 : Int32) (x4 : Int32) : Option (Int32 × St) :=
  F_X11_note_104 s0 x1 x2 x3 x4 (0 : Int32)
set_option maxHeartbeats 4000000 in
set_option maxRecDepth 100000 in
theorem T_X11_note_103 {r : Int32} {z1 : St} (C : Cx p rm_X11_note s m args c D A cX11_note 6 RX11 rm_X11_note N) (hE : En p l e rm_X11_note s m args below meth c Q D A cX11_note .ireturn (wC N z1) [.int r])  (s0 : St) (x1 : Int32) (x2 : Int32) (x3 : Int32) (x4 : Int32) (h : F_X11_note_103 s0 x1 x2 x3 x4 = some (r, z1)) : Aw p l e rm_X11_note s m args below meth c Q D A 6 (wC N s0) 103 [(0, .ref (N.1 0)), (1, .int x1), (2, .int x2), (3, .int x3), (4, .int x4)] [] := by
  unfold F_X11_note_103 at h
  refine aw_iconst (v := 0) C dX11_note_103 (by decide) ?_
  refine aw_sub (lv' := [(0, .ref (N.1 0)), (1, .int x1), (2, .int x2), (3, .int x3), (4, .int x4)]) [0, 1, 2, 3, 4] rfl ?_
  exact T_X11_note_104 C hE s0 x1 x2 x3 x4 (0 : Int32) h
def F_X11_note_0 (s0 : St) (x1 : Int32) (x2 : Int32) (x3 : Int32) (x4 : Int32) : Option (Int32 × St) :=
  if x4 < 0 then (
    F_X11_note_21 s0)
  else (
    if (s0.1 0) < x4 then (
      F_X11_note_21 s0)
    else (
      oC (f_X11_isPerson s0 x3) fun w3 =>
      oL w3.1 fun v1 => oL w3.2 fun s2 =>
      if v1 = 0 then (
        F_X11_note_21 s2)
      else (
        if x1 = 0 then (
          oC (f_X1_has s2 x2) fun w6 =>
          oL w6.1 fun v4 => oL w6.2 fun s5 =>
          if v4 = 0 then (
            F_X11_note_81 s5 x1 x2 x3 x4)
          else (
            oA x2 12 <|
            if x4 < (s5.2.1 29 (Int32.toNatClampNeg x2)) then (
              F_X11_note_81 s5 x1 x2 x3 x4)
            else (
              F_X11_note_82 s5 x1 x2 x3 x4 (1 : Int32))))
        else (
        if x1 = 1 then (
          oC (f_X11_isPerson s2 x2) fun w10 =>
          oL w10.1 fun v8 => oL w10.2 fun s9 =>
          if v8 = 0 then (
            F_X11_note_103 s9 x1 x2 x3 x4)
          else (
            if x2 = x3 then (
              F_X11_note_103 s9 x1 x2 x3 x4)
            else (
              F_X11_note_104 s9 x1 x2 x3 x4 (1 : Int32))))
        else (
        if x1 = 2 then (
          oC (f_X1_has s2 x2) fun w13 =>
          oL w13.1 fun v11 => oL w13.2 fun s12 =>
          F_X11_note_125 s12 x1 x2 x3 x4 v11)
        else (
          oL (0 : Int32) fun y14 =>
          F_X11_note_125 s2 x1 x2 x3 x4 y14))))))
set_option maxHeartbeats 4000000 in
set_option maxRecDepth 100000 in
theorem T_X11_note_0 {r : Int32} {z1 : St} (C : Cx p rm_X11_note s m args c D A cX11_note 6 RX11 rm_X11_note N) (hE : En p l e rm_X11_note s m args below meth c Q D A cX11_note .ireturn (wC N z1) [.int r])  (s0 : St) (x1 : Int32) (x2 : Int32) (x3 : Int32) (x4 : Int32) (h : F_X11_note_0 s0 x1 x2 x3 x4 = some (r, z1)) : Aw p l e rm_X11_note s m args below meth c Q D A 6 (wC N s0) 0 [(0, .ref (N.1 0)), (1, .int x1), (2, .int x2), (3, .int x3), (4, .int x4)] [] := by
  unfold F_X11_note_0 at h
  refine aw_iload C 4 dX11_note_0 rfl ?_
  refine aw_if_lt (tgt := 21) C dX11_note_2 (by decide) (fun q => ?_) (fun q => ?_)
  · have h := bq_t q h
    refine aw_sub (lv' := []) [] rfl ?_
    exact T_X11_note_21 C hE s0 h
  · have h := bq_f q h
    refine aw_iload C 4 dX11_note_5 rfl ?_
    refine aw_aload_n C 0 dX11_note_7 rfl ?_
    refine cg_aw_today C lw_1_22 dX11_note_8 ?_
    refine aw_icmp_gt (tgt := 21) C dX11_note_11 (by decide) (fun q => ?_) (fun q => ?_)
    · have h := bq_t q h
      refine aw_sub (lv' := []) [] rfl ?_
      exact T_X11_note_21 C hE s0 h
    · have h := bq_f q h
      refine aw_iload_n C 3 dX11_note_14 rfl ?_
      obtain ⟨⟨v1, s2⟩, cw3, h⟩ := oC_e h
      have h := oL_e (x := s2) rfl (oL_e (x := v1) rfl h)
      refine aw_callSi (n := 1) (As := [.int x3]) (rest := []) C (c_X11_isPerson l D N s0 s2 x3 v1 cw3) lw_25_16 lw_25_17 lw_1_2 lw_25_18 rfl rfl (by decide +kernel) ⟨Nat.le_of_ble_eq_true rfl, Nat.le_of_ble_eq_true rfl⟩ rfl rfl (Nat.le_of_ble_eq_true rfl) dX11_note_15 ?_
      refine aw_if_ne (tgt := 23) C dX11_note_18 (by decide) (fun q => ?_) (fun q => ?_)
      · have h := bq_f q h
        refine aw_iload_n C 1 dX11_note_23 rfl ?_
        by_cases q0 : x1 = (0 : Int32)
        · have h := bq_t q0 h
          refine aw_table (tgt := 52) C 28 dX11_note_24 (by rw [q0]; decide) (by rw [q0]; decide) (by rw [q0]; decide) (by decide) ?_
          refine aw_aload_n C 0 dX11_note_52 rfl ?_
          refine cg_aw_drafts C lw_2_14 dX11_note_53 ?_
          refine aw_iload_n C 2 dX11_note_56 rfl ?_
          obtain ⟨⟨v4, s5⟩, cw6, h⟩ := oC_e h
          have h := oL_e (x := s5) rfl (oL_e (x := v4) rfl h)
          refine aw_callVi (n := 1) (As := [.int x2]) (rest := []) (q0 := 7) C (c_X1_has l D N s2 s5 x2 v4 cw6) lw_25_19 lw_25_20 lw_25_21 lw_2_13 lw_25_22 rfl rfl (by decide +kernel) ⟨Nat.le_of_ble_eq_true rfl, Nat.le_of_ble_eq_true rfl⟩ rfl rfl rfl rfl rfl (Nat.le_of_ble_eq_true rfl) dX11_note_57 ?_
          refine aw_if_eq (tgt := 81) C dX11_note_60 (by decide) (fun q => ?_) (fun q => ?_)
          · have h := bq_t q h
            refine aw_sub (lv' := [(0, .ref (N.1 0)), (1, .int x1), (2, .int x2), (3, .int x3), (4, .int x4)]) [0, 1, 2, 3, 4] rfl ?_
            exact T_X11_note_81 C hE s5 x1 x2 x3 x4 h
          · have h := bq_f q h
            refine aw_iload C 4 dX11_note_63 rfl ?_
            refine aw_aload_n C 0 dX11_note_65 rfl ?_
            refine cg_aw_drafts C lw_2_14 dX11_note_66 ?_
            refine cg_dr_day C lw_25_15 dX11_note_69 ?_
            refine aw_iload_n C 2 dX11_note_72 rfl ?_
            obtain ⟨q7, h⟩ := oA_e h
            refine ca_iald (k := 29) C (by decide) rfl q7 dX11_note_73 ?_
            refine aw_icmp_lt (tgt := 81) C dX11_note_74 (by decide) (fun q => ?_) (fun q => ?_)
            · have h := bq_t q h
              refine aw_sub (lv' := [(0, .ref (N.1 0)), (1, .int x1), (2, .int x2), (3, .int x3), (4, .int x4)]) [0, 1, 2, 3, 4] rfl ?_
              exact T_X11_note_81 C hE s5 x1 x2 x3 x4 h
            · have h := bq_f q h
              refine aw_iconst (v := 1) C dX11_note_77 (by decide) ?_
              refine aw_goto (tgt := 82) C dX11_note_78 (by decide) ?_
              refine aw_sub (lv' := [(0, .ref (N.1 0)), (1, .int x1), (2, .int x2), (3, .int x3), (4, .int x4)]) [0, 1, 2, 3, 4] rfl ?_
              exact T_X11_note_82 C hE s5 x1 x2 x3 x4 (1 : Int32) h
        have h := bq_f q0 h
        by_cases q1 : x1 = (1 : Int32)
        · have h := bq_t q1 h
          refine aw_table (tgt := 87) C 63 dX11_note_24 (by rw [q1]; decide) (by rw [q1]; decide) (by rw [q1]; decide) (by decide) ?_
          refine aw_iload_n C 2 dX11_note_87 rfl ?_
          obtain ⟨⟨v8, s9⟩, cw10, h⟩ := oC_e h
          have h := oL_e (x := s9) rfl (oL_e (x := v8) rfl h)
          refine aw_callSi (n := 1) (As := [.int x2]) (rest := []) C (c_X11_isPerson l D N s2 s9 x2 v8 cw10) lw_25_16 lw_25_17 lw_1_2 lw_25_18 rfl rfl (by decide +kernel) ⟨Nat.le_of_ble_eq_true rfl, Nat.le_of_ble_eq_true rfl⟩ rfl rfl (Nat.le_of_ble_eq_true rfl) dX11_note_88 ?_
          refine aw_if_eq (tgt := 103) C dX11_note_91 (by decide) (fun q => ?_) (fun q => ?_)
          · have h := bq_t q h
            refine aw_sub (lv' := [(0, .ref (N.1 0)), (1, .int x1), (2, .int x2), (3, .int x3), (4, .int x4)]) [0, 1, 2, 3, 4] rfl ?_
            exact T_X11_note_103 C hE s9 x1 x2 x3 x4 h
          · have h := bq_f q h
            refine aw_iload_n C 2 dX11_note_94 rfl ?_
            refine aw_iload_n C 3 dX11_note_95 rfl ?_
            refine aw_icmp_eq (tgt := 103) C dX11_note_96 (by decide) (fun q => ?_) (fun q => ?_)
            · have h := bq_t q h
              refine aw_sub (lv' := [(0, .ref (N.1 0)), (1, .int x1), (2, .int x2), (3, .int x3), (4, .int x4)]) [0, 1, 2, 3, 4] rfl ?_
              exact T_X11_note_103 C hE s9 x1 x2 x3 x4 h
            · have h := bq_f q h
              refine aw_iconst (v := 1) C dX11_note_99 (by decide) ?_
              refine aw_goto (tgt := 104) C dX11_note_100 (by decide) ?_
              refine aw_sub (lv' := [(0, .ref (N.1 0)), (1, .int x1), (2, .int x2), (3, .int x3), (4, .int x4)]) [0, 1, 2, 3, 4] rfl ?_
              exact T_X11_note_104 C hE s9 x1 x2 x3 x4 (1 : Int32) h
        have h := bq_f q1 h
        by_cases q2 : x1 = (2 : Int32)
        · have h := bq_t q2 h
          refine aw_table (tgt := 109) C 85 dX11_note_24 (by rw [q2]; decide) (by rw [q2]; decide) (by rw [q2]; decide) (by decide) ?_
          refine aw_aload_n C 0 dX11_note_109 rfl ?_
          refine cg_aw_drafts C lw_2_14 dX11_note_110 ?_
          refine aw_iload_n C 2 dX11_note_113 rfl ?_
          obtain ⟨⟨v11, s12⟩, cw13, h⟩ := oC_e h
          have h := oL_e (x := s12) rfl (oL_e (x := v11) rfl h)
          refine aw_callVi (n := 1) (As := [.int x2]) (rest := []) (q0 := 7) C (c_X1_has l D N s2 s12 x2 v11 cw13) lw_25_19 lw_25_20 lw_25_21 lw_2_13 lw_25_22 rfl rfl (by decide +kernel) ⟨Nat.le_of_ble_eq_true rfl, Nat.le_of_ble_eq_true rfl⟩ rfl rfl rfl rfl rfl (Nat.le_of_ble_eq_true rfl) dX11_note_114 ?_
          refine aw_istore (lv' := [(0, .ref (N.1 0)), (1, .int x1), (2, .int x2), (3, .int x3), (4, .int x4), (5, .int v11)]) C [1, 2, 3, 4, 5, 0] dX11_note_117 (by decide) rfl ?_
          refine aw_goto (tgt := 125) C dX11_note_119 (by decide) ?_
          refine aw_sub (lv' := [(0, .ref (N.1 0)), (1, .int x1), (2, .int x2), (3, .int x3), (4, .int x4), (5, .int v11)]) [0, 1, 2, 3, 4, 5] rfl ?_
          exact T_X11_note_125 C hE s12 x1 x2 x3 x4 v11 h
        have h := bq_f q2 h
        refine aw_tableO (tgt := 122) C dX11_note_24 (by have n0 := sw_ne (k := 0) (by decide) q0; have n1 := sw_ne (k := 1) (by decide) q1; have n2 := sw_ne (k := 2) (by decide) q2; omega) (by decide) ?_
        refine aw_iconst (v := 0) C dX11_note_122 (by decide) ?_
        refine aw_topi (fun y14 ey14 => ?_)
        have h := oL_e ey14 h
        refine aw_istore (lv' := [(0, .ref (N.1 0)), (1, .int x1), (2, .int x2), (3, .int x3), (4, .int x4), (5, .int y14)]) C [1, 2, 3, 4, 5, 0] dX11_note_123 (by decide) rfl ?_
        refine aw_sub (lv' := [(0, .ref (N.1 0)), (1, .int x1), (2, .int x2), (3, .int x3), (4, .int x4), (5, .int y14)]) [0, 1, 2, 3, 4, 5] rfl ?_
        exact T_X11_note_125 C hE s2 x1 x2 x3 x4 y14 h
      · have h := bq_t q h
        refine aw_sub (lv' := []) [] rfl ?_
        exact T_X11_note_21 C hE s2 h
def f_X11_note (s0 : St) (x1 : Int32) (x2 : Int32) (x3 : Int32) (x4 : Int32) : Option (Int32 × St) := F_X11_note_0 s0 x1 x2 x3 x4
theorem c_X11_note (l : Launch) (D : va_G) (N : Nm) (s0 z1 : St) (x1 : Int32) (x2 : Int32) (x3 : Int32) (x4 : Int32) (r : Int32) (h : f_X11_note s0 x1 x2 x3 x4 = some (r, z1)) : Meti l yX11_note (tsU yX11_note cX11_note 6 (some .int)) rm_X11_note D N [.ref (N.1 0), .int x1, .int x2, .int x3, .int x4] (wC N s0) r (wC N z1) :=
  met_i (cc := cX11_note) (nL := 6) (own := RX11) (by decide) rfl (Nat.le_of_ble_eq_true rfl) (fun p e s m args below meth c Q A C hE => aw_sub [0, 1, 2, 3, 4] rfl (T_X11_note_0 C hE s0 x1 x2 x3 x4 h))
/-! AwardLine.strike(I)I -/
def rm_X11_strike : Room := { frames := 1, cells := 0, slots := 0, locals := 26 }
def F_X11_strike_0 (s0 : St) (x1 : Int32) : Option (Int32 × St) :=
  oC (f_X5_has s0 x1) fun w3 =>
  oL w3.1 fun v1 => oL w3.2 fun s2 =>
  if v1 = 0 then (
    some ((-1 : Int32), s2))
  else (
    oC (f_X5_add s2 (4 : Int32) x1 (0 : Int32) (0 : Int32) (0 : Int32) (s2.1 0)) fun w6 =>
    oL w6.1 fun v4 => oL w6.2 fun s5 =>
    some (v4, s5))
set_option maxHeartbeats 4000000 in
set_option maxRecDepth 100000 in
theorem T_X11_strike_0 {r : Int32} {z1 : St} (C : Cx p rm_X11_strike s m args c D A cX11_strike 2 RX11 rm_X11_strike N) (hE : En p l e rm_X11_strike s m args below meth c Q D A cX11_strike .ireturn (wC N z1) [.int r])  (s0 : St) (x1 : Int32) (h : F_X11_strike_0 s0 x1 = some (r, z1)) : Aw p l e rm_X11_strike s m args below meth c Q D A 2 (wC N s0) 0 [(0, .ref (N.1 0)), (1, .int x1)] [] := by
  unfold F_X11_strike_0 at h
  refine aw_aload_n C 0 dX11_strike_0 rfl ?_
  refine cg_aw_notes C lw_2_9 dX11_strike_1 ?_
  refine aw_iload_n C 1 dX11_strike_4 rfl ?_
  obtain ⟨⟨v1, s2⟩, cw3, h⟩ := oC_e h
  have h := oL_e (x := s2) rfl (oL_e (x := v1) rfl h)
  refine aw_callVi (n := 1) (As := [.int x1]) (rest := []) (q0 := 5) C (c_X5_has l D N s0 s2 x1 v1 cw3) lw_26_15 lw_26_16 lw_26_17 lw_1_18 lw_26_18 rfl rfl (by decide +kernel) ⟨Nat.le_of_ble_eq_true rfl, Nat.le_of_ble_eq_true rfl⟩ rfl rfl rfl rfl rfl (Nat.le_of_ble_eq_true rfl) dX11_strike_5 ?_
  refine aw_if_ne (tgt := 13) C dX11_strike_8 (by decide) (fun q => ?_) (fun q => ?_)
  · have h := bq_f q h
    refine aw_aload_n C 0 dX11_strike_13 rfl ?_
    refine cg_aw_notes C lw_2_9 dX11_strike_14 ?_
    refine aw_iconst (v := 4) C dX11_strike_17 (by decide) ?_
    refine aw_iload_n C 1 dX11_strike_18 rfl ?_
    refine aw_iconst (v := 0) C dX11_strike_19 (by decide) ?_
    refine aw_iconst (v := 0) C dX11_strike_20 (by decide) ?_
    refine aw_iconst (v := 0) C dX11_strike_21 (by decide) ?_
    refine aw_aload_n C 0 dX11_strike_22 rfl ?_
    refine cg_aw_today C lw_1_22 dX11_strike_23 ?_
    obtain ⟨⟨v4, s5⟩, cw6, h⟩ := oC_e h
    have h := oL_e (x := s5) rfl (oL_e (x := v4) rfl h)
    refine aw_callVi (n := 6) (As := [.int (4 : Int32), .int x1, .int (0 : Int32), .int (0 : Int32), .int (0 : Int32), .int (s2.1 0)]) (rest := []) (q0 := 5) C (c_X5_add l D N s2 s5 (4 : Int32) x1 (0 : Int32) (0 : Int32) (0 : Int32) (s2.1 0) v4 cw6) lw_24_22 lw_24_23 lw_25_0 lw_1_18 lw_25_1 rfl rfl (by decide +kernel) ⟨Nat.le_of_ble_eq_true rfl, Nat.le_of_ble_eq_true rfl⟩ rfl rfl rfl rfl rfl (Nat.le_of_ble_eq_true rfl) dX11_strike_26 ?_
    cases h
    exact aw_ret hE dX11_strike_29
  · have h := bq_t q h
    refine aw_iconst (v := -1) C dX11_strike_11 (by decide) ?_
    cases h
    exact aw_ret hE dX11_strike_12
def f_X11_strike (s0 : St) (x1 : Int32) : Option (Int32 × St) := F_X11_strike_0 s0 x1
theorem c_X11_strike (l : Launch) (D : va_G) (N : Nm) (s0 z1 : St) (x1 : Int32) (r : Int32) (h : f_X11_strike s0 x1 = some (r, z1)) : Meti l yX11_strike (tsU yX11_strike cX11_strike 2 (some .int)) rm_X11_strike D N [.ref (N.1 0), .int x1] (wC N s0) r (wC N z1) :=
  met_i (cc := cX11_strike) (nL := 2) (own := RX11) (by decide) rfl (Nat.le_of_ble_eq_true rfl) (fun p e s m args below meth c Q A C hE => aw_sub [0, 1] rfl (T_X11_strike_0 C hE s0 x1 h))
/-! AwardLine.span(IIII)I -/
def rm_X11_span : Room := { frames := 3, cells := 0, slots := 0, locals := 70 }
def F_X11_span_36 (s0 : St) : Option (Int32 × St) :=
  some ((-1 : Int32), s0)
set_option maxHeartbeats 4000000 in
set_option maxRecDepth 100000 in
theorem T_X11_span_36 {r : Int32} {z1 : St} (C : Cx p rm_X11_span s m args c D A cX11_span 7 RX11 rm_X11_span N) (hE : En p l e rm_X11_span s m args below meth c Q D A cX11_span .ireturn (wC N z1) [.int r])  (s0 : St) (h : F_X11_span_36 s0 = some (r, z1)) : Aw p l e rm_X11_span s m args below meth c Q D A 7 (wC N s0) 36 [] [] := by
  unfold F_X11_span_36 at h
  refine aw_iconst (v := -1) C dX11_span_36 (by decide) ?_
  cases h
  exact aw_ret hE dX11_span_37
def F_X11_span_112 (s0 : St) (t0 : Int32) : Option (Int32 × St) :=
  some (t0, s0)
set_option maxHeartbeats 4000000 in
set_option maxRecDepth 100000 in
theorem T_X11_span_112 {r : Int32} {z1 : St} (C : Cx p rm_X11_span s m args c D A cX11_span 7 RX11 rm_X11_span N) (hE : En p l e rm_X11_span s m args below meth c Q D A cX11_span .ireturn (wC N z1) [.int r])  (s0 : St) (t0 : Int32) (h : F_X11_span_112 s0 t0 = some (r, z1)) : Aw p l e rm_X11_span s m args below meth c Q D A 7 (wC N s0) 112 [] [.int t0] := by
  unfold F_X11_span_112 at h
  cases h
  exact aw_ret hE dX11_span_112
def F_X11_span_0 (s0 : St) (x1 : Int32) (x2 : Int32) (x3 : Int32) (x4 : Int32) : Option (Int32 × St) :=
  oC (f_X4_has s0 x1) fun w3 =>
  oL w3.1 fun v1 => oL w3.2 fun s2 =>
  if v1 = 0 then (
    F_X11_span_36 s2)
  else (
    oC (f_X11_isSide s2 x2) fun w6 =>
    oL w6.1 fun v4 => oL w6.2 fun s5 =>
    if v4 = 0 then (
      F_X11_span_36 s5)
    else (
      oC (f_X11_isDay s5 x3) fun w9 =>
      oL w9.1 fun v7 => oL w9.2 fun s8 =>
      if v7 = 0 then (
        F_X11_span_36 s8)
      else (
        if x4 < 0 then (
          F_X11_span_36 s8)
        else (
          if x4 ≤ (2 : Int32) then (
            oC (f_X0_take s8 x3) fun w12 =>
            oL w12 fun s11 =>
            if x4 = (2 : Int32) then (
              oA x2 2 <|
              oX (26 + Int32.toNatClampNeg x2) x1 <|
              some ((s11.2.1 (26 + Int32.toNatClampNeg x2) (Int32.toNatClampNeg x1)), s11))
            else (
              oA x2 2 <|
              oX (20 + Int32.toNatClampNeg x2) x1 <|
              oL (s11.2.1 (20 + Int32.toNatClampNeg x2) (Int32.toNatClampNeg x1)) fun y16 =>
              oA x2 2 <|
              oX (23 + Int32.toNatClampNeg x2) x1 <|
              oL (s11.2.1 (23 + Int32.toNatClampNeg x2) (Int32.toNatClampNeg x1)) fun y20 =>
              if y16 ≤ y20 then (
                if x4 = 0 then (
                  F_X11_span_112 s11 y16)
                else (
                  F_X11_span_112 s11 y20))
              else (
                some ((-2 : Int32), s11))))
          else (
            F_X11_span_36 s8)))))
set_option maxHeartbeats 4000000 in
set_option maxRecDepth 100000 in
theorem T_X11_span_0 {r : Int32} {z1 : St} (C : Cx p rm_X11_span s m args c D A cX11_span 7 RX11 rm_X11_span N) (hE : En p l e rm_X11_span s m args below meth c Q D A cX11_span .ireturn (wC N z1) [.int r])  (s0 : St) (x1 : Int32) (x2 : Int32) (x3 : Int32) (x4 : Int32) (h : F_X11_span_0 s0 x1 x2 x3 x4 = some (r, z1)) : Aw p l e rm_X11_span s m args below meth c Q D A 7 (wC N s0) 0 [(0, .ref (N.1 0)), (1, .int x1), (2, .int x2), (3, .int x3), (4, .int x4)] [] := by
  unfold F_X11_span_0 at h
  refine aw_aload_n C 0 dX11_span_0 rfl ?_
  refine cg_aw_land C lw_2_8 dX11_span_1 ?_
  refine aw_iload_n C 1 dX11_span_4 rfl ?_
  obtain ⟨⟨v1, s2⟩, cw3, h⟩ := oC_e h
  have h := oL_e (x := s2) rfl (oL_e (x := v1) rfl h)
  refine aw_callVi (n := 1) (As := [.int x1]) (rest := []) (q0 := 4) C (c_X4_has l D N s0 s2 x1 v1 cw3) lw_23_4 lw_23_5 lw_23_6 lw_1_15 lw_23_7 rfl rfl (by decide +kernel) ⟨Nat.le_of_ble_eq_true rfl, Nat.le_of_ble_eq_true rfl⟩ rfl rfl rfl rfl rfl (Nat.le_of_ble_eq_true rfl) dX11_span_5 ?_
  refine aw_if_eq (tgt := 36) C dX11_span_8 (by decide) (fun q => ?_) (fun q => ?_)
  · have h := bq_t q h
    refine aw_sub (lv' := []) [] rfl ?_
    exact T_X11_span_36 C hE s2 h
  · have h := bq_f q h
    refine aw_iload_n C 2 dX11_span_11 rfl ?_
    obtain ⟨⟨v4, s5⟩, cw6, h⟩ := oC_e h
    have h := oL_e (x := s5) rfl (oL_e (x := v4) rfl h)
    refine aw_callSi (n := 1) (As := [.int x2]) (rest := []) C (c_X11_isSide l D N s2 s5 x2 v4 cw6) lw_23_8 lw_23_9 lw_1_2 lw_23_10 rfl rfl (by decide +kernel) ⟨Nat.le_of_ble_eq_true rfl, Nat.le_of_ble_eq_true rfl⟩ rfl rfl (Nat.le_of_ble_eq_true rfl) dX11_span_12 ?_
    refine aw_if_eq (tgt := 36) C dX11_span_15 (by decide) (fun q => ?_) (fun q => ?_)
    · have h := bq_t q h
      refine aw_sub (lv' := []) [] rfl ?_
      exact T_X11_span_36 C hE s5 h
    · have h := bq_f q h
      refine aw_iload_n C 3 dX11_span_18 rfl ?_
      obtain ⟨⟨v7, s8⟩, cw9, h⟩ := oC_e h
      have h := oL_e (x := s8) rfl (oL_e (x := v7) rfl h)
      refine aw_callSi (n := 1) (As := [.int x3]) (rest := []) C (c_X11_isDay l D N s5 s8 x3 v7 cw9) lw_27_6 lw_27_7 lw_1_2 lw_27_8 rfl rfl (by decide +kernel) ⟨Nat.le_of_ble_eq_true rfl, Nat.le_of_ble_eq_true rfl⟩ rfl rfl (Nat.le_of_ble_eq_true rfl) dX11_span_19 ?_
      refine aw_if_eq (tgt := 36) C dX11_span_22 (by decide) (fun q => ?_) (fun q => ?_)
      · have h := bq_t q h
        refine aw_sub (lv' := []) [] rfl ?_
        exact T_X11_span_36 C hE s8 h
      · have h := bq_f q h
        refine aw_iload C 4 dX11_span_25 rfl ?_
        refine aw_if_lt (tgt := 36) C dX11_span_27 (by decide) (fun q => ?_) (fun q => ?_)
        · have h := bq_t q h
          refine aw_sub (lv' := []) [] rfl ?_
          exact T_X11_span_36 C hE s8 h
        · have h := bq_f q h
          refine aw_iload C 4 dX11_span_30 rfl ?_
          refine aw_iconst (v := 2) C dX11_span_32 (by decide) ?_
          refine aw_icmp_le (tgt := 38) C dX11_span_33 (by decide) (fun q => ?_) (fun q => ?_)
          · have h := bq_t q h
            refine aw_aload_n C 0 dX11_span_38 rfl ?_
            refine cg_aw_census C lw_2_10 dX11_span_39 ?_
            refine aw_iload_n C 3 dX11_span_42 rfl ?_
            obtain ⟨s11, cw12, h⟩ := oC_e h
            have h := oL_e (x := s11) rfl h
            refine aw_callVv (n := 1) (As := [.int x3]) (rest := []) (q0 := 6) C (c_X0_take l D N s8 s11 x3 cw12) lw_27_9 lw_27_10 lw_27_11 lw_1_21 lw_27_12 rfl rfl (by decide +kernel) ⟨Nat.le_of_ble_eq_true rfl, Nat.le_of_ble_eq_true rfl⟩ rfl rfl rfl rfl rfl (Nat.le_of_ble_eq_true rfl) dX11_span_43 ?_
            refine aw_iload C 4 dX11_span_46 rfl ?_
            refine aw_iconst (v := 2) C dX11_span_48 (by decide) ?_
            refine aw_icmp_ne (tgt := 64) C dX11_span_49 (by decide) (fun q => ?_) (fun q => ?_)
            · have h := bq_f q h
              refine aw_aload_n C 0 dX11_span_64 rfl ?_
              refine cg_aw_census C lw_2_10 dX11_span_65 ?_
              refine cg_ce_least C lw_27_4 dX11_span_68 ?_
              refine aw_iload_n C 2 dX11_span_71 rfl ?_
              obtain ⟨q13, h⟩ := oA_e h
              refine ca_rald (k := 19) C (by decide) rfl q13 dX11_span_72 ?_
              refine aw_iload_n C 1 dX11_span_73 rfl ?_
              obtain ⟨q15a, q15b, q15, h⟩ := oX_e h
              refine ca_iald (k := (20 + Int32.toNatClampNeg x2)) C q15a q15b q15 dX11_span_74 ?_
              refine aw_topi (fun y16 ey16 => ?_)
              have h := oL_e ey16 h
              refine aw_istore (lv' := [(0, .ref (N.1 0)), (1, .int x1), (2, .int x2), (3, .int x3), (4, .int x4), (5, .int y16)]) C [1, 2, 3, 4, 5, 0] dX11_span_75 (by decide) rfl ?_
              refine aw_aload_n C 0 dX11_span_77 rfl ?_
              refine cg_aw_census C lw_2_10 dX11_span_78 ?_
              refine cg_ce_greatest C lw_27_5 dX11_span_81 ?_
              refine aw_iload_n C 2 dX11_span_84 rfl ?_
              obtain ⟨q17, h⟩ := oA_e h
              refine ca_rald (k := 22) C (by decide) rfl q17 dX11_span_85 ?_
              refine aw_iload_n C 1 dX11_span_86 rfl ?_
              obtain ⟨q19a, q19b, q19, h⟩ := oX_e h
              refine ca_iald (k := (23 + Int32.toNatClampNeg x2)) C q19a q19b q19 dX11_span_87 ?_
              refine aw_topi (fun y20 ey20 => ?_)
              have h := oL_e ey20 h
              refine aw_istore (lv' := [(0, .ref (N.1 0)), (1, .int x1), (2, .int x2), (3, .int x3), (4, .int x4), (5, .int y16), (6, .int y20)]) C [1, 2, 3, 4, 5, 6, 0] dX11_span_88 (by decide) rfl ?_
              refine aw_iload C 5 dX11_span_90 rfl ?_
              refine aw_iload C 6 dX11_span_92 rfl ?_
              refine aw_icmp_le (tgt := 100) C dX11_span_94 (by decide) (fun q => ?_) (fun q => ?_)
              · have h := bq_t q h
                refine aw_iload C 4 dX11_span_100 rfl ?_
                refine aw_if_ne (tgt := 110) C dX11_span_102 (by decide) (fun q => ?_) (fun q => ?_)
                · have h := bq_f q h
                  refine aw_iload C 6 dX11_span_110 rfl ?_
                  refine aw_sub (lv' := []) [] rfl ?_
                  exact T_X11_span_112 C hE s11 y20 h
                · have h := bq_t q h
                  refine aw_iload C 5 dX11_span_105 rfl ?_
                  refine aw_goto (tgt := 112) C dX11_span_107 (by decide) ?_
                  refine aw_sub (lv' := []) [] rfl ?_
                  exact T_X11_span_112 C hE s11 y16 h
              · have h := bq_f q h
                refine aw_bipush (v := -2) C dX11_span_97 (by decide) ?_
                cases h
                exact aw_ret hE dX11_span_99
            · have h := bq_t q h
              refine aw_aload_n C 0 dX11_span_52 rfl ?_
              refine cg_aw_census C lw_2_10 dX11_span_53 ?_
              refine cg_ce_people C lw_27_3 dX11_span_56 ?_
              refine aw_iload_n C 2 dX11_span_59 rfl ?_
              obtain ⟨q21, h⟩ := oA_e h
              refine ca_rald (k := 25) C (by decide) rfl q21 dX11_span_60 ?_
              refine aw_iload_n C 1 dX11_span_61 rfl ?_
              obtain ⟨q23a, q23b, q23, h⟩ := oX_e h
              refine ca_iald (k := (26 + Int32.toNatClampNeg x2)) C q23a q23b q23 dX11_span_62 ?_
              cases h
              exact aw_ret hE dX11_span_63
          · have h := bq_f q h
            refine aw_sub (lv' := []) [] rfl ?_
            exact T_X11_span_36 C hE s8 h
def f_X11_span (s0 : St) (x1 : Int32) (x2 : Int32) (x3 : Int32) (x4 : Int32) : Option (Int32 × St) := F_X11_span_0 s0 x1 x2 x3 x4
theorem c_X11_span (l : Launch) (D : va_G) (N : Nm) (s0 z1 : St) (x1 : Int32) (x2 : Int32) (x3 : Int32) (x4 : Int32) (r : Int32) (h : f_X11_span s0 x1 x2 x3 x4 = some (r, z1)) : Meti l yX11_span (tsU yX11_span cX11_span 7 (some .int)) rm_X11_span D N [.ref (N.1 0), .int x1, .int x2, .int x3, .int x4] (wC N s0) r (wC N z1) :=
  met_i (cc := cX11_span) (nL := 7) (own := RX11) (by decide) rfl (Nat.le_of_ble_eq_true rfl) (fun p e s m args below meth c Q A C hE => aw_sub [0, 1, 2, 3, 4] rfl (T_X11_span_0 C hE s0 x1 x2 x3 x4 h))
/-! AwardLine.canal(I)I -/
def rm_X11_canal : Room := { frames := 1, cells := 0, slots := 0, locals := 21 }
def F_X11_canal_23 (s0 : St) (t0 : Int32) : Option (Int32 × St) :=
  some (t0, s0)
set_option maxHeartbeats 4000000 in
set_option maxRecDepth 100000 in
theorem T_X11_canal_23 {r : Int32} {z1 : St} (C : Cx p rm_X11_canal s m args c D A cX11_canal 2 RX11 rm_X11_canal N) (hE : En p l e rm_X11_canal s m args below meth c Q D A cX11_canal .ireturn (wC N z1) [.int r])  (s0 : St) (t0 : Int32) (h : F_X11_canal_23 s0 t0 = some (r, z1)) : Aw p l e rm_X11_canal s m args below meth c Q D A 2 (wC N s0) 23 [] [.int t0] := by
  unfold F_X11_canal_23 at h
  cases h
  exact aw_ret hE dX11_canal_23
def F_X11_canal_0 (s0 : St) (x1 : Int32) : Option (Int32 × St) :=
  oC (f_X4_has s0 x1) fun w3 =>
  oL w3.1 fun v1 => oL w3.2 fun s2 =>
  if v1 = 0 then (
    F_X11_canal_23 s2 (-1 : Int32))
  else (
    oC (f_X4_dig s2 x1) fun w6 =>
    oL w6.1 fun v4 => oL w6.2 fun s5 =>
    F_X11_canal_23 s5 v4)
set_option maxHeartbeats 4000000 in
set_option maxRecDepth 100000 in
theorem T_X11_canal_0 {r : Int32} {z1 : St} (C : Cx p rm_X11_canal s m args c D A cX11_canal 2 RX11 rm_X11_canal N) (hE : En p l e rm_X11_canal s m args below meth c Q D A cX11_canal .ireturn (wC N z1) [.int r])  (s0 : St) (x1 : Int32) (h : F_X11_canal_0 s0 x1 = some (r, z1)) : Aw p l e rm_X11_canal s m args below meth c Q D A 2 (wC N s0) 0 [(0, .ref (N.1 0)), (1, .int x1)] [] := by
  unfold F_X11_canal_0 at h
  refine aw_aload_n C 0 dX11_canal_0 rfl ?_
  refine cg_aw_land C lw_2_8 dX11_canal_1 ?_
  refine aw_iload_n C 1 dX11_canal_4 rfl ?_
  obtain ⟨⟨v1, s2⟩, cw3, h⟩ := oC_e h
  have h := oL_e (x := s2) rfl (oL_e (x := v1) rfl h)
  refine aw_callVi (n := 1) (As := [.int x1]) (rest := []) (q0 := 4) C (c_X4_has l D N s0 s2 x1 v1 cw3) lw_23_4 lw_23_5 lw_23_6 lw_1_15 lw_23_7 rfl rfl (by decide +kernel) ⟨Nat.le_of_ble_eq_true rfl, Nat.le_of_ble_eq_true rfl⟩ rfl rfl rfl rfl rfl (Nat.le_of_ble_eq_true rfl) dX11_canal_5 ?_
  refine aw_if_eq (tgt := 22) C dX11_canal_8 (by decide) (fun q => ?_) (fun q => ?_)
  · have h := bq_t q h
    refine aw_iconst (v := -1) C dX11_canal_22 (by decide) ?_
    refine aw_sub (lv' := []) [] rfl ?_
    exact T_X11_canal_23 C hE s2 (-1 : Int32) h
  · have h := bq_f q h
    refine aw_aload_n C 0 dX11_canal_11 rfl ?_
    refine cg_aw_land C lw_2_8 dX11_canal_12 ?_
    refine aw_iload_n C 1 dX11_canal_15 rfl ?_
    obtain ⟨⟨v4, s5⟩, cw6, h⟩ := oC_e h
    have h := oL_e (x := s5) rfl (oL_e (x := v4) rfl h)
    refine aw_callVi (n := 1) (As := [.int x1]) (rest := []) (q0 := 4) C (c_X4_dig l D N s2 s5 x1 v4 cw6) lw_29_21 lw_29_22 lw_29_23 lw_1_15 lw_30_0 rfl rfl (by decide +kernel) ⟨Nat.le_of_ble_eq_true rfl, Nat.le_of_ble_eq_true rfl⟩ rfl rfl rfl rfl rfl (Nat.le_of_ble_eq_true rfl) dX11_canal_16 ?_
    refine aw_goto (tgt := 23) C dX11_canal_19 (by decide) ?_
    refine aw_sub (lv' := []) [] rfl ?_
    exact T_X11_canal_23 C hE s5 v4 h
def f_X11_canal (s0 : St) (x1 : Int32) : Option (Int32 × St) := F_X11_canal_0 s0 x1
theorem c_X11_canal (l : Launch) (D : va_G) (N : Nm) (s0 z1 : St) (x1 : Int32) (r : Int32) (h : f_X11_canal s0 x1 = some (r, z1)) : Meti l yX11_canal (tsU yX11_canal cX11_canal 2 (some .int)) rm_X11_canal D N [.ref (N.1 0), .int x1] (wC N s0) r (wC N z1) :=
  met_i (cc := cX11_canal) (nL := 2) (own := RX11) (by decide) rfl (Nat.le_of_ble_eq_true rfl) (fun p e s m args below meth c Q A C hE => aw_sub [0, 1] rfl (T_X11_canal_0 C hE s0 x1 h))
/-! AwardLine.drinks(II)I -/
def rm_X11_drinks : Room := { frames := 2, cells := 0, slots := 0, locals := 43 }
def F_X11_drinks_26 (s0 : St) : Option (Int32 × St) :=
  some ((-1 : Int32), s0)
set_option maxHeartbeats 4000000 in
set_option maxRecDepth 100000 in
theorem T_X11_drinks_26 {r : Int32} {z1 : St} (C : Cx p rm_X11_drinks s m args c D A cX11_drinks 3 RX11 rm_X11_drinks N) (hE : En p l e rm_X11_drinks s m args below meth c Q D A cX11_drinks .ireturn (wC N z1) [.int r])  (s0 : St) (h : F_X11_drinks_26 s0 = some (r, z1)) : Aw p l e rm_X11_drinks s m args below meth c Q D A 3 (wC N s0) 26 [] [] := by
  unfold F_X11_drinks_26 at h
  refine aw_iconst (v := -1) C dX11_drinks_26 (by decide) ?_
  cases h
  exact aw_ret hE dX11_drinks_27
def F_X11_drinks_0 (s0 : St) (x1 : Int32) (x2 : Int32) : Option (Int32 × St) :=
  if x1 < 0 then (
    F_X11_drinks_26 s0)
  else (
    if (s0.1 25) ≤ x1 then (
      F_X11_drinks_26 s0)
    else (
      oC (f_X4_has s0 x2) fun w3 =>
      oL w3.1 fun v1 => oL w3.2 fun s2 =>
      if v1 = 0 then (
        F_X11_drinks_26 s2)
      else (
        oC (f_X4_lead s2 x1 x2) fun w6 =>
        oL w6.1 fun v4 => oL w6.2 fun s5 =>
        some (v4, s5))))
set_option maxHeartbeats 4000000 in
set_option maxRecDepth 100000 in
theorem T_X11_drinks_0 {r : Int32} {z1 : St} (C : Cx p rm_X11_drinks s m args c D A cX11_drinks 3 RX11 rm_X11_drinks N) (hE : En p l e rm_X11_drinks s m args below meth c Q D A cX11_drinks .ireturn (wC N z1) [.int r])  (s0 : St) (x1 : Int32) (x2 : Int32) (h : F_X11_drinks_0 s0 x1 x2 = some (r, z1)) : Aw p l e rm_X11_drinks s m args below meth c Q D A 3 (wC N s0) 0 [(0, .ref (N.1 0)), (1, .int x1), (2, .int x2)] [] := by
  unfold F_X11_drinks_0 at h
  refine aw_iload_n C 1 dX11_drinks_0 rfl ?_
  refine aw_if_lt (tgt := 26) C dX11_drinks_1 (by decide) (fun q => ?_) (fun q => ?_)
  · have h := bq_t q h
    refine aw_sub (lv' := []) [] rfl ?_
    exact T_X11_drinks_26 C hE s0 h
  · have h := bq_f q h
    refine aw_iload_n C 1 dX11_drinks_4 rfl ?_
    refine aw_aload_n C 0 dX11_drinks_5 rfl ?_
    refine cg_aw_land C lw_2_8 dX11_drinks_6 ?_
    refine cg_ln_canals C lw_30_9 dX11_drinks_9 ?_
    refine aw_icmp_ge (tgt := 26) C dX11_drinks_12 (by decide) (fun q => ?_) (fun q => ?_)
    · have h := bq_t q h
      refine aw_sub (lv' := []) [] rfl ?_
      exact T_X11_drinks_26 C hE s0 h
    · have h := bq_f q h
      refine aw_aload_n C 0 dX11_drinks_15 rfl ?_
      refine cg_aw_land C lw_2_8 dX11_drinks_16 ?_
      refine aw_iload_n C 2 dX11_drinks_19 rfl ?_
      obtain ⟨⟨v1, s2⟩, cw3, h⟩ := oC_e h
      have h := oL_e (x := s2) rfl (oL_e (x := v1) rfl h)
      refine aw_callVi (n := 1) (As := [.int x2]) (rest := []) (q0 := 4) C (c_X4_has l D N s0 s2 x2 v1 cw3) lw_23_4 lw_23_5 lw_23_6 lw_1_15 lw_23_7 rfl rfl (by decide +kernel) ⟨Nat.le_of_ble_eq_true rfl, Nat.le_of_ble_eq_true rfl⟩ rfl rfl rfl rfl rfl (Nat.le_of_ble_eq_true rfl) dX11_drinks_20 ?_
      refine aw_if_ne (tgt := 28) C dX11_drinks_23 (by decide) (fun q => ?_) (fun q => ?_)
      · have h := bq_f q h
        refine aw_aload_n C 0 dX11_drinks_28 rfl ?_
        refine cg_aw_land C lw_2_8 dX11_drinks_29 ?_
        refine aw_iload_n C 1 dX11_drinks_32 rfl ?_
        refine aw_iload_n C 2 dX11_drinks_33 rfl ?_
        obtain ⟨⟨v4, s5⟩, cw6, h⟩ := oC_e h
        have h := oL_e (x := s5) rfl (oL_e (x := v4) rfl h)
        refine aw_callVi (n := 2) (As := [.int x1, .int x2]) (rest := []) (q0 := 4) C (c_X4_lead l D N s2 s5 x1 x2 v4 cw6) lw_30_10 lw_30_11 lw_30_12 lw_1_15 lw_30_13 rfl rfl (by decide +kernel) ⟨Nat.le_of_ble_eq_true rfl, Nat.le_of_ble_eq_true rfl⟩ rfl rfl rfl rfl rfl (Nat.le_of_ble_eq_true rfl) dX11_drinks_34 ?_
        cases h
        exact aw_ret hE dX11_drinks_37
      · have h := bq_t q h
        refine aw_sub (lv' := []) [] rfl ?_
        exact T_X11_drinks_26 C hE s2 h
def f_X11_drinks (s0 : St) (x1 : Int32) (x2 : Int32) : Option (Int32 × St) := F_X11_drinks_0 s0 x1 x2
theorem c_X11_drinks (l : Launch) (D : va_G) (N : Nm) (s0 z1 : St) (x1 : Int32) (x2 : Int32) (r : Int32) (h : f_X11_drinks s0 x1 x2 = some (r, z1)) : Meti l yX11_drinks (tsU yX11_drinks cX11_drinks 3 (some .int)) rm_X11_drinks D N [.ref (N.1 0), .int x1, .int x2] (wC N s0) r (wC N z1) :=
  met_i (cc := cX11_drinks) (nL := 3) (own := RX11) (by decide) rfl (Nat.le_of_ble_eq_true rfl) (fun p e s m args below meth c Q A C hE => aw_sub [0, 1, 2] rfl (T_X11_drinks_0 C hE s0 x1 x2 h))
/-! AwardLine.given(I)I -/
def rm_X11_given : Room := { frames := 5, cells := 0, slots := 0, locals := 117 }
def F_X11_given_0 (s0 : St) (x1 : Int32) : Option (Int32 × St) :=
  oC (f_X11_isDay s0 x1) fun w3 =>
  oL w3.1 fun v1 => oL w3.2 fun s2 =>
  if v1 = 0 then (
    some ((-1 : Int32), s2))
  else (
    oC (f_X0_take s2 x1) fun w6 =>
    oL w6 fun s5 =>
    oC (f_X3_award s5 (s5.1 13)) fun w9 =>
    oL w9.1 fun v7 => oL w9.2 fun s8 =>
    some (v7, s8))
set_option maxHeartbeats 4000000 in
set_option maxRecDepth 100000 in
theorem T_X11_given_0 {r : Int32} {z1 : St} (C : Cx p rm_X11_given s m args c D A cX11_given 2 RX11 rm_X11_given N) (hE : En p l e rm_X11_given s m args below meth c Q D A cX11_given .ireturn (wC N z1) [.int r])  (s0 : St) (x1 : Int32) (h : F_X11_given_0 s0 x1 = some (r, z1)) : Aw p l e rm_X11_given s m args below meth c Q D A 2 (wC N s0) 0 [(0, .ref (N.1 0)), (1, .int x1)] [] := by
  unfold F_X11_given_0 at h
  refine aw_iload_n C 1 dX11_given_0 rfl ?_
  obtain ⟨⟨v1, s2⟩, cw3, h⟩ := oC_e h
  have h := oL_e (x := s2) rfl (oL_e (x := v1) rfl h)
  refine aw_callSi (n := 1) (As := [.int x1]) (rest := []) C (c_X11_isDay l D N s0 s2 x1 v1 cw3) lw_27_6 lw_27_7 lw_1_2 lw_27_8 rfl rfl (by decide +kernel) ⟨Nat.le_of_ble_eq_true rfl, Nat.le_of_ble_eq_true rfl⟩ rfl rfl (Nat.le_of_ble_eq_true rfl) dX11_given_1 ?_
  refine aw_if_ne (tgt := 9) C dX11_given_4 (by decide) (fun q => ?_) (fun q => ?_)
  · have h := bq_f q h
    refine aw_aload_n C 0 dX11_given_9 rfl ?_
    refine cg_aw_census C lw_2_10 dX11_given_10 ?_
    refine aw_iload_n C 1 dX11_given_13 rfl ?_
    obtain ⟨s5, cw6, h⟩ := oC_e h
    have h := oL_e (x := s5) rfl h
    refine aw_callVv (n := 1) (As := [.int x1]) (rest := []) (q0 := 6) C (c_X0_take l D N s2 s5 x1 cw6) lw_27_9 lw_27_10 lw_27_11 lw_1_21 lw_27_12 rfl rfl (by decide +kernel) ⟨Nat.le_of_ble_eq_true rfl, Nat.le_of_ble_eq_true rfl⟩ rfl rfl rfl rfl rfl (Nat.le_of_ble_eq_true rfl) dX11_given_14 ?_
    refine aw_aload_n C 0 dX11_given_17 rfl ?_
    refine cg_aw_judge C lw_2_18 dX11_given_18 ?_
    refine aw_aload_n C 0 dX11_given_21 rfl ?_
    refine cg_aw_terms C lw_2_6 dX11_given_22 ?_
    refine aw_aload_n C 0 dX11_given_25 rfl ?_
    refine cg_aw_terms C lw_2_6 dX11_given_26 ?_
    refine cg_tc_unit C lw_31_5 dX11_given_29 ?_
    obtain ⟨⟨v7, s8⟩, cw9, h⟩ := oC_e h
    have h := oL_e (x := s8) rfl (oL_e (x := v7) rfl h)
    refine aw_callVi (n := 2) (As := [.ref (N.1 2), .int (s5.1 13)]) (rest := []) (q0 := 8) C (c_X3_award l D N s5 s8 (s5.1 13) v7 cw9) lw_31_6 lw_31_7 lw_31_8 lw_2_17 lw_31_9 rfl rfl (by decide +kernel) ⟨Nat.le_of_ble_eq_true rfl, Nat.le_of_ble_eq_true rfl⟩ rfl rfl rfl rfl rfl (Nat.le_of_ble_eq_true rfl) dX11_given_32 ?_
    cases h
    exact aw_ret hE dX11_given_35
  · have h := bq_t q h
    refine aw_iconst (v := -1) C dX11_given_7 (by decide) ?_
    cases h
    exact aw_ret hE dX11_given_8
def f_X11_given (s0 : St) (x1 : Int32) : Option (Int32 × St) := F_X11_given_0 s0 x1
theorem c_X11_given (l : Launch) (D : va_G) (N : Nm) (s0 z1 : St) (x1 : Int32) (r : Int32) (h : f_X11_given s0 x1 = some (r, z1)) : Meti l yX11_given (tsU yX11_given cX11_given 2 (some .int)) rm_X11_given D N [.ref (N.1 0), .int x1] (wC N s0) r (wC N z1) :=
  met_i (cc := cX11_given) (nL := 2) (own := RX11) (by decide) rfl (Nat.le_of_ble_eq_true rfl) (fun p e s m args below meth c Q A C hE => aw_sub [0, 1] rfl (T_X11_given_0 C hE s0 x1 h))
/-! AwardLine.turned(II)I -/
def rm_X11_turned : Room := { frames := 5, cells := 0, slots := 0, locals := 117 }
def F_X11_turned_16 (s0 : St) : Option (Int32 × St) :=
  some ((-1 : Int32), s0)
set_option maxHeartbeats 4000000 in
set_option maxRecDepth 100000 in
theorem T_X11_turned_16 {r : Int32} {z1 : St} (C : Cx p rm_X11_turned s m args c D A cX11_turned 3 RX11 rm_X11_turned N) (hE : En p l e rm_X11_turned s m args below meth c Q D A cX11_turned .ireturn (wC N z1) [.int r])  (s0 : St) (h : F_X11_turned_16 s0 = some (r, z1)) : Aw p l e rm_X11_turned s m args below meth c Q D A 3 (wC N s0) 16 [] [] := by
  unfold F_X11_turned_16 at h
  refine aw_iconst (v := -1) C dX11_turned_16 (by decide) ?_
  cases h
  exact aw_ret hE dX11_turned_17
def F_X11_turned_0 (s0 : St) (x1 : Int32) (x2 : Int32) : Option (Int32 × St) :=
  if x1 < 0 then (
    F_X11_turned_16 s0)
  else (
    if (2 : Int32) < x1 then (
      F_X11_turned_16 s0)
    else (
      oC (f_X11_isDay s0 x2) fun w3 =>
      oL w3.1 fun v1 => oL w3.2 fun s2 =>
      if v1 = 0 then (
        F_X11_turned_16 s2)
      else (
        oC (f_X0_take s2 x2) fun w6 =>
        oL w6 fun s5 =>
        oC (f_X3_award s5 x1) fun w9 =>
        oL w9.1 fun v7 => oL w9.2 fun s8 =>
        oC (f_X3_award s8 (s8.1 13)) fun w12 =>
        oL w12.1 fun v10 => oL w12.2 fun s11 =>
        oC (f_J6_bitCount_0f7a4 s11 (v7 ^^^ v10)) fun w15 =>
        oL w15.1 fun v13 => oL w15.2 fun s14 =>
        some (v13, s14))))
set_option maxHeartbeats 4000000 in
set_option maxRecDepth 100000 in
theorem T_X11_turned_0 {r : Int32} {z1 : St} (C : Cx p rm_X11_turned s m args c D A cX11_turned 3 RX11 rm_X11_turned N) (hE : En p l e rm_X11_turned s m args below meth c Q D A cX11_turned .ireturn (wC N z1) [.int r])  (s0 : St) (x1 : Int32) (x2 : Int32) (h : F_X11_turned_0 s0 x1 x2 = some (r, z1)) : Aw p l e rm_X11_turned s m args below meth c Q D A 3 (wC N s0) 0 [(0, .ref (N.1 0)), (1, .int x1), (2, .int x2)] [] := by
  unfold F_X11_turned_0 at h
  refine aw_iload_n C 1 dX11_turned_0 rfl ?_
  refine aw_if_lt (tgt := 16) C dX11_turned_1 (by decide) (fun q => ?_) (fun q => ?_)
  · have h := bq_t q h
    refine aw_sub (lv' := []) [] rfl ?_
    exact T_X11_turned_16 C hE s0 h
  · have h := bq_f q h
    refine aw_iload_n C 1 dX11_turned_4 rfl ?_
    refine aw_iconst (v := 2) C dX11_turned_5 (by decide) ?_
    refine aw_icmp_gt (tgt := 16) C dX11_turned_6 (by decide) (fun q => ?_) (fun q => ?_)
    · have h := bq_t q h
      refine aw_sub (lv' := []) [] rfl ?_
      exact T_X11_turned_16 C hE s0 h
    · have h := bq_f q h
      refine aw_iload_n C 2 dX11_turned_9 rfl ?_
      obtain ⟨⟨v1, s2⟩, cw3, h⟩ := oC_e h
      have h := oL_e (x := s2) rfl (oL_e (x := v1) rfl h)
      refine aw_callSi (n := 1) (As := [.int x2]) (rest := []) C (c_X11_isDay l D N s0 s2 x2 v1 cw3) lw_27_6 lw_27_7 lw_1_2 lw_27_8 rfl rfl (by decide +kernel) ⟨Nat.le_of_ble_eq_true rfl, Nat.le_of_ble_eq_true rfl⟩ rfl rfl (Nat.le_of_ble_eq_true rfl) dX11_turned_10 ?_
      refine aw_if_ne (tgt := 18) C dX11_turned_13 (by decide) (fun q => ?_) (fun q => ?_)
      · have h := bq_f q h
        refine aw_aload_n C 0 dX11_turned_18 rfl ?_
        refine cg_aw_census C lw_2_10 dX11_turned_19 ?_
        refine aw_iload_n C 2 dX11_turned_22 rfl ?_
        obtain ⟨s5, cw6, h⟩ := oC_e h
        have h := oL_e (x := s5) rfl h
        refine aw_callVv (n := 1) (As := [.int x2]) (rest := []) (q0 := 6) C (c_X0_take l D N s2 s5 x2 cw6) lw_27_9 lw_27_10 lw_27_11 lw_1_21 lw_27_12 rfl rfl (by decide +kernel) ⟨Nat.le_of_ble_eq_true rfl, Nat.le_of_ble_eq_true rfl⟩ rfl rfl rfl rfl rfl (Nat.le_of_ble_eq_true rfl) dX11_turned_23 ?_
        refine aw_aload_n C 0 dX11_turned_26 rfl ?_
        refine cg_aw_judge C lw_2_18 dX11_turned_27 ?_
        refine aw_aload_n C 0 dX11_turned_30 rfl ?_
        refine cg_aw_terms C lw_2_6 dX11_turned_31 ?_
        refine aw_iload_n C 1 dX11_turned_34 rfl ?_
        obtain ⟨⟨v7, s8⟩, cw9, h⟩ := oC_e h
        have h := oL_e (x := s8) rfl (oL_e (x := v7) rfl h)
        refine aw_callVi (n := 2) (As := [.ref (N.1 2), .int x1]) (rest := []) (q0 := 8) C (c_X3_award l D N s5 s8 x1 v7 cw9) lw_31_6 lw_31_7 lw_31_8 lw_2_17 lw_31_9 rfl rfl (by decide +kernel) ⟨Nat.le_of_ble_eq_true rfl, Nat.le_of_ble_eq_true rfl⟩ rfl rfl rfl rfl rfl (Nat.le_of_ble_eq_true rfl) dX11_turned_35 ?_
        refine aw_aload_n C 0 dX11_turned_38 rfl ?_
        refine cg_aw_judge C lw_2_18 dX11_turned_39 ?_
        refine aw_aload_n C 0 dX11_turned_42 rfl ?_
        refine cg_aw_terms C lw_2_6 dX11_turned_43 ?_
        refine aw_aload_n C 0 dX11_turned_46 rfl ?_
        refine cg_aw_terms C lw_2_6 dX11_turned_47 ?_
        refine cg_tc_unit C lw_31_5 dX11_turned_50 ?_
        obtain ⟨⟨v10, s11⟩, cw12, h⟩ := oC_e h
        have h := oL_e (x := s11) rfl (oL_e (x := v10) rfl h)
        refine aw_callVi (n := 2) (As := [.ref (N.1 2), .int (s8.1 13)]) (rest := [.int v7]) (q0 := 8) C (c_X3_award l D N s8 s11 (s8.1 13) v10 cw12) lw_31_6 lw_31_7 lw_31_8 lw_2_17 lw_31_9 rfl rfl (by decide +kernel) ⟨Nat.le_of_ble_eq_true rfl, Nat.le_of_ble_eq_true rfl⟩ rfl rfl rfl rfl rfl (Nat.le_of_ble_eq_true rfl) dX11_turned_53 ?_
        refine aw_ixor C dX11_turned_56 ?_
        obtain ⟨⟨v13, s14⟩, cw15, h⟩ := oC_e h
        have h := oL_e (x := s14) rfl (oL_e (x := v13) rfl h)
        refine aw_callSi (n := 1) (As := [.int (v7 ^^^ v10)]) (rest := []) C (c_J6_bitCount_0f7a4 l D N s11 s14 (v7 ^^^ v10) v13 cw15) lw_35_9 lw_30_15 lw_30_16 lw_30_17 rfl rfl (by decide +kernel) ⟨Nat.le_of_ble_eq_true rfl, Nat.le_of_ble_eq_true rfl⟩ rfl rfl (Nat.le_of_ble_eq_true rfl) dX11_turned_57 ?_
        cases h
        exact aw_ret hE dX11_turned_60
      · have h := bq_t q h
        refine aw_sub (lv' := []) [] rfl ?_
        exact T_X11_turned_16 C hE s2 h
def f_X11_turned (s0 : St) (x1 : Int32) (x2 : Int32) : Option (Int32 × St) := F_X11_turned_0 s0 x1 x2
theorem c_X11_turned (l : Launch) (D : va_G) (N : Nm) (s0 z1 : St) (x1 : Int32) (x2 : Int32) (r : Int32) (h : f_X11_turned s0 x1 x2 = some (r, z1)) : Meti l yX11_turned (tsU yX11_turned cX11_turned 3 (some .int)) rm_X11_turned D N [.ref (N.1 0), .int x1, .int x2] (wC N s0) r (wC N z1) :=
  met_i (cc := cX11_turned) (nL := 3) (own := RX11) (by decide) rfl (Nat.le_of_ble_eq_true rfl) (fun p e s m args below meth c Q A C hE => aw_sub [0, 1, 2] rfl (T_X11_turned_0 C hE s0 x1 x2 h))
/-! AwardLine.draft(I)I -/
def rm_X11_draft : Room := { frames := 1, cells := 0, slots := 0, locals := 22 }
def F_X11_draft_27 (s0 : St) (t0 : Int32) : Option (Int32 × St) :=
  some (t0, s0)
set_option maxHeartbeats 4000000 in
set_option maxRecDepth 100000 in
theorem T_X11_draft_27 {r : Int32} {z1 : St} (C : Cx p rm_X11_draft s m args c D A cX11_draft 2 RX11 rm_X11_draft N) (hE : En p l e rm_X11_draft s m args below meth c Q D A cX11_draft .ireturn (wC N z1) [.int r])  (s0 : St) (t0 : Int32) (h : F_X11_draft_27 s0 t0 = some (r, z1)) : Aw p l e rm_X11_draft s m args below meth c Q D A 2 (wC N s0) 27 [] [.int t0] := by
  unfold F_X11_draft_27 at h
  cases h
  exact aw_ret hE dX11_draft_27
def F_X11_draft_0 (s0 : St) (x1 : Int32) : Option (Int32 × St) :=
  oC (f_X4_isLine s0 x1) fun w3 =>
  oL w3.1 fun v1 => oL w3.2 fun s2 =>
  if v1 = 0 then (
    F_X11_draft_27 s2 (-1 : Int32))
  else (
    oC (f_X1_add s2 x1 (s2.1 0)) fun w6 =>
    oL w6.1 fun v4 => oL w6.2 fun s5 =>
    F_X11_draft_27 s5 v4)
set_option maxHeartbeats 4000000 in
set_option maxRecDepth 100000 in
theorem T_X11_draft_0 {r : Int32} {z1 : St} (C : Cx p rm_X11_draft s m args c D A cX11_draft 2 RX11 rm_X11_draft N) (hE : En p l e rm_X11_draft s m args below meth c Q D A cX11_draft .ireturn (wC N z1) [.int r])  (s0 : St) (x1 : Int32) (h : F_X11_draft_0 s0 x1 = some (r, z1)) : Aw p l e rm_X11_draft s m args below meth c Q D A 2 (wC N s0) 0 [(0, .ref (N.1 0)), (1, .int x1)] [] := by
  unfold F_X11_draft_0 at h
  refine aw_aload_n C 0 dX11_draft_0 rfl ?_
  refine cg_aw_land C lw_2_8 dX11_draft_1 ?_
  refine aw_iload_n C 1 dX11_draft_4 rfl ?_
  obtain ⟨⟨v1, s2⟩, cw3, h⟩ := oC_e h
  have h := oL_e (x := s2) rfl (oL_e (x := v1) rfl h)
  refine aw_callVi (n := 1) (As := [.int x1]) (rest := []) (q0 := 4) C (c_X4_isLine l D N s0 s2 x1 v1 cw3) lw_35_21 lw_35_22 lw_35_23 lw_1_15 lw_36_0 rfl rfl (by decide +kernel) ⟨Nat.le_of_ble_eq_true rfl, Nat.le_of_ble_eq_true rfl⟩ rfl rfl rfl rfl rfl (Nat.le_of_ble_eq_true rfl) dX11_draft_5 ?_
  refine aw_if_eq (tgt := 26) C dX11_draft_8 (by decide) (fun q => ?_) (fun q => ?_)
  · have h := bq_t q h
    refine aw_iconst (v := -1) C dX11_draft_26 (by decide) ?_
    refine aw_sub (lv' := []) [] rfl ?_
    exact T_X11_draft_27 C hE s2 (-1 : Int32) h
  · have h := bq_f q h
    refine aw_aload_n C 0 dX11_draft_11 rfl ?_
    refine cg_aw_drafts C lw_2_14 dX11_draft_12 ?_
    refine aw_iload_n C 1 dX11_draft_15 rfl ?_
    refine aw_aload_n C 0 dX11_draft_16 rfl ?_
    refine cg_aw_today C lw_1_22 dX11_draft_17 ?_
    obtain ⟨⟨v4, s5⟩, cw6, h⟩ := oC_e h
    have h := oL_e (x := s5) rfl (oL_e (x := v4) rfl h)
    refine aw_callVi (n := 2) (As := [.int x1, .int (s2.1 0)]) (rest := []) (q0 := 7) C (c_X1_add l D N s2 s5 x1 (s2.1 0) v4 cw6) lw_36_1 lw_36_2 lw_36_3 lw_2_13 lw_36_4 rfl rfl (by decide +kernel) ⟨Nat.le_of_ble_eq_true rfl, Nat.le_of_ble_eq_true rfl⟩ rfl rfl rfl rfl rfl (Nat.le_of_ble_eq_true rfl) dX11_draft_20 ?_
    refine aw_goto (tgt := 27) C dX11_draft_23 (by decide) ?_
    refine aw_sub (lv' := []) [] rfl ?_
    exact T_X11_draft_27 C hE s5 v4 h
def f_X11_draft (s0 : St) (x1 : Int32) : Option (Int32 × St) := F_X11_draft_0 s0 x1
theorem c_X11_draft (l : Launch) (D : va_G) (N : Nm) (s0 z1 : St) (x1 : Int32) (r : Int32) (h : f_X11_draft s0 x1 = some (r, z1)) : Meti l yX11_draft (tsU yX11_draft cX11_draft 2 (some .int)) rm_X11_draft D N [.ref (N.1 0), .int x1] (wC N s0) r (wC N z1) :=
  met_i (cc := cX11_draft) (nL := 2) (own := RX11) (by decide) rfl (Nat.le_of_ble_eq_true rfl) (fun p e s m args below meth c Q A C hE => aw_sub [0, 1] rfl (T_X11_draft_0 C hE s0 x1 h))
/-! AwardLine.does(III)I -/
def rm_X11_does : Room := { frames := 4, cells := 0, slots := 0, locals := 91 }
def F_X11_does_18 (s0 : St) : Option (Int32 × St) :=
  some ((-1 : Int32), s0)
set_option maxHeartbeats 4000000 in
set_option maxRecDepth 100000 in
theorem T_X11_does_18 {r : Int32} {z1 : St} (C : Cx p rm_X11_does s m args c D A cX11_does 4 RX11 rm_X11_does N) (hE : En p l e rm_X11_does s m args below meth c Q D A cX11_does .ireturn (wC N z1) [.int r])  (s0 : St) (h : F_X11_does_18 s0 = some (r, z1)) : Aw p l e rm_X11_does s m args below meth c Q D A 4 (wC N s0) 18 [] [] := by
  unfold F_X11_does_18 at h
  refine aw_iconst (v := -1) C dX11_does_18 (by decide) ?_
  cases h
  exact aw_ret hE dX11_does_19
def F_X11_does_0 (s0 : St) (x1 : Int32) (x2 : Int32) (x3 : Int32) : Option (Int32 × St) :=
  oC (f_X4_isLine s0 x1) fun w3 =>
  oL w3.1 fun v1 => oL w3.2 fun s2 =>
  if v1 = 0 then (
    F_X11_does_18 s2)
  else (
    oC (f_X11_isDay s2 x2) fun w6 =>
    oL w6.1 fun v4 => oL w6.2 fun s5 =>
    if v4 = 0 then (
      F_X11_does_18 s5)
    else (
      oC (f_X0_take s5 x2) fun w9 =>
      oL w9 fun s8 =>
      if x3 = 0 then (
        oC (f_X10_wrong s8 x1) fun w12 =>
        oL w12.1 fun v10 => oL w12.2 fun s11 =>
        some (v10, s11))
      else (
      if x3 = 1 then (
        oC (f_X4_pieces s8 x1) fun w15 =>
        oL w15.1 fun v13 => oL w15.2 fun s14 =>
        some (v13, s14))
      else (
      if x3 = 2 then (
        oC (f_X4_pieces s8 ((s8.1 22) &&& (x1 ^^^ (-1 : Int32)))) fun w18 =>
        oL w18.1 fun v16 => oL w18.2 fun s17 =>
        some (v16, s17))
      else (
      if x3 = 3 then (
        oC (f_X4_cut s8 x1) fun w21 =>
        oL w21.1 fun v19 => oL w21.2 fun s20 =>
        some (v19, s20))
      else (
      if x3 = 4 then (
        oC (f_X4_severed s8 x1) fun w24 =>
        oL w24.1 fun v22 => oL w24.2 fun s23 =>
        some (v22, s23))
      else (
      if x3 = 5 then (
        oC (f_X4_desecrated s8 x1) fun w27 =>
        oL w27.1 fun v25 => oL w27.2 fun s26 =>
        some (v25, s26))
      else (
      if x3 = 6 then (
        oC (f_X10_harm s8 x1) fun w30 =>
        oL w30.1 fun v28 => oL w30.2 fun s29 =>
        some (v28, s29))
      else (
        some ((-1 : Int32), s8))))))))))
set_option maxHeartbeats 4000000 in
set_option maxRecDepth 100000 in
theorem T_X11_does_0 {r : Int32} {z1 : St} (C : Cx p rm_X11_does s m args c D A cX11_does 4 RX11 rm_X11_does N) (hE : En p l e rm_X11_does s m args below meth c Q D A cX11_does .ireturn (wC N z1) [.int r])  (s0 : St) (x1 : Int32) (x2 : Int32) (x3 : Int32) (h : F_X11_does_0 s0 x1 x2 x3 = some (r, z1)) : Aw p l e rm_X11_does s m args below meth c Q D A 4 (wC N s0) 0 [(0, .ref (N.1 0)), (1, .int x1), (2, .int x2), (3, .int x3)] [] := by
  unfold F_X11_does_0 at h
  refine aw_aload_n C 0 dX11_does_0 rfl ?_
  refine cg_aw_land C lw_2_8 dX11_does_1 ?_
  refine aw_iload_n C 1 dX11_does_4 rfl ?_
  obtain ⟨⟨v1, s2⟩, cw3, h⟩ := oC_e h
  have h := oL_e (x := s2) rfl (oL_e (x := v1) rfl h)
  refine aw_callVi (n := 1) (As := [.int x1]) (rest := []) (q0 := 4) C (c_X4_isLine l D N s0 s2 x1 v1 cw3) lw_35_21 lw_35_22 lw_35_23 lw_1_15 lw_36_0 rfl rfl (by decide +kernel) ⟨Nat.le_of_ble_eq_true rfl, Nat.le_of_ble_eq_true rfl⟩ rfl rfl rfl rfl rfl (Nat.le_of_ble_eq_true rfl) dX11_does_5 ?_
  refine aw_if_eq (tgt := 18) C dX11_does_8 (by decide) (fun q => ?_) (fun q => ?_)
  · have h := bq_t q h
    refine aw_sub (lv' := []) [] rfl ?_
    exact T_X11_does_18 C hE s2 h
  · have h := bq_f q h
    refine aw_iload_n C 2 dX11_does_11 rfl ?_
    obtain ⟨⟨v4, s5⟩, cw6, h⟩ := oC_e h
    have h := oL_e (x := s5) rfl (oL_e (x := v4) rfl h)
    refine aw_callSi (n := 1) (As := [.int x2]) (rest := []) C (c_X11_isDay l D N s2 s5 x2 v4 cw6) lw_27_6 lw_27_7 lw_1_2 lw_27_8 rfl rfl (by decide +kernel) ⟨Nat.le_of_ble_eq_true rfl, Nat.le_of_ble_eq_true rfl⟩ rfl rfl (Nat.le_of_ble_eq_true rfl) dX11_does_12 ?_
    refine aw_if_ne (tgt := 20) C dX11_does_15 (by decide) (fun q => ?_) (fun q => ?_)
    · have h := bq_f q h
      refine aw_aload_n C 0 dX11_does_20 rfl ?_
      refine cg_aw_census C lw_2_10 dX11_does_21 ?_
      refine aw_iload_n C 2 dX11_does_24 rfl ?_
      obtain ⟨s8, cw9, h⟩ := oC_e h
      have h := oL_e (x := s8) rfl h
      refine aw_callVv (n := 1) (As := [.int x2]) (rest := []) (q0 := 6) C (c_X0_take l D N s5 s8 x2 cw9) lw_27_9 lw_27_10 lw_27_11 lw_1_21 lw_27_12 rfl rfl (by decide +kernel) ⟨Nat.le_of_ble_eq_true rfl, Nat.le_of_ble_eq_true rfl⟩ rfl rfl rfl rfl rfl (Nat.le_of_ble_eq_true rfl) dX11_does_25 ?_
      refine aw_iload_n C 3 dX11_does_28 rfl ?_
      by_cases q0 : x3 = (0 : Int32)
      · have h := bq_t q0 h
        refine aw_table (tgt := 72) C 43 dX11_does_29 (by rw [q0]; decide) (by rw [q0]; decide) (by rw [q0]; decide) (by decide) ?_
        refine aw_aload_n C 0 dX11_does_72 rfl ?_
        refine cg_aw_toll C lw_2_22 dX11_does_73 ?_
        refine aw_iload_n C 1 dX11_does_76 rfl ?_
        obtain ⟨⟨v10, s11⟩, cw12, h⟩ := oC_e h
        have h := oL_e (x := s11) rfl (oL_e (x := v10) rfl h)
        refine aw_callVi (n := 1) (As := [.int x1]) (rest := []) (q0 := 9) C (c_X10_wrong l D N s8 s11 x1 v10 cw12) lw_37_17 lw_37_18 lw_37_19 lw_2_21 lw_37_20 rfl rfl (by decide +kernel) ⟨Nat.le_of_ble_eq_true rfl, Nat.le_of_ble_eq_true rfl⟩ rfl rfl rfl rfl rfl (Nat.le_of_ble_eq_true rfl) dX11_does_77 ?_
        cases h
        exact aw_ret hE dX11_does_80
      have h := bq_f q0 h
      by_cases q1 : x3 = (1 : Int32)
      · have h := bq_t q1 h
        refine aw_table (tgt := 81) C 52 dX11_does_29 (by rw [q1]; decide) (by rw [q1]; decide) (by rw [q1]; decide) (by decide) ?_
        refine aw_aload_n C 0 dX11_does_81 rfl ?_
        refine cg_aw_land C lw_2_8 dX11_does_82 ?_
        refine aw_iload_n C 1 dX11_does_85 rfl ?_
        obtain ⟨⟨v13, s14⟩, cw15, h⟩ := oC_e h
        have h := oL_e (x := s14) rfl (oL_e (x := v13) rfl h)
        refine aw_callVi (n := 1) (As := [.int x1]) (rest := []) (q0 := 4) C (c_X4_pieces l D N s8 s14 x1 v13 cw15) lw_37_23 lw_38_0 lw_38_1 lw_1_15 lw_38_2 rfl rfl (by decide +kernel) ⟨Nat.le_of_ble_eq_true rfl, Nat.le_of_ble_eq_true rfl⟩ rfl rfl rfl rfl rfl (Nat.le_of_ble_eq_true rfl) dX11_does_86 ?_
        cases h
        exact aw_ret hE dX11_does_89
      have h := bq_f q1 h
      by_cases q2 : x3 = (2 : Int32)
      · have h := bq_t q2 h
        refine aw_table (tgt := 90) C 61 dX11_does_29 (by rw [q2]; decide) (by rw [q2]; decide) (by rw [q2]; decide) (by decide) ?_
        refine aw_aload_n C 0 dX11_does_90 rfl ?_
        refine cg_aw_land C lw_2_8 dX11_does_91 ?_
        refine aw_aload_n C 0 dX11_does_94 rfl ?_
        refine cg_aw_land C lw_2_8 dX11_does_95 ?_
        refine cg_ln_all C lw_37_16 dX11_does_98 ?_
        refine aw_iload_n C 1 dX11_does_101 rfl ?_
        refine aw_iconst (v := -1) C dX11_does_102 (by decide) ?_
        refine aw_ixor C dX11_does_103 ?_
        refine aw_iand C dX11_does_104 ?_
        obtain ⟨⟨v16, s17⟩, cw18, h⟩ := oC_e h
        have h := oL_e (x := s17) rfl (oL_e (x := v16) rfl h)
        refine aw_callVi (n := 1) (As := [.int ((s8.1 22) &&& (x1 ^^^ (-1 : Int32)))]) (rest := []) (q0 := 4) C (c_X4_pieces l D N s8 s17 ((s8.1 22) &&& (x1 ^^^ (-1 : Int32))) v16 cw18) lw_37_23 lw_38_0 lw_38_1 lw_1_15 lw_38_2 rfl rfl (by decide +kernel) ⟨Nat.le_of_ble_eq_true rfl, Nat.le_of_ble_eq_true rfl⟩ rfl rfl rfl rfl rfl (Nat.le_of_ble_eq_true rfl) dX11_does_105 ?_
        cases h
        exact aw_ret hE dX11_does_108
      have h := bq_f q2 h
      by_cases q3 : x3 = (3 : Int32)
      · have h := bq_t q3 h
        refine aw_table (tgt := 109) C 80 dX11_does_29 (by rw [q3]; decide) (by rw [q3]; decide) (by rw [q3]; decide) (by decide) ?_
        refine aw_aload_n C 0 dX11_does_109 rfl ?_
        refine cg_aw_land C lw_2_8 dX11_does_110 ?_
        refine aw_iload_n C 1 dX11_does_113 rfl ?_
        obtain ⟨⟨v19, s20⟩, cw21, h⟩ := oC_e h
        have h := oL_e (x := s20) rfl (oL_e (x := v19) rfl h)
        refine aw_callVi (n := 1) (As := [.int x1]) (rest := []) (q0 := 4) C (c_X4_cut l D N s8 s20 x1 v19 cw21) lw_38_11 lw_38_12 lw_38_13 lw_1_15 lw_38_14 rfl rfl (by decide +kernel) ⟨Nat.le_of_ble_eq_true rfl, Nat.le_of_ble_eq_true rfl⟩ rfl rfl rfl rfl rfl (Nat.le_of_ble_eq_true rfl) dX11_does_114 ?_
        cases h
        exact aw_ret hE dX11_does_117
      have h := bq_f q3 h
      by_cases q4 : x3 = (4 : Int32)
      · have h := bq_t q4 h
        refine aw_table (tgt := 118) C 89 dX11_does_29 (by rw [q4]; decide) (by rw [q4]; decide) (by rw [q4]; decide) (by decide) ?_
        refine aw_aload_n C 0 dX11_does_118 rfl ?_
        refine cg_aw_land C lw_2_8 dX11_does_119 ?_
        refine aw_iload_n C 1 dX11_does_122 rfl ?_
        obtain ⟨⟨v22, s23⟩, cw24, h⟩ := oC_e h
        have h := oL_e (x := s23) rfl (oL_e (x := v22) rfl h)
        refine aw_callVi (n := 1) (As := [.int x1]) (rest := []) (q0 := 4) C (c_X4_severed l D N s8 s23 x1 v22 cw24) lw_38_19 lw_38_20 lw_38_21 lw_1_15 lw_38_22 rfl rfl (by decide +kernel) ⟨Nat.le_of_ble_eq_true rfl, Nat.le_of_ble_eq_true rfl⟩ rfl rfl rfl rfl rfl (Nat.le_of_ble_eq_true rfl) dX11_does_123 ?_
        cases h
        exact aw_ret hE dX11_does_126
      have h := bq_f q4 h
      by_cases q5 : x3 = (5 : Int32)
      · have h := bq_t q5 h
        refine aw_table (tgt := 127) C 98 dX11_does_29 (by rw [q5]; decide) (by rw [q5]; decide) (by rw [q5]; decide) (by decide) ?_
        refine aw_aload_n C 0 dX11_does_127 rfl ?_
        refine cg_aw_land C lw_2_8 dX11_does_128 ?_
        refine aw_iload_n C 1 dX11_does_131 rfl ?_
        obtain ⟨⟨v25, s26⟩, cw27, h⟩ := oC_e h
        have h := oL_e (x := s26) rfl (oL_e (x := v25) rfl h)
        refine aw_callVi (n := 1) (As := [.int x1]) (rest := []) (q0 := 4) C (c_X4_desecrated l D N s8 s26 x1 v25 cw27) lw_39_3 lw_39_4 lw_39_5 lw_1_15 lw_39_6 rfl rfl (by decide +kernel) ⟨Nat.le_of_ble_eq_true rfl, Nat.le_of_ble_eq_true rfl⟩ rfl rfl rfl rfl rfl (Nat.le_of_ble_eq_true rfl) dX11_does_132 ?_
        cases h
        exact aw_ret hE dX11_does_135
      have h := bq_f q5 h
      by_cases q6 : x3 = (6 : Int32)
      · have h := bq_t q6 h
        refine aw_table (tgt := 136) C 107 dX11_does_29 (by rw [q6]; decide) (by rw [q6]; decide) (by rw [q6]; decide) (by decide) ?_
        refine aw_aload_n C 0 dX11_does_136 rfl ?_
        refine cg_aw_toll C lw_2_22 dX11_does_137 ?_
        refine aw_iload_n C 1 dX11_does_140 rfl ?_
        refine aw_aload_n C 0 dX11_does_141 rfl ?_
        refine cg_aw_terms C lw_2_6 dX11_does_142 ?_
        obtain ⟨⟨v28, s29⟩, cw30, h⟩ := oC_e h
        have h := oL_e (x := s29) rfl (oL_e (x := v28) rfl h)
        refine aw_callVi (n := 2) (As := [.int x1, .ref (N.1 2)]) (rest := []) (q0 := 9) C (c_X10_harm l D N s8 s29 x1 v28 cw30) lw_39_7 lw_39_8 lw_39_9 lw_2_21 lw_39_10 rfl rfl (by decide +kernel) ⟨Nat.le_of_ble_eq_true rfl, Nat.le_of_ble_eq_true rfl⟩ rfl rfl rfl rfl rfl (Nat.le_of_ble_eq_true rfl) dX11_does_145 ?_
        cases h
        exact aw_ret hE dX11_does_148
      have h := bq_f q6 h
      refine aw_tableO (tgt := 149) C dX11_does_29 (by have n0 := sw_ne (k := 0) (by decide) q0; have n1 := sw_ne (k := 1) (by decide) q1; have n2 := sw_ne (k := 2) (by decide) q2; have n3 := sw_ne (k := 3) (by decide) q3; have n4 := sw_ne (k := 4) (by decide) q4; have n5 := sw_ne (k := 5) (by decide) q5; have n6 := sw_ne (k := 6) (by decide) q6; omega) (by decide) ?_
      refine aw_iconst (v := -1) C dX11_does_149 (by decide) ?_
      cases h
      exact aw_ret hE dX11_does_150
    · have h := bq_t q h
      refine aw_sub (lv' := []) [] rfl ?_
      exact T_X11_does_18 C hE s5 h
def f_X11_does (s0 : St) (x1 : Int32) (x2 : Int32) (x3 : Int32) : Option (Int32 × St) := F_X11_does_0 s0 x1 x2 x3
theorem c_X11_does (l : Launch) (D : va_G) (N : Nm) (s0 z1 : St) (x1 : Int32) (x2 : Int32) (x3 : Int32) (r : Int32) (h : f_X11_does s0 x1 x2 x3 = some (r, z1)) : Meti l yX11_does (tsU yX11_does cX11_does 4 (some .int)) rm_X11_does D N [.ref (N.1 0), .int x1, .int x2, .int x3] (wC N s0) r (wC N z1) :=
  met_i (cc := cX11_does) (nL := 4) (own := RX11) (by decide) rfl (Nat.le_of_ble_eq_true rfl) (fun p e s m args below meth c Q A C hE => aw_sub [0, 1, 2, 3] rfl (T_X11_does_0 C hE s0 x1 x2 x3 h))
/-! AwardLine.best(II)I -/
def rm_X11_best : Room := { frames := 84, cells := 0, slots := 0, locals := 7652 }
def F_X11_best_28 (s0 : St) : Option (Int32 × St) :=
  some ((-1 : Int32), s0)
set_option maxHeartbeats 4000000 in
set_option maxRecDepth 100000 in
theorem T_X11_best_28 {r : Int32} {z1 : St} (C : Cx p rm_X11_best s m args c D A cX11_best 3 RX11 rm_X11_best N) (hE : En p l e rm_X11_best s m args below meth c Q D A cX11_best .ireturn (wC N z1) [.int r])  (s0 : St) (h : F_X11_best_28 s0 = some (r, z1)) : Aw p l e rm_X11_best s m args below meth c Q D A 3 (wC N s0) 28 [] [] := by
  unfold F_X11_best_28 at h
  refine aw_iconst (v := -1) C dX11_best_28 (by decide) ?_
  cases h
  exact aw_ret hE dX11_best_29
def F_X11_best_70 (s0 : St) (t0 : Int32) : Option (Int32 × St) :=
  some (t0, s0)
set_option maxHeartbeats 4000000 in
set_option maxRecDepth 100000 in
theorem T_X11_best_70 {r : Int32} {z1 : St} (C : Cx p rm_X11_best s m args c D A cX11_best 3 RX11 rm_X11_best N) (hE : En p l e rm_X11_best s m args below meth c Q D A cX11_best .ireturn (wC N z1) [.int r])  (s0 : St) (t0 : Int32) (h : F_X11_best_70 s0 t0 = some (r, z1)) : Aw p l e rm_X11_best s m args below meth c Q D A 3 (wC N s0) 70 [] [.int t0] := by
  unfold F_X11_best_70 at h
  cases h
  exact aw_ret hE dX11_best_70
def F_X11_best_0 (s0 : St) (x1 : Int32) (x2 : Int32) : Option (Int32 × St) :=
  oC (f_X11_isDay s0 x1) fun w3 =>
  oL w3.1 fun v1 => oL w3.2 fun s2 =>
  if v1 = 0 then (
    F_X11_best_28 s2)
  else (
    if x2 < 0 then (
      F_X11_best_28 s2)
    else (
      if (1 : Int32) < x2 then (
        F_X11_best_28 s2)
      else (
        if (s2.1 21) ≤ (16 : Int32) then (
          oC (f_X0_take s2 x1) fun w6 =>
          oL w6 fun s5 =>
          oC (f_X10_search s5) fun w9 =>
          oL w9 fun s8 =>
          if x2 = 0 then (
            F_X11_best_70 s8 (s8.1 32))
          else (
            F_X11_best_70 s8 (s8.1 33)))
        else (
          F_X11_best_28 s2))))
set_option maxHeartbeats 4000000 in
set_option maxRecDepth 100000 in
theorem T_X11_best_0 {r : Int32} {z1 : St} (C : Cx p rm_X11_best s m args c D A cX11_best 3 RX11 rm_X11_best N) (hE : En p l e rm_X11_best s m args below meth c Q D A cX11_best .ireturn (wC N z1) [.int r])  (s0 : St) (x1 : Int32) (x2 : Int32) (h : F_X11_best_0 s0 x1 x2 = some (r, z1)) : Aw p l e rm_X11_best s m args below meth c Q D A 3 (wC N s0) 0 [(0, .ref (N.1 0)), (1, .int x1), (2, .int x2)] [] := by
  unfold F_X11_best_0 at h
  refine aw_iload_n C 1 dX11_best_0 rfl ?_
  obtain ⟨⟨v1, s2⟩, cw3, h⟩ := oC_e h
  have h := oL_e (x := s2) rfl (oL_e (x := v1) rfl h)
  refine aw_callSi (n := 1) (As := [.int x1]) (rest := []) C (c_X11_isDay l D N s0 s2 x1 v1 cw3) lw_27_6 lw_27_7 lw_1_2 lw_27_8 rfl rfl (by decide +kernel) ⟨Nat.le_of_ble_eq_true rfl, Nat.le_of_ble_eq_true rfl⟩ rfl rfl (Nat.le_of_ble_eq_true rfl) dX11_best_1 ?_
  refine aw_if_eq (tgt := 28) C dX11_best_4 (by decide) (fun q => ?_) (fun q => ?_)
  · have h := bq_t q h
    refine aw_sub (lv' := []) [] rfl ?_
    exact T_X11_best_28 C hE s2 h
  · have h := bq_f q h
    refine aw_iload_n C 2 dX11_best_7 rfl ?_
    refine aw_if_lt (tgt := 28) C dX11_best_8 (by decide) (fun q => ?_) (fun q => ?_)
    · have h := bq_t q h
      refine aw_sub (lv' := []) [] rfl ?_
      exact T_X11_best_28 C hE s2 h
    · have h := bq_f q h
      refine aw_iload_n C 2 dX11_best_11 rfl ?_
      refine aw_iconst (v := 1) C dX11_best_12 (by decide) ?_
      refine aw_icmp_gt (tgt := 28) C dX11_best_13 (by decide) (fun q => ?_) (fun q => ?_)
      · have h := bq_t q h
        refine aw_sub (lv' := []) [] rfl ?_
        exact T_X11_best_28 C hE s2 h
      · have h := bq_f q h
        refine aw_aload_n C 0 dX11_best_16 rfl ?_
        refine cg_aw_land C lw_2_8 dX11_best_17 ?_
        refine cg_ln_size C lw_41_18 dX11_best_20 ?_
        refine aw_bipush (v := 16) C dX11_best_23 (by decide) ?_
        refine aw_icmp_le (tgt := 30) C dX11_best_25 (by decide) (fun q => ?_) (fun q => ?_)
        · have h := bq_t q h
          refine aw_aload_n C 0 dX11_best_30 rfl ?_
          refine cg_aw_census C lw_2_10 dX11_best_31 ?_
          refine aw_iload_n C 1 dX11_best_34 rfl ?_
          obtain ⟨s5, cw6, h⟩ := oC_e h
          have h := oL_e (x := s5) rfl h
          refine aw_callVv (n := 1) (As := [.int x1]) (rest := []) (q0 := 6) C (c_X0_take l D N s2 s5 x1 cw6) lw_27_9 lw_27_10 lw_27_11 lw_1_21 lw_27_12 rfl rfl (by decide +kernel) ⟨Nat.le_of_ble_eq_true rfl, Nat.le_of_ble_eq_true rfl⟩ rfl rfl rfl rfl rfl (Nat.le_of_ble_eq_true rfl) dX11_best_35 ?_
          refine aw_aload_n C 0 dX11_best_38 rfl ?_
          refine cg_aw_toll C lw_2_22 dX11_best_39 ?_
          refine aw_aload_n C 0 dX11_best_42 rfl ?_
          refine cg_aw_terms C lw_2_6 dX11_best_43 ?_
          obtain ⟨s8, cw9, h⟩ := oC_e h
          have h := oL_e (x := s8) rfl h
          refine aw_callVv (n := 1) (As := [.ref (N.1 2)]) (rest := []) (q0 := 9) C (c_X10_search l D N s5 s8 cw9) lw_41_21 lw_41_22 lw_41_23 lw_2_21 lw_42_0 rfl rfl (by decide +kernel) ⟨Nat.le_of_ble_eq_true rfl, Nat.le_of_ble_eq_true rfl⟩ rfl rfl rfl rfl rfl (Nat.le_of_ble_eq_true rfl) dX11_best_46 ?_
          refine aw_iload_n C 2 dX11_best_49 rfl ?_
          refine aw_if_ne (tgt := 63) C dX11_best_50 (by decide) (fun q => ?_) (fun q => ?_)
          · have h := bq_f q h
            refine aw_aload_n C 0 dX11_best_63 rfl ?_
            refine cg_aw_toll C lw_2_22 dX11_best_64 ?_
            refine cg_to_bestHarm C lw_41_20 dX11_best_67 ?_
            refine aw_sub (lv' := []) [] rfl ?_
            exact T_X11_best_70 C hE s8 (s8.1 33) h
          · have h := bq_t q h
            refine aw_aload_n C 0 dX11_best_53 rfl ?_
            refine cg_aw_toll C lw_2_22 dX11_best_54 ?_
            refine cg_to_bestLine C lw_41_19 dX11_best_57 ?_
            refine aw_goto (tgt := 70) C dX11_best_60 (by decide) ?_
            refine aw_sub (lv' := []) [] rfl ?_
            exact T_X11_best_70 C hE s8 (s8.1 32) h
        · have h := bq_f q h
          refine aw_sub (lv' := []) [] rfl ?_
          exact T_X11_best_28 C hE s2 h
def f_X11_best (s0 : St) (x1 : Int32) (x2 : Int32) : Option (Int32 × St) := F_X11_best_0 s0 x1 x2
theorem c_X11_best (l : Launch) (D : va_G) (N : Nm) (s0 z1 : St) (x1 : Int32) (x2 : Int32) (r : Int32) (h : f_X11_best s0 x1 x2 = some (r, z1)) : Meti l yX11_best (tsU yX11_best cX11_best 3 (some .int)) rm_X11_best D N [.ref (N.1 0), .int x1, .int x2] (wC N s0) r (wC N z1) :=
  met_i (cc := cX11_best) (nL := 3) (own := RX11) (by decide) rfl (Nat.le_of_ble_eq_true rfl) (fun p e s m args below meth c Q A C hE => aw_sub [0, 1, 2] rfl (T_X11_best_0 C hE s0 x1 x2 h))
/-! AwardLine.weights(II)I -/
def rm_X11_weights : Room := { frames := 3, cells := 0, slots := 0, locals := 70 }
def F_X11_weights_18 (s0 : St) : Option (Int32 × St) :=
  some ((-1 : Int32), s0)
set_option maxHeartbeats 4000000 in
set_option maxRecDepth 100000 in
theorem T_X11_weights_18 {r : Int32} {z1 : St} (C : Cx p rm_X11_weights s m args c D A cX11_weights 3 RX11 rm_X11_weights N) (hE : En p l e rm_X11_weights s m args below meth c Q D A cX11_weights .ireturn (wC N z1) [.int r])  (s0 : St) (h : F_X11_weights_18 s0 = some (r, z1)) : Aw p l e rm_X11_weights s m args below meth c Q D A 3 (wC N s0) 18 [] [] := by
  unfold F_X11_weights_18 at h
  refine aw_iconst (v := -1) C dX11_weights_18 (by decide) ?_
  cases h
  exact aw_ret hE dX11_weights_19
def F_X11_weights_0 (s0 : St) (x1 : Int32) (x2 : Int32) : Option (Int32 × St) :=
  oC (f_X4_isLine s0 x1) fun w3 =>
  oL w3.1 fun v1 => oL w3.2 fun s2 =>
  if v1 = 0 then (
    F_X11_weights_18 s2)
  else (
    oC (f_X11_isDay s2 x2) fun w6 =>
    oL w6.1 fun v4 => oL w6.2 fun s5 =>
    if v4 = 0 then (
      F_X11_weights_18 s5)
    else (
      oC (f_X0_take s5 x2) fun w9 =>
      oL w9 fun s8 =>
      oC (f_X10_weigh s8 x1) fun w12 =>
      oL w12.1 fun v10 => oL w12.2 fun s11 =>
      some (v10, s11)))
set_option maxHeartbeats 4000000 in
set_option maxRecDepth 100000 in
theorem T_X11_weights_0 {r : Int32} {z1 : St} (C : Cx p rm_X11_weights s m args c D A cX11_weights 3 RX11 rm_X11_weights N) (hE : En p l e rm_X11_weights s m args below meth c Q D A cX11_weights .ireturn (wC N z1) [.int r])  (s0 : St) (x1 : Int32) (x2 : Int32) (h : F_X11_weights_0 s0 x1 x2 = some (r, z1)) : Aw p l e rm_X11_weights s m args below meth c Q D A 3 (wC N s0) 0 [(0, .ref (N.1 0)), (1, .int x1), (2, .int x2)] [] := by
  unfold F_X11_weights_0 at h
  refine aw_aload_n C 0 dX11_weights_0 rfl ?_
  refine cg_aw_land C lw_2_8 dX11_weights_1 ?_
  refine aw_iload_n C 1 dX11_weights_4 rfl ?_
  obtain ⟨⟨v1, s2⟩, cw3, h⟩ := oC_e h
  have h := oL_e (x := s2) rfl (oL_e (x := v1) rfl h)
  refine aw_callVi (n := 1) (As := [.int x1]) (rest := []) (q0 := 4) C (c_X4_isLine l D N s0 s2 x1 v1 cw3) lw_35_21 lw_35_22 lw_35_23 lw_1_15 lw_36_0 rfl rfl (by decide +kernel) ⟨Nat.le_of_ble_eq_true rfl, Nat.le_of_ble_eq_true rfl⟩ rfl rfl rfl rfl rfl (Nat.le_of_ble_eq_true rfl) dX11_weights_5 ?_
  refine aw_if_eq (tgt := 18) C dX11_weights_8 (by decide) (fun q => ?_) (fun q => ?_)
  · have h := bq_t q h
    refine aw_sub (lv' := []) [] rfl ?_
    exact T_X11_weights_18 C hE s2 h
  · have h := bq_f q h
    refine aw_iload_n C 2 dX11_weights_11 rfl ?_
    obtain ⟨⟨v4, s5⟩, cw6, h⟩ := oC_e h
    have h := oL_e (x := s5) rfl (oL_e (x := v4) rfl h)
    refine aw_callSi (n := 1) (As := [.int x2]) (rest := []) C (c_X11_isDay l D N s2 s5 x2 v4 cw6) lw_27_6 lw_27_7 lw_1_2 lw_27_8 rfl rfl (by decide +kernel) ⟨Nat.le_of_ble_eq_true rfl, Nat.le_of_ble_eq_true rfl⟩ rfl rfl (Nat.le_of_ble_eq_true rfl) dX11_weights_12 ?_
    refine aw_if_ne (tgt := 20) C dX11_weights_15 (by decide) (fun q => ?_) (fun q => ?_)
    · have h := bq_f q h
      refine aw_aload_n C 0 dX11_weights_20 rfl ?_
      refine cg_aw_census C lw_2_10 dX11_weights_21 ?_
      refine aw_iload_n C 2 dX11_weights_24 rfl ?_
      obtain ⟨s8, cw9, h⟩ := oC_e h
      have h := oL_e (x := s8) rfl h
      refine aw_callVv (n := 1) (As := [.int x2]) (rest := []) (q0 := 6) C (c_X0_take l D N s5 s8 x2 cw9) lw_27_9 lw_27_10 lw_27_11 lw_1_21 lw_27_12 rfl rfl (by decide +kernel) ⟨Nat.le_of_ble_eq_true rfl, Nat.le_of_ble_eq_true rfl⟩ rfl rfl rfl rfl rfl (Nat.le_of_ble_eq_true rfl) dX11_weights_25 ?_
      refine aw_aload_n C 0 dX11_weights_28 rfl ?_
      refine cg_aw_toll C lw_2_22 dX11_weights_29 ?_
      refine aw_iload_n C 1 dX11_weights_32 rfl ?_
      obtain ⟨⟨v10, s11⟩, cw12, h⟩ := oC_e h
      have h := oL_e (x := s11) rfl (oL_e (x := v10) rfl h)
      refine aw_callVi (n := 1) (As := [.int x1]) (rest := []) (q0 := 9) C (c_X10_weigh l D N s8 s11 x1 v10 cw12) lw_43_5 lw_43_6 lw_43_7 lw_2_21 lw_43_8 rfl rfl (by decide +kernel) ⟨Nat.le_of_ble_eq_true rfl, Nat.le_of_ble_eq_true rfl⟩ rfl rfl rfl rfl rfl (Nat.le_of_ble_eq_true rfl) dX11_weights_33 ?_
      cases h
      exact aw_ret hE dX11_weights_36
    · have h := bq_t q h
      refine aw_sub (lv' := []) [] rfl ?_
      exact T_X11_weights_18 C hE s5 h
def f_X11_weights (s0 : St) (x1 : Int32) (x2 : Int32) : Option (Int32 × St) := F_X11_weights_0 s0 x1 x2
theorem c_X11_weights (l : Launch) (D : va_G) (N : Nm) (s0 z1 : St) (x1 : Int32) (x2 : Int32) (r : Int32) (h : f_X11_weights s0 x1 x2 = some (r, z1)) : Meti l yX11_weights (tsU yX11_weights cX11_weights 3 (some .int)) rm_X11_weights D N [.ref (N.1 0), .int x1, .int x2] (wC N s0) r (wC N z1) :=
  met_i (cc := cX11_weights) (nL := 3) (own := RX11) (by decide) rfl (Nat.le_of_ble_eq_true rfl) (fun p e s m args below meth c Q A C hE => aw_sub [0, 1, 2] rfl (T_X11_weights_0 C hE s0 x1 x2 h))
/-! AwardLine.knows(III)I -/
def rm_X11_knows : Room := { frames := 4, cells := 0, slots := 0, locals := 93 }
def F_X11_knows_25 (s0 : St) : Option (Int32 × St) :=
  some ((-1 : Int32), s0)
set_option maxHeartbeats 4000000 in
set_option maxRecDepth 100000 in
theorem T_X11_knows_25 {r : Int32} {z1 : St} (C : Cx p rm_X11_knows s m args c D A cX11_knows 4 RX11 rm_X11_knows N) (hE : En p l e rm_X11_knows s m args below meth c Q D A cX11_knows .ireturn (wC N z1) [.int r])  (s0 : St) (h : F_X11_knows_25 s0 = some (r, z1)) : Aw p l e rm_X11_knows s m args below meth c Q D A 4 (wC N s0) 25 [] [] := by
  unfold F_X11_knows_25 at h
  refine aw_iconst (v := -1) C dX11_knows_25 (by decide) ?_
  cases h
  exact aw_ret hE dX11_knows_26
def F_X11_knows_72 (s0 : St) (t0 : Int32) : Option (Int32 × St) :=
  some (t0, s0)
set_option maxHeartbeats 4000000 in
set_option maxRecDepth 100000 in
theorem T_X11_knows_72 {r : Int32} {z1 : St} (C : Cx p rm_X11_knows s m args c D A cX11_knows 4 RX11 rm_X11_knows N) (hE : En p l e rm_X11_knows s m args below meth c Q D A cX11_knows .ireturn (wC N z1) [.int r])  (s0 : St) (t0 : Int32) (h : F_X11_knows_72 s0 t0 = some (r, z1)) : Aw p l e rm_X11_knows s m args below meth c Q D A 4 (wC N s0) 72 [] [.int t0] := by
  unfold F_X11_knows_72 at h
  cases h
  exact aw_ret hE dX11_knows_72
def F_X11_knows_0 (s0 : St) (x1 : Int32) (x2 : Int32) (x3 : Int32) : Option (Int32 × St) :=
  oC (f_X11_isPerson s0 x1) fun w3 =>
  oL w3.1 fun v1 => oL w3.2 fun s2 =>
  if v1 = 0 then (
    F_X11_knows_25 s2)
  else (
    oC (f_X1_has s2 x2) fun w6 =>
    oL w6.1 fun v4 => oL w6.2 fun s5 =>
    if v4 = 0 then (
      F_X11_knows_25 s5)
    else (
      oC (f_X11_isDay s5 x3) fun w9 =>
      oL w9.1 fun v7 => oL w9.2 fun s8 =>
      if v7 = 0 then (
        F_X11_knows_25 s8)
      else (
        oC (f_X5_sift s8 x3) fun w12 =>
        oL w12 fun s11 =>
        oC (f_X7_spread s11 x2 (-1 : Int32)) fun w15 =>
        oL w15 fun s14 =>
        oA x1 8 <|
        if (s14.2.1 35 (Int32.toNatClampNeg x1)) = (1000 : Int32) then (
          F_X11_knows_72 s14 (-1 : Int32))
        else (
          oA x1 8 <|
          F_X11_knows_72 s14 (s14.2.1 35 (Int32.toNatClampNeg x1))))))
set_option maxHeartbeats 4000000 in
set_option maxRecDepth 100000 in
theorem T_X11_knows_0 {r : Int32} {z1 : St} (C : Cx p rm_X11_knows s m args c D A cX11_knows 4 RX11 rm_X11_knows N) (hE : En p l e rm_X11_knows s m args below meth c Q D A cX11_knows .ireturn (wC N z1) [.int r])  (s0 : St) (x1 : Int32) (x2 : Int32) (x3 : Int32) (h : F_X11_knows_0 s0 x1 x2 x3 = some (r, z1)) : Aw p l e rm_X11_knows s m args below meth c Q D A 4 (wC N s0) 0 [(0, .ref (N.1 0)), (1, .int x1), (2, .int x2), (3, .int x3)] [] := by
  unfold F_X11_knows_0 at h
  refine aw_iload_n C 1 dX11_knows_0 rfl ?_
  obtain ⟨⟨v1, s2⟩, cw3, h⟩ := oC_e h
  have h := oL_e (x := s2) rfl (oL_e (x := v1) rfl h)
  refine aw_callSi (n := 1) (As := [.int x1]) (rest := []) C (c_X11_isPerson l D N s0 s2 x1 v1 cw3) lw_25_16 lw_25_17 lw_1_2 lw_25_18 rfl rfl (by decide +kernel) ⟨Nat.le_of_ble_eq_true rfl, Nat.le_of_ble_eq_true rfl⟩ rfl rfl (Nat.le_of_ble_eq_true rfl) dX11_knows_1 ?_
  refine aw_if_eq (tgt := 25) C dX11_knows_4 (by decide) (fun q => ?_) (fun q => ?_)
  · have h := bq_t q h
    refine aw_sub (lv' := []) [] rfl ?_
    exact T_X11_knows_25 C hE s2 h
  · have h := bq_f q h
    refine aw_aload_n C 0 dX11_knows_7 rfl ?_
    refine cg_aw_drafts C lw_2_14 dX11_knows_8 ?_
    refine aw_iload_n C 2 dX11_knows_11 rfl ?_
    obtain ⟨⟨v4, s5⟩, cw6, h⟩ := oC_e h
    have h := oL_e (x := s5) rfl (oL_e (x := v4) rfl h)
    refine aw_callVi (n := 1) (As := [.int x2]) (rest := []) (q0 := 7) C (c_X1_has l D N s2 s5 x2 v4 cw6) lw_25_19 lw_25_20 lw_25_21 lw_2_13 lw_25_22 rfl rfl (by decide +kernel) ⟨Nat.le_of_ble_eq_true rfl, Nat.le_of_ble_eq_true rfl⟩ rfl rfl rfl rfl rfl (Nat.le_of_ble_eq_true rfl) dX11_knows_12 ?_
    refine aw_if_eq (tgt := 25) C dX11_knows_15 (by decide) (fun q => ?_) (fun q => ?_)
    · have h := bq_t q h
      refine aw_sub (lv' := []) [] rfl ?_
      exact T_X11_knows_25 C hE s5 h
    · have h := bq_f q h
      refine aw_iload_n C 3 dX11_knows_18 rfl ?_
      obtain ⟨⟨v7, s8⟩, cw9, h⟩ := oC_e h
      have h := oL_e (x := s8) rfl (oL_e (x := v7) rfl h)
      refine aw_callSi (n := 1) (As := [.int x3]) (rest := []) C (c_X11_isDay l D N s5 s8 x3 v7 cw9) lw_27_6 lw_27_7 lw_1_2 lw_27_8 rfl rfl (by decide +kernel) ⟨Nat.le_of_ble_eq_true rfl, Nat.le_of_ble_eq_true rfl⟩ rfl rfl (Nat.le_of_ble_eq_true rfl) dX11_knows_19 ?_
      refine aw_if_ne (tgt := 27) C dX11_knows_22 (by decide) (fun q => ?_) (fun q => ?_)
      · have h := bq_f q h
        refine aw_aload_n C 0 dX11_knows_27 rfl ?_
        refine cg_aw_notes C lw_2_9 dX11_knows_28 ?_
        refine aw_iload_n C 3 dX11_knows_31 rfl ?_
        obtain ⟨s11, cw12, h⟩ := oC_e h
        have h := oL_e (x := s11) rfl h
        refine aw_callVv (n := 1) (As := [.int x3]) (rest := []) (q0 := 5) C (c_X5_sift l D N s8 s11 x3 cw12) lw_44_4 lw_27_21 lw_27_22 lw_1_18 lw_27_23 rfl rfl (by decide +kernel) ⟨Nat.le_of_ble_eq_true rfl, Nat.le_of_ble_eq_true rfl⟩ rfl rfl rfl rfl rfl (Nat.le_of_ble_eq_true rfl) dX11_knows_32 ?_
        refine aw_aload_n C 0 dX11_knows_35 rfl ?_
        refine cg_aw_rumour C lw_3_2 dX11_knows_36 ?_
        refine aw_iload_n C 2 dX11_knows_39 rfl ?_
        refine aw_iconst (v := -1) C dX11_knows_40 (by decide) ?_
        obtain ⟨s14, cw15, h⟩ := oC_e h
        have h := oL_e (x := s14) rfl h
        refine aw_callVv (n := 2) (As := [.int x2, .int (-1 : Int32)]) (rest := []) (q0 := 10) C (c_X7_spread l D N s11 s14 x2 (-1 : Int32) cw15) lw_44_5 lw_44_6 lw_44_7 lw_3_1 lw_44_8 rfl rfl (by decide +kernel) ⟨Nat.le_of_ble_eq_true rfl, Nat.le_of_ble_eq_true rfl⟩ rfl rfl rfl rfl rfl (Nat.le_of_ble_eq_true rfl) dX11_knows_41 ?_
        refine aw_aload_n C 0 dX11_knows_44 rfl ?_
        refine cg_aw_rumour C lw_3_2 dX11_knows_45 ?_
        refine cg_ru_since C lw_44_3 dX11_knows_48 ?_
        refine aw_iload_n C 1 dX11_knows_51 rfl ?_
        obtain ⟨q16, h⟩ := oA_e h
        refine ca_iald (k := 35) C (by decide) rfl q16 dX11_knows_52 ?_
        refine aw_sipush (v := 1000) C dX11_knows_53 (by decide) ?_
        refine aw_icmp_ne (tgt := 63) C dX11_knows_56 (by decide) (fun q => ?_) (fun q => ?_)
        · have h := bq_f q h
          refine aw_aload_n C 0 dX11_knows_63 rfl ?_
          refine cg_aw_rumour C lw_3_2 dX11_knows_64 ?_
          refine cg_ru_since C lw_44_3 dX11_knows_67 ?_
          refine aw_iload_n C 1 dX11_knows_70 rfl ?_
          obtain ⟨q17, h⟩ := oA_e h
          refine ca_iald (k := 35) C (by decide) rfl q17 dX11_knows_71 ?_
          refine aw_sub (lv' := []) [] rfl ?_
          exact T_X11_knows_72 C hE s14 (s14.2.1 35 (Int32.toNatClampNeg x1)) h
        · have h := bq_t q h
          refine aw_iconst (v := -1) C dX11_knows_59 (by decide) ?_
          refine aw_goto (tgt := 72) C dX11_knows_60 (by decide) ?_
          refine aw_sub (lv' := []) [] rfl ?_
          exact T_X11_knows_72 C hE s14 (-1 : Int32) h
      · have h := bq_t q h
        refine aw_sub (lv' := []) [] rfl ?_
        exact T_X11_knows_25 C hE s8 h
def f_X11_knows (s0 : St) (x1 : Int32) (x2 : Int32) (x3 : Int32) : Option (Int32 × St) := F_X11_knows_0 s0 x1 x2 x3
theorem c_X11_knows (l : Launch) (D : va_G) (N : Nm) (s0 z1 : St) (x1 : Int32) (x2 : Int32) (x3 : Int32) (r : Int32) (h : f_X11_knows s0 x1 x2 x3 = some (r, z1)) : Meti l yX11_knows (tsU yX11_knows cX11_knows 4 (some .int)) rm_X11_knows D N [.ref (N.1 0), .int x1, .int x2, .int x3] (wC N s0) r (wC N z1) :=
  met_i (cc := cX11_knows) (nL := 4) (own := RX11) (by decide) rfl (Nat.le_of_ble_eq_true rfl) (fun p e s m args below meth c Q A C hE => aw_sub [0, 1, 2, 3] rfl (T_X11_knows_0 C hE s0 x1 x2 x3 h))
/-! AwardLine.explained(II)I -/
def rm_X11_explained : Room := { frames := 5, cells := 0, slots := 0, locals := 118 }
def F_X11_explained_18 (s0 : St) : Option (Int32 × St) :=
  some ((-1 : Int32), s0)
set_option maxHeartbeats 4000000 in
set_option maxRecDepth 100000 in
theorem T_X11_explained_18 {r : Int32} {z1 : St} (C : Cx p rm_X11_explained s m args c D A cX11_explained 3 RX11 rm_X11_explained N) (hE : En p l e rm_X11_explained s m args below meth c Q D A cX11_explained .ireturn (wC N z1) [.int r])  (s0 : St) (h : F_X11_explained_18 s0 = some (r, z1)) : Aw p l e rm_X11_explained s m args below meth c Q D A 3 (wC N s0) 18 [] [] := by
  unfold F_X11_explained_18 at h
  refine aw_iconst (v := -1) C dX11_explained_18 (by decide) ?_
  cases h
  exact aw_ret hE dX11_explained_19
def F_X11_explained_0 (s0 : St) (x1 : Int32) (x2 : Int32) : Option (Int32 × St) :=
  oC (f_X5_has s0 x1) fun w3 =>
  oL w3.1 fun v1 => oL w3.2 fun s2 =>
  if v1 = 0 then (
    F_X11_explained_18 s2)
  else (
    oC (f_X11_isDay s2 x2) fun w6 =>
    oL w6.1 fun v4 => oL w6.2 fun s5 =>
    if v4 = 0 then (
      F_X11_explained_18 s5)
    else (
      oC (f_X5_sift s5 x2) fun w9 =>
      oL w9 fun s8 =>
      oC (f_X5_isKnown s8 x1 (2 : Int32)) fun w12 =>
      oL w12.1 fun v10 => oL w12.2 fun s11 =>
      if v10 = 0 then (
        some ((-1 : Int32), s11))
      else (
        oC (f_X7_explain s11 x1) fun w15 =>
        oL w15.1 fun v13 => oL w15.2 fun s14 =>
        some (v13, s14))))
set_option maxHeartbeats 4000000 in
set_option maxRecDepth 100000 in
theorem T_X11_explained_0 {r : Int32} {z1 : St} (C : Cx p rm_X11_explained s m args c D A cX11_explained 3 RX11 rm_X11_explained N) (hE : En p l e rm_X11_explained s m args below meth c Q D A cX11_explained .ireturn (wC N z1) [.int r])  (s0 : St) (x1 : Int32) (x2 : Int32) (h : F_X11_explained_0 s0 x1 x2 = some (r, z1)) : Aw p l e rm_X11_explained s m args below meth c Q D A 3 (wC N s0) 0 [(0, .ref (N.1 0)), (1, .int x1), (2, .int x2)] [] := by
  unfold F_X11_explained_0 at h
  refine aw_aload_n C 0 dX11_explained_0 rfl ?_
  refine cg_aw_notes C lw_2_9 dX11_explained_1 ?_
  refine aw_iload_n C 1 dX11_explained_4 rfl ?_
  obtain ⟨⟨v1, s2⟩, cw3, h⟩ := oC_e h
  have h := oL_e (x := s2) rfl (oL_e (x := v1) rfl h)
  refine aw_callVi (n := 1) (As := [.int x1]) (rest := []) (q0 := 5) C (c_X5_has l D N s0 s2 x1 v1 cw3) lw_26_15 lw_26_16 lw_26_17 lw_1_18 lw_26_18 rfl rfl (by decide +kernel) ⟨Nat.le_of_ble_eq_true rfl, Nat.le_of_ble_eq_true rfl⟩ rfl rfl rfl rfl rfl (Nat.le_of_ble_eq_true rfl) dX11_explained_5 ?_
  refine aw_if_eq (tgt := 18) C dX11_explained_8 (by decide) (fun q => ?_) (fun q => ?_)
  · have h := bq_t q h
    refine aw_sub (lv' := []) [] rfl ?_
    exact T_X11_explained_18 C hE s2 h
  · have h := bq_f q h
    refine aw_iload_n C 2 dX11_explained_11 rfl ?_
    obtain ⟨⟨v4, s5⟩, cw6, h⟩ := oC_e h
    have h := oL_e (x := s5) rfl (oL_e (x := v4) rfl h)
    refine aw_callSi (n := 1) (As := [.int x2]) (rest := []) C (c_X11_isDay l D N s2 s5 x2 v4 cw6) lw_27_6 lw_27_7 lw_1_2 lw_27_8 rfl rfl (by decide +kernel) ⟨Nat.le_of_ble_eq_true rfl, Nat.le_of_ble_eq_true rfl⟩ rfl rfl (Nat.le_of_ble_eq_true rfl) dX11_explained_12 ?_
    refine aw_if_ne (tgt := 20) C dX11_explained_15 (by decide) (fun q => ?_) (fun q => ?_)
    · have h := bq_f q h
      refine aw_aload_n C 0 dX11_explained_20 rfl ?_
      refine cg_aw_notes C lw_2_9 dX11_explained_21 ?_
      refine aw_iload_n C 2 dX11_explained_24 rfl ?_
      obtain ⟨s8, cw9, h⟩ := oC_e h
      have h := oL_e (x := s8) rfl h
      refine aw_callVv (n := 1) (As := [.int x2]) (rest := []) (q0 := 5) C (c_X5_sift l D N s5 s8 x2 cw9) lw_44_4 lw_27_21 lw_27_22 lw_1_18 lw_27_23 rfl rfl (by decide +kernel) ⟨Nat.le_of_ble_eq_true rfl, Nat.le_of_ble_eq_true rfl⟩ rfl rfl rfl rfl rfl (Nat.le_of_ble_eq_true rfl) dX11_explained_25 ?_
      refine aw_aload_n C 0 dX11_explained_28 rfl ?_
      refine cg_aw_notes C lw_2_9 dX11_explained_29 ?_
      refine aw_iload_n C 1 dX11_explained_32 rfl ?_
      refine aw_iconst (v := 2) C dX11_explained_33 (by decide) ?_
      obtain ⟨⟨v10, s11⟩, cw12, h⟩ := oC_e h
      have h := oL_e (x := s11) rfl (oL_e (x := v10) rfl h)
      refine aw_callVi (n := 2) (As := [.int x1, .int (2 : Int32)]) (rest := []) (q0 := 5) C (c_X5_isKnown l D N s8 s11 x1 (2 : Int32) v10 cw12) lw_45_19 lw_28_1 lw_28_2 lw_1_18 lw_28_3 rfl rfl (by decide +kernel) ⟨Nat.le_of_ble_eq_true rfl, Nat.le_of_ble_eq_true rfl⟩ rfl rfl rfl rfl rfl (Nat.le_of_ble_eq_true rfl) dX11_explained_34 ?_
      refine aw_if_ne (tgt := 42) C dX11_explained_37 (by decide) (fun q => ?_) (fun q => ?_)
      · have h := bq_f q h
        refine aw_aload_n C 0 dX11_explained_42 rfl ?_
        refine cg_aw_rumour C lw_3_2 dX11_explained_43 ?_
        refine aw_iload_n C 1 dX11_explained_46 rfl ?_
        obtain ⟨⟨v13, s14⟩, cw15, h⟩ := oC_e h
        have h := oL_e (x := s14) rfl (oL_e (x := v13) rfl h)
        refine aw_callVi (n := 1) (As := [.int x1]) (rest := []) (q0 := 10) C (c_X7_explain l D N s11 s14 x1 v13 cw15) lw_45_20 lw_45_21 lw_45_22 lw_3_1 lw_45_23 rfl rfl (by decide +kernel) ⟨Nat.le_of_ble_eq_true rfl, Nat.le_of_ble_eq_true rfl⟩ rfl rfl rfl rfl rfl (Nat.le_of_ble_eq_true rfl) dX11_explained_47 ?_
        cases h
        exact aw_ret hE dX11_explained_50
      · have h := bq_t q h
        refine aw_iconst (v := -1) C dX11_explained_40 (by decide) ?_
        cases h
        exact aw_ret hE dX11_explained_41
    · have h := bq_t q h
      refine aw_sub (lv' := []) [] rfl ?_
      exact T_X11_explained_18 C hE s5 h
def f_X11_explained (s0 : St) (x1 : Int32) (x2 : Int32) : Option (Int32 × St) := F_X11_explained_0 s0 x1 x2
theorem c_X11_explained (l : Launch) (D : va_G) (N : Nm) (s0 z1 : St) (x1 : Int32) (x2 : Int32) (r : Int32) (h : f_X11_explained s0 x1 x2 = some (r, z1)) : Meti l yX11_explained (tsU yX11_explained cX11_explained 3 (some .int)) rm_X11_explained D N [.ref (N.1 0), .int x1, .int x2] (wC N s0) r (wC N z1) :=
  met_i (cc := cX11_explained) (nL := 3) (own := RX11) (by decide) rfl (Nat.le_of_ble_eq_true rfl) (fun p e s m args below meth c Q A C hE => aw_sub [0, 1, 2] rfl (T_X11_explained_0 C hE s0 x1 x2 h))
/-! AwardLine.through(I)I -/
def rm_X11_through : Room := { frames := 6, cells := 0, slots := 0, locals := 138 }
def F_X11_through_0 (s0 : St) (x1 : Int32) : Option (Int32 × St) :=
  oC (f_X11_isDay s0 x1) fun w3 =>
  oL w3.1 fun v1 => oL w3.2 fun s2 =>
  if v1 = 0 then (
    some ((-1 : Int32), s2))
  else (
    oC (f_X5_sift s2 x1) fun w6 =>
    oL w6 fun s5 =>
    oC (f_X7_carriers s5) fun w9 =>
    oL w9.1 fun v7 => oL w9.2 fun s8 =>
    some (v7, s8))
set_option maxHeartbeats 4000000 in
set_option maxRecDepth 100000 in
theorem T_X11_through_0 {r : Int32} {z1 : St} (C : Cx p rm_X11_through s m args c D A cX11_through 2 RX11 rm_X11_through N) (hE : En p l e rm_X11_through s m args below meth c Q D A cX11_through .ireturn (wC N z1) [.int r])  (s0 : St) (x1 : Int32) (h : F_X11_through_0 s0 x1 = some (r, z1)) : Aw p l e rm_X11_through s m args below meth c Q D A 2 (wC N s0) 0 [(0, .ref (N.1 0)), (1, .int x1)] [] := by
  unfold F_X11_through_0 at h
  refine aw_iload_n C 1 dX11_through_0 rfl ?_
  obtain ⟨⟨v1, s2⟩, cw3, h⟩ := oC_e h
  have h := oL_e (x := s2) rfl (oL_e (x := v1) rfl h)
  refine aw_callSi (n := 1) (As := [.int x1]) (rest := []) C (c_X11_isDay l D N s0 s2 x1 v1 cw3) lw_27_6 lw_27_7 lw_1_2 lw_27_8 rfl rfl (by decide +kernel) ⟨Nat.le_of_ble_eq_true rfl, Nat.le_of_ble_eq_true rfl⟩ rfl rfl (Nat.le_of_ble_eq_true rfl) dX11_through_1 ?_
  refine aw_if_ne (tgt := 9) C dX11_through_4 (by decide) (fun q => ?_) (fun q => ?_)
  · have h := bq_f q h
    refine aw_aload_n C 0 dX11_through_9 rfl ?_
    refine cg_aw_notes C lw_2_9 dX11_through_10 ?_
    refine aw_iload_n C 1 dX11_through_13 rfl ?_
    obtain ⟨s5, cw6, h⟩ := oC_e h
    have h := oL_e (x := s5) rfl h
    refine aw_callVv (n := 1) (As := [.int x1]) (rest := []) (q0 := 5) C (c_X5_sift l D N s2 s5 x1 cw6) lw_44_4 lw_27_21 lw_27_22 lw_1_18 lw_27_23 rfl rfl (by decide +kernel) ⟨Nat.le_of_ble_eq_true rfl, Nat.le_of_ble_eq_true rfl⟩ rfl rfl rfl rfl rfl (Nat.le_of_ble_eq_true rfl) dX11_through_14 ?_
    refine aw_aload_n C 0 dX11_through_17 rfl ?_
    refine cg_aw_rumour C lw_3_2 dX11_through_18 ?_
    obtain ⟨⟨v7, s8⟩, cw9, h⟩ := oC_e h
    have h := oL_e (x := s8) rfl (oL_e (x := v7) rfl h)
    refine aw_callVi (n := 0) (As := []) (rest := []) (q0 := 10) C (c_X7_carriers l D N s5 s8 v7 cw9) lw_46_13 lw_46_14 lw_46_15 lw_3_1 lw_46_16 rfl rfl (by decide +kernel) ⟨Nat.le_of_ble_eq_true rfl, Nat.le_of_ble_eq_true rfl⟩ rfl rfl rfl rfl rfl (Nat.le_of_ble_eq_true rfl) dX11_through_21 ?_
    cases h
    exact aw_ret hE dX11_through_24
  · have h := bq_t q h
    refine aw_iconst (v := -1) C dX11_through_7 (by decide) ?_
    cases h
    exact aw_ret hE dX11_through_8
def f_X11_through (s0 : St) (x1 : Int32) : Option (Int32 × St) := F_X11_through_0 s0 x1
theorem c_X11_through (l : Launch) (D : va_G) (N : Nm) (s0 z1 : St) (x1 : Int32) (r : Int32) (h : f_X11_through s0 x1 = some (r, z1)) : Meti l yX11_through (tsU yX11_through cX11_through 2 (some .int)) rm_X11_through D N [.ref (N.1 0), .int x1] (wC N s0) r (wC N z1) :=
  met_i (cc := cX11_through) (nL := 2) (own := RX11) (by decide) rfl (Nat.le_of_ble_eq_true rfl) (fun p e s m args below meth c Q A C hE => aw_sub [0, 1] rfl (T_X11_through_0 C hE s0 x1 h))
/-! AwardLine.candidate(I)I -/
def rm_X11_candidate : Room := { frames := 1, cells := 0, slots := 0, locals := 22 }
def F_X11_candidate_23 (s0 : St) (t0 : Int32) : Option (Int32 × St) :=
  some (t0, s0)
set_option maxHeartbeats 4000000 in
set_option maxRecDepth 100000 in
theorem T_X11_candidate_23 {r : Int32} {z1 : St} (C : Cx p rm_X11_candidate s m args c D A cX11_candidate 2 RX11 rm_X11_candidate N) (hE : En p l e rm_X11_candidate s m args below meth c Q D A cX11_candidate .ireturn (wC N z1) [.int r])  (s0 : St) (t0 : Int32) (h : F_X11_candidate_23 s0 t0 = some (r, z1)) : Aw p l e rm_X11_candidate s m args below meth c Q D A 2 (wC N s0) 23 [] [.int t0] := by
  unfold F_X11_candidate_23 at h
  cases h
  exact aw_ret hE dX11_candidate_23
def F_X11_candidate_0 (s0 : St) (x1 : Int32) : Option (Int32 × St) :=
  oC (f_X4_has s0 x1) fun w3 =>
  oL w3.1 fun v1 => oL w3.2 fun s2 =>
  if v1 = 0 then (
    F_X11_candidate_23 s2 (-1 : Int32))
  else (
    oC (f_X2_addCandidate s2 x1) fun w6 =>
    oL w6.1 fun v4 => oL w6.2 fun s5 =>
    F_X11_candidate_23 s5 v4)
set_option maxHeartbeats 4000000 in
set_option maxRecDepth 100000 in
theorem T_X11_candidate_0 {r : Int32} {z1 : St} (C : Cx p rm_X11_candidate s m args c D A cX11_candidate 2 RX11 rm_X11_candidate N) (hE : En p l e rm_X11_candidate s m args below meth c Q D A cX11_candidate .ireturn (wC N z1) [.int r])  (s0 : St) (x1 : Int32) (h : F_X11_candidate_0 s0 x1 = some (r, z1)) : Aw p l e rm_X11_candidate s m args below meth c Q D A 2 (wC N s0) 0 [(0, .ref (N.1 0)), (1, .int x1)] [] := by
  unfold F_X11_candidate_0 at h
  refine aw_aload_n C 0 dX11_candidate_0 rfl ?_
  refine cg_aw_land C lw_2_8 dX11_candidate_1 ?_
  refine aw_iload_n C 1 dX11_candidate_4 rfl ?_
  obtain ⟨⟨v1, s2⟩, cw3, h⟩ := oC_e h
  have h := oL_e (x := s2) rfl (oL_e (x := v1) rfl h)
  refine aw_callVi (n := 1) (As := [.int x1]) (rest := []) (q0 := 4) C (c_X4_has l D N s0 s2 x1 v1 cw3) lw_23_4 lw_23_5 lw_23_6 lw_1_15 lw_23_7 rfl rfl (by decide +kernel) ⟨Nat.le_of_ble_eq_true rfl, Nat.le_of_ble_eq_true rfl⟩ rfl rfl rfl rfl rfl (Nat.le_of_ble_eq_true rfl) dX11_candidate_5 ?_
  refine aw_if_eq (tgt := 22) C dX11_candidate_8 (by decide) (fun q => ?_) (fun q => ?_)
  · have h := bq_t q h
    refine aw_iconst (v := -1) C dX11_candidate_22 (by decide) ?_
    refine aw_sub (lv' := []) [] rfl ?_
    exact T_X11_candidate_23 C hE s2 (-1 : Int32) h
  · have h := bq_f q h
    refine aw_aload_n C 0 dX11_candidate_11 rfl ?_
    refine cg_aw_exodus C lw_3_6 dX11_candidate_12 ?_
    refine aw_iload_n C 1 dX11_candidate_15 rfl ?_
    obtain ⟨⟨v4, s5⟩, cw6, h⟩ := oC_e h
    have h := oL_e (x := s5) rfl (oL_e (x := v4) rfl h)
    refine aw_callVi (n := 1) (As := [.int x1]) (rest := []) (q0 := 11) C (c_X2_addCandidate l D N s2 s5 x1 v4 cw6) lw_47_17 lw_47_18 lw_47_19 lw_3_5 lw_47_20 rfl rfl (by decide +kernel) ⟨Nat.le_of_ble_eq_true rfl, Nat.le_of_ble_eq_true rfl⟩ rfl rfl rfl rfl rfl (Nat.le_of_ble_eq_true rfl) dX11_candidate_16 ?_
    refine aw_goto (tgt := 23) C dX11_candidate_19 (by decide) ?_
    refine aw_sub (lv' := []) [] rfl ?_
    exact T_X11_candidate_23 C hE s5 v4 h
def f_X11_candidate (s0 : St) (x1 : Int32) : Option (Int32 × St) := F_X11_candidate_0 s0 x1
theorem c_X11_candidate (l : Launch) (D : va_G) (N : Nm) (s0 z1 : St) (x1 : Int32) (r : Int32) (h : f_X11_candidate s0 x1 = some (r, z1)) : Meti l yX11_candidate (tsU yX11_candidate cX11_candidate 2 (some .int)) rm_X11_candidate D N [.ref (N.1 0), .int x1] (wC N s0) r (wC N z1) :=
  met_i (cc := cX11_candidate) (nL := 2) (own := RX11) (by decide) rfl (Nat.le_of_ble_eq_true rfl) (fun p e s m args below meth c Q A C hE => aw_sub [0, 1] rfl (T_X11_candidate_0 C hE s0 x1 h))
/-! AwardLine.flight(IIIII)I -/
def rm_X11_flight : Room := { frames := 5, cells := 0, slots := 0, locals := 113 }
def F_X11_flight_29 (s0 : St) : Option (Int32 × St) :=
  some ((-1 : Int32), s0)
set_option maxHeartbeats 4000000 in
set_option maxRecDepth 100000 in
theorem T_X11_flight_29 {r : Int32} {z1 : St} (C : Cx p rm_X11_flight s m args c D A cX11_flight 7 RX11 rm_X11_flight N) (hE : En p l e rm_X11_flight s m args below meth c Q D A cX11_flight .ireturn (wC N z1) [.int r])  (s0 : St) (h : F_X11_flight_29 s0 = some (r, z1)) : Aw p l e rm_X11_flight s m args below meth c Q D A 7 (wC N s0) 29 [] [] := by
  unfold F_X11_flight_29 at h
  refine aw_iconst (v := -1) C dX11_flight_29 (by decide) ?_
  cases h
  exact aw_ret hE dX11_flight_30
def F_X11_flight_42 (s0 : St) : Option (Int32 × St) :=
  some ((-1 : Int32), s0)
set_option maxHeartbeats 4000000 in
set_option maxRecDepth 100000 in
theorem T_X11_flight_42 {r : Int32} {z1 : St} (C : Cx p rm_X11_flight s m args c D A cX11_flight 7 RX11 rm_X11_flight N) (hE : En p l e rm_X11_flight s m args below meth c Q D A cX11_flight .ireturn (wC N z1) [.int r])  (s0 : St) (h : F_X11_flight_42 s0 = some (r, z1)) : Aw p l e rm_X11_flight s m args below meth c Q D A 7 (wC N s0) 42 [] [] := by
  unfold F_X11_flight_42 at h
  refine aw_iconst (v := -1) C dX11_flight_42 (by decide) ?_
  cases h
  exact aw_ret hE dX11_flight_43
def F_X11_flight_0 (s0 : St) (x1 : Int32) (x2 : Int32) (x3 : Int32) (x4 : Int32) (x5 : Int32) : Option (Int32 × St) :=
  oC (f_X4_isLine s0 x1) fun w3 =>
  oL w3.1 fun v1 => oL w3.2 fun s2 =>
  if v1 = 0 then (
    F_X11_flight_29 s2)
  else (
    if x2 < 0 then (
      F_X11_flight_29 s2)
    else (
      if (20 : Int32) < x2 then (
        F_X11_flight_29 s2)
      else (
        oC (f_X11_isDay s2 x4) fun w6 =>
        oL w6.1 fun v4 => oL w6.2 fun s5 =>
        if v4 = 0 then (
          F_X11_flight_29 s5)
        else (
          if x5 < 0 then (
            F_X11_flight_42 s5)
          else (
            if x5 ≤ (2 : Int32) then (
              oC (f_X0_take s5 x4) fun w9 =>
              oL w9 fun s8 =>
              oC (f_X2_agree s8) fun w12 =>
              oL w12 fun s11 =>
              oC (f_X2_tell s11 x1 x2 x3) fun w15 =>
              oL w15.1 fun v13 => oL w15.2 fun s14 =>
              if x5 = 0 then (
                some (v13, s14))
              else (
              if x5 = 1 then (
                oC (f_X2_stillAstray s14) fun w18 =>
                oL w18.1 fun v16 => oL w18.2 fun s17 =>
                some (v16, s17))
              else (
                oC (f_X2_fullest s14) fun w21 =>
                oL w21.1 fun v19 => oL w21.2 fun s20 =>
                some (v19, s20))))
            else (
              F_X11_flight_42 s5))))))
set_option maxHeartbeats 4000000 in
set_option maxRecDepth 100000 in
theorem T_X11_flight_0 {r : Int32} {z1 : St} (C : Cx p rm_X11_flight s m args c D A cX11_flight 7 RX11 rm_X11_flight N) (hE : En p l e rm_X11_flight s m args below meth c Q D A cX11_flight .ireturn (wC N z1) [.int r])  (s0 : St) (x1 : Int32) (x2 : Int32) (x3 : Int32) (x4 : Int32) (x5 : Int32) (h : F_X11_flight_0 s0 x1 x2 x3 x4 x5 = some (r, z1)) : Aw p l e rm_X11_flight s m args below meth c Q D A 7 (wC N s0) 0 [(0, .ref (N.1 0)), (1, .int x1), (2, .int x2), (3, .int x3), (4, .int x4), (5, .int x5)] [] := by
  unfold F_X11_flight_0 at h
  refine aw_aload_n C 0 dX11_flight_0 rfl ?_
  refine cg_aw_land C lw_2_8 dX11_flight_1 ?_
  refine aw_iload_n C 1 dX11_flight_4 rfl ?_
  obtain ⟨⟨v1, s2⟩, cw3, h⟩ := oC_e h
  have h := oL_e (x := s2) rfl (oL_e (x := v1) rfl h)
  refine aw_callVi (n := 1) (As := [.int x1]) (rest := []) (q0 := 4) C (c_X4_isLine l D N s0 s2 x1 v1 cw3) lw_35_21 lw_35_22 lw_35_23 lw_1_15 lw_36_0 rfl rfl (by decide +kernel) ⟨Nat.le_of_ble_eq_true rfl, Nat.le_of_ble_eq_true rfl⟩ rfl rfl rfl rfl rfl (Nat.le_of_ble_eq_true rfl) dX11_flight_5 ?_
  refine aw_if_eq (tgt := 29) C dX11_flight_8 (by decide) (fun q => ?_) (fun q => ?_)
  · have h := bq_t q h
    refine aw_sub (lv' := []) [] rfl ?_
    exact T_X11_flight_29 C hE s2 h
  · have h := bq_f q h
    refine aw_iload_n C 2 dX11_flight_11 rfl ?_
    refine aw_if_lt (tgt := 29) C dX11_flight_12 (by decide) (fun q => ?_) (fun q => ?_)
    · have h := bq_t q h
      refine aw_sub (lv' := []) [] rfl ?_
      exact T_X11_flight_29 C hE s2 h
    · have h := bq_f q h
      refine aw_iload_n C 2 dX11_flight_15 rfl ?_
      refine aw_bipush (v := 20) C dX11_flight_16 (by decide) ?_
      refine aw_icmp_gt (tgt := 29) C dX11_flight_18 (by decide) (fun q => ?_) (fun q => ?_)
      · have h := bq_t q h
        refine aw_sub (lv' := []) [] rfl ?_
        exact T_X11_flight_29 C hE s2 h
      · have h := bq_f q h
        refine aw_iload C 4 dX11_flight_21 rfl ?_
        obtain ⟨⟨v4, s5⟩, cw6, h⟩ := oC_e h
        have h := oL_e (x := s5) rfl (oL_e (x := v4) rfl h)
        refine aw_callSi (n := 1) (As := [.int x4]) (rest := []) C (c_X11_isDay l D N s2 s5 x4 v4 cw6) lw_27_6 lw_27_7 lw_1_2 lw_27_8 rfl rfl (by decide +kernel) ⟨Nat.le_of_ble_eq_true rfl, Nat.le_of_ble_eq_true rfl⟩ rfl rfl (Nat.le_of_ble_eq_true rfl) dX11_flight_23 ?_
        refine aw_if_ne (tgt := 31) C dX11_flight_26 (by decide) (fun q => ?_) (fun q => ?_)
        · have h := bq_f q h
          refine aw_iload C 5 dX11_flight_31 rfl ?_
          refine aw_if_lt (tgt := 42) C dX11_flight_33 (by decide) (fun q => ?_) (fun q => ?_)
          · have h := bq_t q h
            refine aw_sub (lv' := []) [] rfl ?_
            exact T_X11_flight_42 C hE s5 h
          · have h := bq_f q h
            refine aw_iload C 5 dX11_flight_36 rfl ?_
            refine aw_iconst (v := 2) C dX11_flight_38 (by decide) ?_
            refine aw_icmp_le (tgt := 44) C dX11_flight_39 (by decide) (fun q => ?_) (fun q => ?_)
            · have h := bq_t q h
              refine aw_aload_n C 0 dX11_flight_44 rfl ?_
              refine cg_aw_census C lw_2_10 dX11_flight_45 ?_
              refine aw_iload C 4 dX11_flight_48 rfl ?_
              obtain ⟨s8, cw9, h⟩ := oC_e h
              have h := oL_e (x := s8) rfl h
              refine aw_callVv (n := 1) (As := [.int x4]) (rest := []) (q0 := 6) C (c_X0_take l D N s5 s8 x4 cw9) lw_27_9 lw_27_10 lw_27_11 lw_1_21 lw_27_12 rfl rfl (by decide +kernel) ⟨Nat.le_of_ble_eq_true rfl, Nat.le_of_ble_eq_true rfl⟩ rfl rfl rfl rfl rfl (Nat.le_of_ble_eq_true rfl) dX11_flight_50 ?_
              refine aw_aload_n C 0 dX11_flight_53 rfl ?_
              refine cg_aw_exodus C lw_3_6 dX11_flight_54 ?_
              refine aw_aload_n C 0 dX11_flight_57 rfl ?_
              refine cg_aw_terms C lw_2_6 dX11_flight_58 ?_
              obtain ⟨s11, cw12, h⟩ := oC_e h
              have h := oL_e (x := s11) rfl h
              refine aw_callVv (n := 1) (As := [.ref (N.1 2)]) (rest := []) (q0 := 11) C (c_X2_agree l D N s8 s11 cw12) lw_48_6 lw_48_7 lw_48_8 lw_3_5 lw_48_9 rfl rfl (by decide +kernel) ⟨Nat.le_of_ble_eq_true rfl, Nat.le_of_ble_eq_true rfl⟩ rfl rfl rfl rfl rfl (Nat.le_of_ble_eq_true rfl) dX11_flight_61 ?_
              refine aw_aload_n C 0 dX11_flight_64 rfl ?_
              refine cg_aw_exodus C lw_3_6 dX11_flight_65 ?_
              refine aw_iload_n C 1 dX11_flight_68 rfl ?_
              refine aw_iload_n C 2 dX11_flight_69 rfl ?_
              refine aw_iload_n C 3 dX11_flight_70 rfl ?_
              obtain ⟨⟨v13, s14⟩, cw15, h⟩ := oC_e h
              have h := oL_e (x := s14) rfl (oL_e (x := v13) rfl h)
              refine aw_callVi (n := 3) (As := [.int x1, .int x2, .int x3]) (rest := []) (q0 := 11) C (c_X2_tell l D N s11 s14 x1 x2 x3 v13 cw15) lw_48_14 lw_48_15 lw_48_16 lw_3_5 lw_48_17 rfl rfl (by decide +kernel) ⟨Nat.le_of_ble_eq_true rfl, Nat.le_of_ble_eq_true rfl⟩ rfl rfl rfl rfl rfl (Nat.le_of_ble_eq_true rfl) dX11_flight_71 ?_
              refine aw_istore (lv' := [(0, .ref (N.1 0)), (1, .int x1), (2, .int x2), (3, .int x3), (4, .int x4), (5, .int x5), (6, .int v13)]) C [1, 2, 3, 4, 5, 6, 0] dX11_flight_74 (by decide) rfl ?_
              refine aw_iload C 5 dX11_flight_76 rfl ?_
              by_cases q0 : x5 = (0 : Int32)
              · have h := bq_t q0 h
                refine aw_lookup (tgt := 104) C 26 dX11_flight_78 (by decide) (by rw [q0]; decide) (by decide) ?_
                refine aw_iload C 6 dX11_flight_104 rfl ?_
                cases h
                exact aw_ret hE dX11_flight_106
              have h := bq_f q0 h
              by_cases q1 : x5 = (1 : Int32)
              · have h := bq_t q1 h
                refine aw_lookup (tgt := 107) C 29 dX11_flight_78 (by decide) (by rw [q1]; decide) (by decide) ?_
                refine aw_aload_n C 0 dX11_flight_107 rfl ?_
                refine cg_aw_exodus C lw_3_6 dX11_flight_108 ?_
                obtain ⟨⟨v16, s17⟩, cw18, h⟩ := oC_e h
                have h := oL_e (x := s17) rfl (oL_e (x := v16) rfl h)
                refine aw_callVi (n := 0) (As := []) (rest := []) (q0 := 11) C (c_X2_stillAstray l D N s14 s17 v16 cw18) lw_49_23 lw_50_0 lw_50_1 lw_3_5 lw_50_2 rfl rfl (by decide +kernel) ⟨Nat.le_of_ble_eq_true rfl, Nat.le_of_ble_eq_true rfl⟩ rfl rfl rfl rfl rfl (Nat.le_of_ble_eq_true rfl) dX11_flight_111 ?_
                cases h
                exact aw_ret hE dX11_flight_114
              have h := bq_f q1 h
              refine aw_lookup (tgt := 115) C 37 dX11_flight_78 (by decide) (by have n0 := sw_ne (k := 0) (by decide) q0; have n1 := sw_ne (k := 1) (by decide) q1; simp only [Op.lookupswitch.offset]; rw [if_neg (fun e => n0 e.symm)]; rw [if_neg (fun e => n1 e.symm)]) (by decide) ?_
              refine aw_aload_n C 0 dX11_flight_115 rfl ?_
              refine cg_aw_exodus C lw_3_6 dX11_flight_116 ?_
              obtain ⟨⟨v19, s20⟩, cw21, h⟩ := oC_e h
              have h := oL_e (x := s20) rfl (oL_e (x := v19) rfl h)
              refine aw_callVi (n := 0) (As := []) (rest := []) (q0 := 11) C (c_X2_fullest l D N s14 s20 v19 cw21) lw_50_3 lw_50_4 lw_50_5 lw_3_5 lw_50_6 rfl rfl (by decide +kernel) ⟨Nat.le_of_ble_eq_true rfl, Nat.le_of_ble_eq_true rfl⟩ rfl rfl rfl rfl rfl (Nat.le_of_ble_eq_true rfl) dX11_flight_119 ?_
              cases h
              exact aw_ret hE dX11_flight_122
            · have h := bq_f q h
              refine aw_sub (lv' := []) [] rfl ?_
              exact T_X11_flight_42 C hE s5 h
        · have h := bq_t q h
          refine aw_sub (lv' := []) [] rfl ?_
          exact T_X11_flight_29 C hE s5 h
def f_X11_flight (s0 : St) (x1 : Int32) (x2 : Int32) (x3 : Int32) (x4 : Int32) (x5 : Int32) : Option (Int32 × St) := F_X11_flight_0 s0 x1 x2 x3 x4 x5
theorem c_X11_flight (l : Launch) (D : va_G) (N : Nm) (s0 z1 : St) (x1 : Int32) (x2 : Int32) (x3 : Int32) (x4 : Int32) (x5 : Int32) (r : Int32) (h : f_X11_flight s0 x1 x2 x3 x4 x5 = some (r, z1)) : Meti l yX11_flight (tsU yX11_flight cX11_flight 7 (some .int)) rm_X11_flight D N [.ref (N.1 0), .int x1, .int x2, .int x3, .int x4, .int x5] (wC N s0) r (wC N z1) :=
  met_i (cc := cX11_flight) (nL := 7) (own := RX11) (by decide) rfl (Nat.le_of_ble_eq_true rfl) (fun p e s m args below meth c Q A C hE => aw_sub [0, 1, 2, 3, 4, 5] rfl (T_X11_flight_0 C hE s0 x1 x2 x3 x4 x5 h))
/-! AwardLine.guards(IIIII)I -/
def rm_X11_guards : Room := { frames := 5, cells := 0, slots := 0, locals := 132 }
def F_X11_guards_27 (s0 : St) : Option (Int32 × St) :=
  some ((-1 : Int32), s0)
set_option maxHeartbeats 4000000 in
set_option maxRecDepth 100000 in
theorem T_X11_guards_27 {r : Int32} {z1 : St} (C : Cx p rm_X11_guards s m args c D A cX11_guards 6 RX11 rm_X11_guards N) (hE : En p l e rm_X11_guards s m args below meth c Q D A cX11_guards .ireturn (wC N z1) [.int r])  (s0 : St) (h : F_X11_guards_27 s0 = some (r, z1)) : Aw p l e rm_X11_guards s m args below meth c Q D A 6 (wC N s0) 27 [] [] := by
  unfold F_X11_guards_27 at h
  refine aw_iconst (v := -1) C dX11_guards_27 (by decide) ?_
  cases h
  exact aw_ret hE dX11_guards_28
def F_X11_guards_59 (s0 : St) : Option (Int32 × St) :=
  some ((-1 : Int32), s0)
set_option maxHeartbeats 4000000 in
set_option maxRecDepth 100000 in
theorem T_X11_guards_59 {r : Int32} {z1 : St} (C : Cx p rm_X11_guards s m args c D A cX11_guards 6 RX11 rm_X11_guards N) (hE : En p l e rm_X11_guards s m args below meth c Q D A cX11_guards .ireturn (wC N z1) [.int r])  (s0 : St) (h : F_X11_guards_59 s0 = some (r, z1)) : Aw p l e rm_X11_guards s m args below meth c Q D A 6 (wC N s0) 59 [] [] := by
  unfold F_X11_guards_59 at h
  refine aw_iconst (v := -1) C dX11_guards_59 (by decide) ?_
  cases h
  exact aw_ret hE dX11_guards_60
def F_X11_guards_117 (s0 : St) (t0 : Int32) : Option (Int32 × St) :=
  some (t0, s0)
set_option maxHeartbeats 4000000 in
set_option maxRecDepth 100000 in
theorem T_X11_guards_117 {r : Int32} {z1 : St} (C : Cx p rm_X11_guards s m args c D A cX11_guards 6 RX11 rm_X11_guards N) (hE : En p l e rm_X11_guards s m args below meth c Q D A cX11_guards .ireturn (wC N z1) [.int r])  (s0 : St) (t0 : Int32) (h : F_X11_guards_117 s0 t0 = some (r, z1)) : Aw p l e rm_X11_guards s m args below meth c Q D A 6 (wC N s0) 117 [] [.int t0] := by
  unfold F_X11_guards_117 at h
  cases h
  exact aw_ret hE dX11_guards_117
def F_X11_guards_0 (s0 : St) (x1 : Int32) (x2 : Int32) (x3 : Int32) (x4 : Int32) (x5 : Int32) : Option (Int32 × St) :=
  if x1 < 0 then (
    F_X11_guards_27 s0)
  else (
    if (8 : Int32) < x1 then (
      F_X11_guards_27 s0)
    else (
      if x2 ≤ 0 then (
        F_X11_guards_27 s0)
      else (
        if x2 < (1 : Int32) <<< ((s0.1 30) &&& 31) then (
          if x3 < (1 : Int32) then (
            F_X11_guards_59 s0)
          else (
            if (20 : Int32) < x3 then (
              F_X11_guards_59 s0)
            else (
              oC (f_X11_isDay s0 x4) fun w3 =>
              oL w3.1 fun v1 => oL w3.2 fun s2 =>
              if v1 = 0 then (
                F_X11_guards_59 s2)
              else (
                if x5 < 0 then (
                  F_X11_guards_59 s2)
                else (
                  if x5 ≤ (1 : Int32) then (
                    oC (f_X0_take s2 x4) fun w6 =>
                    oL w6 fun s5 =>
                    oC (f_X2_agree s5) fun w9 =>
                    oL w9 fun s8 =>
                    oC (f_X2_place s8 x1 x2 x3) fun w12 =>
                    oL w12 fun s11 =>
                    if x5 = 0 then (
                      F_X11_guards_117 s11 (s11.1 38))
                    else (
                      F_X11_guards_117 s11 (s11.1 39)))
                  else (
                    F_X11_guards_59 s2))))))
        else (
          F_X11_guards_27 s0))))
set_option maxHeartbeats 4000000 in
set_option maxRecDepth 100000 in
theorem T_X11_guards_0 {r : Int32} {z1 : St} (C : Cx p rm_X11_guards s m args c D A cX11_guards 6 RX11 rm_X11_guards N) (hE : En p l e rm_X11_guards s m args below meth c Q D A cX11_guards .ireturn (wC N z1) [.int r])  (s0 : St) (x1 : Int32) (x2 : Int32) (x3 : Int32) (x4 : Int32) (x5 : Int32) (h : F_X11_guards_0 s0 x1 x2 x3 x4 x5 = some (r, z1)) : Aw p l e rm_X11_guards s m args below meth c Q D A 6 (wC N s0) 0 [(0, .ref (N.1 0)), (1, .int x1), (2, .int x2), (3, .int x3), (4, .int x4), (5, .int x5)] [] := by
  unfold F_X11_guards_0 at h
  refine aw_iload_n C 1 dX11_guards_0 rfl ?_
  refine aw_if_lt (tgt := 27) C dX11_guards_1 (by decide) (fun q => ?_) (fun q => ?_)
  · have h := bq_t q h
    refine aw_sub (lv' := []) [] rfl ?_
    exact T_X11_guards_27 C hE s0 h
  · have h := bq_f q h
    refine aw_iload_n C 1 dX11_guards_4 rfl ?_
    refine aw_bipush (v := 8) C dX11_guards_5 (by decide) ?_
    refine aw_icmp_gt (tgt := 27) C dX11_guards_7 (by decide) (fun q => ?_) (fun q => ?_)
    · have h := bq_t q h
      refine aw_sub (lv' := []) [] rfl ?_
      exact T_X11_guards_27 C hE s0 h
    · have h := bq_f q h
      refine aw_iload_n C 2 dX11_guards_10 rfl ?_
      refine aw_if_le (tgt := 27) C dX11_guards_11 (by decide) (fun q => ?_) (fun q => ?_)
      · have h := bq_t q h
        refine aw_sub (lv' := []) [] rfl ?_
        exact T_X11_guards_27 C hE s0 h
      · have h := bq_f q h
        refine aw_iload_n C 2 dX11_guards_14 rfl ?_
        refine aw_iconst (v := 1) C dX11_guards_15 (by decide) ?_
        refine aw_aload_n C 0 dX11_guards_16 rfl ?_
        refine cg_aw_drafts C lw_2_14 dX11_guards_17 ?_
        refine cg_dr_held C lw_22_8 dX11_guards_20 ?_
        refine aw_ishl C dX11_guards_23 ?_
        refine aw_icmp_lt (tgt := 29) C dX11_guards_24 (by decide) (fun q => ?_) (fun q => ?_)
        · have h := bq_t q h
          refine aw_iload_n C 3 dX11_guards_29 rfl ?_
          refine aw_iconst (v := 1) C dX11_guards_30 (by decide) ?_
          refine aw_icmp_lt (tgt := 59) C dX11_guards_31 (by decide) (fun q => ?_) (fun q => ?_)
          · have h := bq_t q h
            refine aw_sub (lv' := []) [] rfl ?_
            exact T_X11_guards_59 C hE s0 h
          · have h := bq_f q h
            refine aw_iload_n C 3 dX11_guards_34 rfl ?_
            refine aw_bipush (v := 20) C dX11_guards_35 (by decide) ?_
            refine aw_icmp_gt (tgt := 59) C dX11_guards_37 (by decide) (fun q => ?_) (fun q => ?_)
            · have h := bq_t q h
              refine aw_sub (lv' := []) [] rfl ?_
              exact T_X11_guards_59 C hE s0 h
            · have h := bq_f q h
              refine aw_iload C 4 dX11_guards_40 rfl ?_
              obtain ⟨⟨v1, s2⟩, cw3, h⟩ := oC_e h
              have h := oL_e (x := s2) rfl (oL_e (x := v1) rfl h)
              refine aw_callSi (n := 1) (As := [.int x4]) (rest := []) C (c_X11_isDay l D N s0 s2 x4 v1 cw3) lw_27_6 lw_27_7 lw_1_2 lw_27_8 rfl rfl (by decide +kernel) ⟨Nat.le_of_ble_eq_true rfl, Nat.le_of_ble_eq_true rfl⟩ rfl rfl (Nat.le_of_ble_eq_true rfl) dX11_guards_42 ?_
              refine aw_if_eq (tgt := 59) C dX11_guards_45 (by decide) (fun q => ?_) (fun q => ?_)
              · have h := bq_t q h
                refine aw_sub (lv' := []) [] rfl ?_
                exact T_X11_guards_59 C hE s2 h
              · have h := bq_f q h
                refine aw_iload C 5 dX11_guards_48 rfl ?_
                refine aw_if_lt (tgt := 59) C dX11_guards_50 (by decide) (fun q => ?_) (fun q => ?_)
                · have h := bq_t q h
                  refine aw_sub (lv' := []) [] rfl ?_
                  exact T_X11_guards_59 C hE s2 h
                · have h := bq_f q h
                  refine aw_iload C 5 dX11_guards_53 rfl ?_
                  refine aw_iconst (v := 1) C dX11_guards_55 (by decide) ?_
                  refine aw_icmp_le (tgt := 61) C dX11_guards_56 (by decide) (fun q => ?_) (fun q => ?_)
                  · have h := bq_t q h
                    refine aw_aload_n C 0 dX11_guards_61 rfl ?_
                    refine cg_aw_census C lw_2_10 dX11_guards_62 ?_
                    refine aw_iload C 4 dX11_guards_65 rfl ?_
                    obtain ⟨s5, cw6, h⟩ := oC_e h
                    have h := oL_e (x := s5) rfl h
                    refine aw_callVv (n := 1) (As := [.int x4]) (rest := []) (q0 := 6) C (c_X0_take l D N s2 s5 x4 cw6) lw_27_9 lw_27_10 lw_27_11 lw_1_21 lw_27_12 rfl rfl (by decide +kernel) ⟨Nat.le_of_ble_eq_true rfl, Nat.le_of_ble_eq_true rfl⟩ rfl rfl rfl rfl rfl (Nat.le_of_ble_eq_true rfl) dX11_guards_67 ?_
                    refine aw_aload_n C 0 dX11_guards_70 rfl ?_
                    refine cg_aw_exodus C lw_3_6 dX11_guards_71 ?_
                    refine aw_aload_n C 0 dX11_guards_74 rfl ?_
                    refine cg_aw_terms C lw_2_6 dX11_guards_75 ?_
                    obtain ⟨s8, cw9, h⟩ := oC_e h
                    have h := oL_e (x := s8) rfl h
                    refine aw_callVv (n := 1) (As := [.ref (N.1 2)]) (rest := []) (q0 := 11) C (c_X2_agree l D N s5 s8 cw9) lw_48_6 lw_48_7 lw_48_8 lw_3_5 lw_48_9 rfl rfl (by decide +kernel) ⟨Nat.le_of_ble_eq_true rfl, Nat.le_of_ble_eq_true rfl⟩ rfl rfl rfl rfl rfl (Nat.le_of_ble_eq_true rfl) dX11_guards_78 ?_
                    refine aw_aload_n C 0 dX11_guards_81 rfl ?_
                    refine cg_aw_exodus C lw_3_6 dX11_guards_82 ?_
                    refine aw_iload_n C 1 dX11_guards_85 rfl ?_
                    refine aw_iload_n C 2 dX11_guards_86 rfl ?_
                    refine aw_aload_n C 0 dX11_guards_87 rfl ?_
                    refine cg_aw_drafts C lw_2_14 dX11_guards_88 ?_
                    refine aw_iload_n C 3 dX11_guards_91 rfl ?_
                    obtain ⟨s11, cw12, h⟩ := oC_e h
                    have h := oL_e (x := s11) rfl h
                    refine aw_callVv (n := 4) (As := [.int x1, .int x2, .ref (N.1 7), .int x3]) (rest := []) (q0 := 11) C (c_X2_place l D N s8 s11 x1 x2 x3 cw12) lw_51_22 lw_51_23 lw_52_0 lw_3_5 lw_52_1 rfl rfl (by decide +kernel) ⟨Nat.le_of_ble_eq_true rfl, Nat.le_of_ble_eq_true rfl⟩ rfl rfl rfl rfl rfl (Nat.le_of_ble_eq_true rfl) dX11_guards_92 ?_
                    refine aw_iload C 5 dX11_guards_95 rfl ?_
                    refine aw_if_ne (tgt := 110) C dX11_guards_97 (by decide) (fun q => ?_) (fun q => ?_)
                    · have h := bq_f q h
                      refine aw_aload_n C 0 dX11_guards_110 rfl ?_
                      refine cg_aw_exodus C lw_3_6 dX11_guards_111 ?_
                      refine cg_ex_bestLost C lw_51_21 dX11_guards_114 ?_
                      refine aw_sub (lv' := []) [] rfl ?_
                      exact T_X11_guards_117 C hE s11 (s11.1 39) h
                    · have h := bq_t q h
                      refine aw_aload_n C 0 dX11_guards_100 rfl ?_
                      refine cg_aw_exodus C lw_3_6 dX11_guards_101 ?_
                      refine cg_ex_bestGuards C lw_51_20 dX11_guards_104 ?_
                      refine aw_goto (tgt := 117) C dX11_guards_107 (by decide) ?_
                      refine aw_sub (lv' := []) [] rfl ?_
                      exact T_X11_guards_117 C hE s11 (s11.1 38) h
                  · have h := bq_f q h
                    refine aw_sub (lv' := []) [] rfl ?_
                    exact T_X11_guards_59 C hE s2 h
        · have h := bq_f q h
          refine aw_sub (lv' := []) [] rfl ?_
          exact T_X11_guards_27 C hE s0 h
def f_X11_guards (s0 : St) (x1 : Int32) (x2 : Int32) (x3 : Int32) (x4 : Int32) (x5 : Int32) : Option (Int32 × St) := F_X11_guards_0 s0 x1 x2 x3 x4 x5
theorem c_X11_guards (l : Launch) (D : va_G) (N : Nm) (s0 z1 : St) (x1 : Int32) (x2 : Int32) (x3 : Int32) (x4 : Int32) (x5 : Int32) (r : Int32) (h : f_X11_guards s0 x1 x2 x3 x4 x5 = some (r, z1)) : Meti l yX11_guards (tsU yX11_guards cX11_guards 6 (some .int)) rm_X11_guards D N [.ref (N.1 0), .int x1, .int x2, .int x3, .int x4, .int x5] (wC N s0) r (wC N z1) :=
  met_i (cc := cX11_guards) (nL := 6) (own := RX11) (by decide) rfl (Nat.le_of_ble_eq_true rfl) (fun p e s m args below meth c Q A C hE => aw_sub [0, 1, 2, 3, 4, 5] rfl (T_X11_guards_0 C hE s0 x1 x2 x3 x4 x5 h))
/-! AwardLine.counted(I)I -/
def rm_X11_counted : Room := { frames := 0, cells := 0, slots := 0, locals := 0 }
def F_X11_counted_0 (s0 : St) (x1 : Int32) : Option (Int32 × St) :=
  if x1 = 0 then (
    some ((s0.1 0), s0))
  else (
  if x1 = 1 then (
    some ((s0.1 21), s0))
  else (
  if x1 = 2 then (
    some ((s0.1 29), s0))
  else (
  if x1 = 3 then (
    some ((s0.1 25), s0))
  else (
  if x1 = 4 then (
    some ((s0.1 30), s0))
  else (
  if x1 = 5 then (
    some ((s0.1 37), s0))
  else (
  if x1 = 6 then (
    some ((s0.1 16), s0))
  else (
  if x1 = 7 then (
    some ((s0.1 14), s0))
  else (
  if x1 = 8 then (
    some ((s0.1 15), s0))
  else (
    some ((-1 : Int32), s0))))))))))
set_option maxHeartbeats 4000000 in
set_option maxRecDepth 100000 in
theorem T_X11_counted_0 {r : Int32} {z1 : St} (C : Cx p rm_X11_counted s m args c D A cX11_counted 2 RX11 rm_X11_counted N) (hE : En p l e rm_X11_counted s m args below meth c Q D A cX11_counted .ireturn (wC N z1) [.int r])  (s0 : St) (x1 : Int32) (h : F_X11_counted_0 s0 x1 = some (r, z1)) : Aw p l e rm_X11_counted s m args below meth c Q D A 2 (wC N s0) 0 [(0, .ref (N.1 0)), (1, .int x1)] [] := by
  unfold F_X11_counted_0 at h
  refine aw_iload_n C 1 dX11_counted_0 rfl ?_
  by_cases q0 : x1 = (0 : Int32)
  · have h := bq_t q0 h
    refine aw_table (tgt := 52) C 51 dX11_counted_1 (by rw [q0]; decide) (by rw [q0]; decide) (by rw [q0]; decide) (by decide) ?_
    refine aw_aload_n C 0 dX11_counted_52 rfl ?_
    refine cg_aw_today C lw_1_22 dX11_counted_53 ?_
    cases h
    exact aw_ret hE dX11_counted_56
  have h := bq_f q0 h
  by_cases q1 : x1 = (1 : Int32)
  · have h := bq_t q1 h
    refine aw_table (tgt := 57) C 56 dX11_counted_1 (by rw [q1]; decide) (by rw [q1]; decide) (by rw [q1]; decide) (by decide) ?_
    refine aw_aload_n C 0 dX11_counted_57 rfl ?_
    refine cg_aw_land C lw_2_8 dX11_counted_58 ?_
    refine cg_ln_size C lw_41_18 dX11_counted_61 ?_
    cases h
    exact aw_ret hE dX11_counted_64
  have h := bq_f q1 h
  by_cases q2 : x1 = (2 : Int32)
  · have h := bq_t q2 h
    refine aw_table (tgt := 65) C 64 dX11_counted_1 (by rw [q2]; decide) (by rw [q2]; decide) (by rw [q2]; decide) (by decide) ?_
    refine aw_aload_n C 0 dX11_counted_65 rfl ?_
    refine cg_aw_notes C lw_2_9 dX11_counted_66 ?_
    refine cg_nt_held C lw_22_7 dX11_counted_69 ?_
    cases h
    exact aw_ret hE dX11_counted_72
  have h := bq_f q2 h
  by_cases q3 : x1 = (3 : Int32)
  · have h := bq_t q3 h
    refine aw_table (tgt := 73) C 72 dX11_counted_1 (by rw [q3]; decide) (by rw [q3]; decide) (by rw [q3]; decide) (by decide) ?_
    refine aw_aload_n C 0 dX11_counted_73 rfl ?_
    refine cg_aw_land C lw_2_8 dX11_counted_74 ?_
    refine cg_ln_canals C lw_30_9 dX11_counted_77 ?_
    cases h
    exact aw_ret hE dX11_counted_80
  have h := bq_f q3 h
  by_cases q4 : x1 = (4 : Int32)
  · have h := bq_t q4 h
    refine aw_table (tgt := 81) C 80 dX11_counted_1 (by rw [q4]; decide) (by rw [q4]; decide) (by rw [q4]; decide) (by decide) ?_
    refine aw_aload_n C 0 dX11_counted_81 rfl ?_
    refine cg_aw_drafts C lw_2_14 dX11_counted_82 ?_
    refine cg_dr_held C lw_22_8 dX11_counted_85 ?_
    cases h
    exact aw_ret hE dX11_counted_88
  have h := bq_f q4 h
  by_cases q5 : x1 = (5 : Int32)
  · have h := bq_t q5 h
    refine aw_table (tgt := 89) C 88 dX11_counted_1 (by rw [q5]; decide) (by rw [q5]; decide) (by rw [q5]; decide) (by decide) ?_
    refine aw_aload_n C 0 dX11_counted_89 rfl ?_
    refine cg_aw_exodus C lw_3_6 dX11_counted_90 ?_
    refine cg_ex_candidates C lw_22_9 dX11_counted_93 ?_
    cases h
    exact aw_ret hE dX11_counted_96
  have h := bq_f q5 h
  by_cases q6 : x1 = (6 : Int32)
  · have h := bq_t q6 h
    refine aw_table (tgt := 97) C 96 dX11_counted_1 (by rw [q6]; decide) (by rw [q6]; decide) (by rw [q6]; decide) (by decide) ?_
    refine aw_aload_n C 0 dX11_counted_97 rfl ?_
    refine cg_aw_terms C lw_2_6 dX11_counted_98 ?_
    refine cg_tc_knots C lw_52_19 dX11_counted_101 ?_
    cases h
    exact aw_ret hE dX11_counted_104
  have h := bq_f q6 h
  by_cases q7 : x1 = (7 : Int32)
  · have h := bq_t q7 h
    refine aw_table (tgt := 105) C 104 dX11_counted_1 (by rw [q7]; decide) (by rw [q7]; decide) (by rw [q7]; decide) (by decide) ?_
    refine aw_aload_n C 0 dX11_counted_105 rfl ?_
    refine cg_aw_terms C lw_2_6 dX11_counted_106 ?_
    refine cg_tc_fear C lw_52_20 dX11_counted_109 ?_
    cases h
    exact aw_ret hE dX11_counted_112
  have h := bq_f q7 h
  by_cases q8 : x1 = (8 : Int32)
  · have h := bq_t q8 h
    refine aw_table (tgt := 113) C 112 dX11_counted_1 (by rw [q8]; decide) (by rw [q8]; decide) (by rw [q8]; decide) (by decide) ?_
    refine aw_aload_n C 0 dX11_counted_113 rfl ?_
    refine cg_aw_terms C lw_2_6 dX11_counted_114 ?_
    refine cg_tc_lose C lw_52_21 dX11_counted_117 ?_
    cases h
    exact aw_ret hE dX11_counted_120
  have h := bq_f q8 h
  refine aw_tableO (tgt := 121) C dX11_counted_1 (by have n0 := sw_ne (k := 0) (by decide) q0; have n1 := sw_ne (k := 1) (by decide) q1; have n2 := sw_ne (k := 2) (by decide) q2; have n3 := sw_ne (k := 3) (by decide) q3; have n4 := sw_ne (k := 4) (by decide) q4; have n5 := sw_ne (k := 5) (by decide) q5; have n6 := sw_ne (k := 6) (by decide) q6; have n7 := sw_ne (k := 7) (by decide) q7; have n8 := sw_ne (k := 8) (by decide) q8; omega) (by decide) ?_
  refine aw_iconst (v := -1) C dX11_counted_121 (by decide) ?_
  cases h
  exact aw_ret hE dX11_counted_122
def f_X11_counted (s0 : St) (x1 : Int32) : Option (Int32 × St) := F_X11_counted_0 s0 x1
theorem c_X11_counted (l : Launch) (D : va_G) (N : Nm) (s0 z1 : St) (x1 : Int32) (r : Int32) (h : f_X11_counted s0 x1 = some (r, z1)) : Meti l yX11_counted (tsU yX11_counted cX11_counted 2 (some .int)) rm_X11_counted D N [.ref (N.1 0), .int x1] (wC N s0) r (wC N z1) :=
  met_i (cc := cX11_counted) (nL := 2) (own := RX11) (by decide) rfl (Nat.le_of_ble_eq_true rfl) (fun p e s m args below meth c Q A C hE => aw_sub [0, 1] rfl (T_X11_counted_0 C hE s0 x1 h))
end WK
