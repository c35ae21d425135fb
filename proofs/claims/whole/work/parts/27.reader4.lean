section WK
variable {p : Program} {l : Launch} {e : Env} {s : State} {m : MethodId} {args : Array Value} {below : List Frame} {meth : Method} {c : Code} {Q : State → Prop} {D : va_G} {A : Nat → Prop} {N : Nm}
/-! AwardLine$Reader.lineOfTerms()Z -/
def rm_X6_lineOfTerms : Room := { frames := 341, cells := 0, slots := 0, locals := 33025 }
def F_X6_lineOfTerms_59 (s0 : St) (t0 : Int32) : Option (Int32 × St) :=
  some (t0, s0)
set_option maxHeartbeats 4000000 in
set_option maxRecDepth 100000 in
theorem T_X6_lineOfTerms_59 {r : Int32} {z1 : St} (C : Cx p rm_X6_lineOfTerms s m args c D A cX6_lineOfTerms 1 RX6 rm_X6_lineOfTerms N) (hE : En p l e rm_X6_lineOfTerms s m args below meth c Q D A cX6_lineOfTerms .ireturn (wC N z1) [.int r])  (s0 : St) (t0 : Int32) (h : F_X6_lineOfTerms_59 s0 t0 = some (r, z1)) : Aw p l e rm_X6_lineOfTerms s m args below meth c Q D A 1 (wC N s0) 59 [] [.int t0] := by
  unfold F_X6_lineOfTerms_59 at h
  cases h
  exact aw_ret hE dX6_lineOfTerms_59
def F_X6_lineOfTerms_58 (s0 : St) : Option (Int32 × St) :=
  F_X6_lineOfTerms_59 s0 (0 : Int32)
set_option maxHeartbeats 4000000 in
set_option maxRecDepth 100000 in
theorem T_X6_lineOfTerms_58 {r : Int32} {z1 : St} (C : Cx p rm_X6_lineOfTerms s m args c D A cX6_lineOfTerms 1 RX6 rm_X6_lineOfTerms N) (hE : En p l e rm_X6_lineOfTerms s m args below meth c Q D A cX6_lineOfTerms .ireturn (wC N z1) [.int r])  (s0 : St) (h : F_X6_lineOfTerms_58 s0 = some (r, z1)) : Aw p l e rm_X6_lineOfTerms s m args below meth c Q D A 1 (wC N s0) 58 [] [] := by
  unfold F_X6_lineOfTerms_58 at h
  refine aw_iconst (v := 0) C dX6_lineOfTerms_58 (by decide) ?_
  refine aw_sub (lv' := []) [] rfl ?_
  exact T_X6_lineOfTerms_59 C hE s0 (0 : Int32) h
def F_X6_lineOfTerms_81 (s0 : St) (t0 : Int32) : Option (Int32 × St) :=
  some (t0, s0)
set_option maxHeartbeats 4000000 in
set_option maxRecDepth 100000 in
theorem T_X6_lineOfTerms_81 {r : Int32} {z1 : St} (C : Cx p rm_X6_lineOfTerms s m args c D A cX6_lineOfTerms 1 RX6 rm_X6_lineOfTerms N) (hE : En p l e rm_X6_lineOfTerms s m args below meth c Q D A cX6_lineOfTerms .ireturn (wC N z1) [.int r])  (s0 : St) (t0 : Int32) (h : F_X6_lineOfTerms_81 s0 t0 = some (r, z1)) : Aw p l e rm_X6_lineOfTerms s m args below meth c Q D A 1 (wC N s0) 81 [] [.int t0] := by
  unfold F_X6_lineOfTerms_81 at h
  cases h
  exact aw_ret hE dX6_lineOfTerms_81
def F_X6_lineOfTerms_80 (s0 : St) : Option (Int32 × St) :=
  F_X6_lineOfTerms_81 s0 (0 : Int32)
set_option maxHeartbeats 4000000 in
set_option maxRecDepth 100000 in
theorem T_X6_lineOfTerms_80 {r : Int32} {z1 : St} (C : Cx p rm_X6_lineOfTerms s m args c D A cX6_lineOfTerms 1 RX6 rm_X6_lineOfTerms N) (hE : En p l e rm_X6_lineOfTerms s m args below meth c Q D A cX6_lineOfTerms .ireturn (wC N z1) [.int r])  (s0 : St) (h : F_X6_lineOfTerms_80 s0 = some (r, z1)) : Aw p l e rm_X6_lineOfTerms s m args below meth c Q D A 1 (wC N s0) 80 [] [] := by
  unfold F_X6_lineOfTerms_80 at h
  refine aw_iconst (v := 0) C dX6_lineOfTerms_80 (by decide) ?_
  refine aw_sub (lv' := []) [] rfl ?_
  exact T_X6_lineOfTerms_81 C hE s0 (0 : Int32) h
def F_X6_lineOfTerms_101 (s0 : St) (t0 : Int32) : Option (Int32 × St) :=
  some (t0, s0)
set_option maxHeartbeats 4000000 in
set_option maxRecDepth 100000 in
theorem T_X6_lineOfTerms_101 {r : Int32} {z1 : St} (C : Cx p rm_X6_lineOfTerms s m args c D A cX6_lineOfTerms 1 RX6 rm_X6_lineOfTerms N) (hE : En p l e rm_X6_lineOfTerms s m args below meth c Q D A cX6_lineOfTerms .ireturn (wC N z1) [.int r])  (s0 : St) (t0 : Int32) (h : F_X6_lineOfTerms_101 s0 t0 = some (r, z1)) : Aw p l e rm_X6_lineOfTerms s m args below meth c Q D A 1 (wC N s0) 101 [] [.int t0] := by
  unfold F_X6_lineOfTerms_101 at h
  cases h
  exact aw_ret hE dX6_lineOfTerms_101
def F_X6_lineOfTerms_100 (s0 : St) : Option (Int32 × St) :=
  F_X6_lineOfTerms_101 s0 (0 : Int32)
set_option maxHeartbeats 4000000 in
set_option maxRecDepth 100000 in
theorem T_X6_lineOfTerms_100 {r : Int32} {z1 : St} (C : Cx p rm_X6_lineOfTerms s m args c D A cX6_lineOfTerms 1 RX6 rm_X6_lineOfTerms N) (hE : En p l e rm_X6_lineOfTerms s m args below meth c Q D A cX6_lineOfTerms .ireturn (wC N z1) [.int r])  (s0 : St) (h : F_X6_lineOfTerms_100 s0 = some (r, z1)) : Aw p l e rm_X6_lineOfTerms s m args below meth c Q D A 1 (wC N s0) 100 [] [] := by
  unfold F_X6_lineOfTerms_100 at h
  refine aw_iconst (v := 0) C dX6_lineOfTerms_100 (by decide) ?_
  refine aw_sub (lv' := []) [] rfl ?_
  exact T_X6_lineOfTerms_101 C hE s0 (0 : Int32) h
def F_X6_lineOfTerms_121 (s0 : St) (t0 : Int32) : Option (Int32 × St) :=
  some (t0, s0)
set_option maxHeartbeats 4000000 in
set_option maxRecDepth 100000 in
theorem T_X6_lineOfTerms_121 {r : Int32} {z1 : St} (C : Cx p rm_X6_lineOfTerms s m args c D A cX6_lineOfTerms 1 RX6 rm_X6_lineOfTerms N) (hE : En p l e rm_X6_lineOfTerms s m args below meth c Q D A cX6_lineOfTerms .ireturn (wC N z1) [.int r])  (s0 : St) (t0 : Int32) (h : F_X6_lineOfTerms_121 s0 t0 = some (r, z1)) : Aw p l e rm_X6_lineOfTerms s m args below meth c Q D A 1 (wC N s0) 121 [] [.int t0] := by
  unfold F_X6_lineOfTerms_121 at h
  cases h
  exact aw_ret hE dX6_lineOfTerms_121
def F_X6_lineOfTerms_120 (s0 : St) : Option (Int32 × St) :=
  F_X6_lineOfTerms_121 s0 (0 : Int32)
set_option maxHeartbeats 4000000 in
set_option maxRecDepth 100000 in
theorem T_X6_lineOfTerms_120 {r : Int32} {z1 : St} (C : Cx p rm_X6_lineOfTerms s m args c D A cX6_lineOfTerms 1 RX6 rm_X6_lineOfTerms N) (hE : En p l e rm_X6_lineOfTerms s m args below meth c Q D A cX6_lineOfTerms .ireturn (wC N z1) [.int r])  (s0 : St) (h : F_X6_lineOfTerms_120 s0 = some (r, z1)) : Aw p l e rm_X6_lineOfTerms s m args below meth c Q D A 1 (wC N s0) 120 [] [] := by
  unfold F_X6_lineOfTerms_120 at h
  refine aw_iconst (v := 0) C dX6_lineOfTerms_120 (by decide) ?_
  refine aw_sub (lv' := []) [] rfl ?_
  exact T_X6_lineOfTerms_121 C hE s0 (0 : Int32) h
def F_X6_lineOfTerms_0 (s0 : St) : Option (Int32 × St) :=
  if (s0.1 6) = 0 then (
    oC (f_X6_once s0) fun w3 =>
    oL w3.1 fun v1 => oL w3.2 fun s2 =>
    if v1 = 0 then (
      F_X6_lineOfTerms_58 s2)
    else (
      oC (f_X6_unitLine s2) fun w6 =>
      oL w6.1 fun v4 => oL w6.2 fun s5 =>
      if v4 = 0 then (
        F_X6_lineOfTerms_58 s5)
      else (
        F_X6_lineOfTerms_59 s5 (1 : Int32))))
  else (
  if (s0.1 6) = 1 then (
    oC (f_X6_once s0) fun w9 =>
    oL w9.1 fun v7 => oL w9.2 fun s8 =>
    if v7 = 0 then (
      F_X6_lineOfTerms_80 s8)
    else (
      oC (f_X6_row 80 s8 (0 : Int32) (0 : Int32)) fun w12 =>
      oL w12.1 fun v10 => oL w12.2 fun s11 =>
      if v10 = 0 then (
        F_X6_lineOfTerms_80 s11)
      else (
        F_X6_lineOfTerms_81 s11 (1 : Int32))))
  else (
  if (s0.1 6) = 2 then (
    oC (f_X6_once s0) fun w15 =>
    oL w15.1 fun v13 => oL w15.2 fun s14 =>
    if v13 = 0 then (
      F_X6_lineOfTerms_100 s14)
    else (
      oC (f_X6_fearLine s14) fun w18 =>
      oL w18.1 fun v16 => oL w18.2 fun s17 =>
      if v16 = 0 then (
        F_X6_lineOfTerms_100 s17)
      else (
        F_X6_lineOfTerms_101 s17 (1 : Int32))))
  else (
  if (s0.1 6) = 3 then (
    oC (f_X6_once s0) fun w21 =>
    oL w21.1 fun v19 => oL w21.2 fun s20 =>
    if v19 = 0 then (
      F_X6_lineOfTerms_120 s20)
    else (
      oC (f_X6_loseLine s20) fun w24 =>
      oL w24.1 fun v22 => oL w24.2 fun s23 =>
      if v22 = 0 then (
        F_X6_lineOfTerms_120 s23)
      else (
        F_X6_lineOfTerms_121 s23 (1 : Int32))))
  else (
  if (s0.1 6) = 4 then (
    oC (f_X6_advance s0) fun w27 =>
    oL w27 fun s26 =>
    oC (f_X6_weighLine s26) fun w30 =>
    oL w30.1 fun v28 => oL w30.2 fun s29 =>
    some (v28, s29))
  else (
    oC (f_X6_refuse s0 (1 : Int32)) fun w33 =>
    oL w33.1 fun v31 => oL w33.2 fun s32 =>
    some (v31, s32))))))
set_option maxHeartbeats 4000000 in
set_option maxRecDepth 100000 in
theorem T_X6_lineOfTerms_0 {r : Int32} {z1 : St} (C : Cx p rm_X6_lineOfTerms s m args c D A cX6_lineOfTerms 1 RX6 rm_X6_lineOfTerms N) (hE : En p l e rm_X6_lineOfTerms s m args below meth c Q D A cX6_lineOfTerms .ireturn (wC N z1) [.int r])  (s0 : St) (h : F_X6_lineOfTerms_0 s0 = some (r, z1)) : Aw p l e rm_X6_lineOfTerms s m args below meth c Q D A 1 (wC N s0) 0 [(0, .ref (N.1 1))] [] := by
  unfold F_X6_lineOfTerms_0 at h
  refine aw_aload_n C 0 dX6_lineOfTerms_0 rfl ?_
  refine cg_rd_token C lw_11_7 dX6_lineOfTerms_1 ?_
  by_cases q0 : (s0.1 6) = (0 : Int32)
  · have h := bq_t q0 h
    refine aw_table (tgt := 40) C 36 dX6_lineOfTerms_4 (by rw [q0]; decide) (by rw [q0]; decide) (by rw [q0]; decide) (by decide) ?_
    refine aw_aload_n C 0 dX6_lineOfTerms_40 rfl ?_
    obtain ⟨⟨v1, s2⟩, cw3, h⟩ := oC_e h
    have h := oL_e (x := s2) rfl (oL_e (x := v1) rfl h)
    refine aw_callVi (n := 0) (As := []) (rest := []) (q0 := 1) C (c_X6_once l D N s0 s2 v1 cw3) lw_14_22 lw_14_23 lw_15_0 lw_2_1 lw_15_1 rfl rfl (by decide +kernel) ⟨Nat.le_of_ble_eq_true rfl, Nat.le_of_ble_eq_true rfl⟩ rfl rfl rfl rfl rfl (Nat.le_of_ble_eq_true rfl) dX6_lineOfTerms_41 ?_
    refine aw_if_eq (tgt := 58) C dX6_lineOfTerms_44 (by decide) (fun q => ?_) (fun q => ?_)
    · have h := bq_t q h
      refine aw_sub (lv' := []) [] rfl ?_
      exact T_X6_lineOfTerms_58 C hE s2 h
    · have h := bq_f q h
      refine aw_aload_n C 0 dX6_lineOfTerms_47 rfl ?_
      obtain ⟨⟨v4, s5⟩, cw6, h⟩ := oC_e h
      have h := oL_e (x := s5) rfl (oL_e (x := v4) rfl h)
      refine aw_callVi (n := 0) (As := []) (rest := []) (q0 := 1) C (c_X6_unitLine l D N s2 s5 v4 cw6) lw_15_6 lw_15_7 lw_15_8 lw_2_1 lw_15_9 rfl rfl (by decide +kernel) ⟨Nat.le_of_ble_eq_true rfl, Nat.le_of_ble_eq_true rfl⟩ rfl rfl rfl rfl rfl (Nat.le_of_ble_eq_true rfl) dX6_lineOfTerms_48 ?_
      refine aw_if_eq (tgt := 58) C dX6_lineOfTerms_51 (by decide) (fun q => ?_) (fun q => ?_)
      · have h := bq_t q h
        refine aw_sub (lv' := []) [] rfl ?_
        exact T_X6_lineOfTerms_58 C hE s5 h
      · have h := bq_f q h
        refine aw_iconst (v := 1) C dX6_lineOfTerms_54 (by decide) ?_
        refine aw_goto (tgt := 59) C dX6_lineOfTerms_55 (by decide) ?_
        refine aw_sub (lv' := []) [] rfl ?_
        exact T_X6_lineOfTerms_59 C hE s5 (1 : Int32) h
  have h := bq_f q0 h
  by_cases q1 : (s0.1 6) = (1 : Int32)
  · have h := bq_t q1 h
    refine aw_table (tgt := 60) C 56 dX6_lineOfTerms_4 (by rw [q1]; decide) (by rw [q1]; decide) (by rw [q1]; decide) (by decide) ?_
    refine aw_aload_n C 0 dX6_lineOfTerms_60 rfl ?_
    obtain ⟨⟨v7, s8⟩, cw9, h⟩ := oC_e h
    have h := oL_e (x := s8) rfl (oL_e (x := v7) rfl h)
    refine aw_callVi (n := 0) (As := []) (rest := []) (q0 := 1) C (c_X6_once l D N s0 s8 v7 cw9) lw_14_22 lw_14_23 lw_15_0 lw_2_1 lw_15_1 rfl rfl (by decide +kernel) ⟨Nat.le_of_ble_eq_true rfl, Nat.le_of_ble_eq_true rfl⟩ rfl rfl rfl rfl rfl (Nat.le_of_ble_eq_true rfl) dX6_lineOfTerms_61 ?_
    refine aw_if_eq (tgt := 80) C dX6_lineOfTerms_64 (by decide) (fun q => ?_) (fun q => ?_)
    · have h := bq_t q h
      refine aw_sub (lv' := []) [] rfl ?_
      exact T_X6_lineOfTerms_80 C hE s8 h
    · have h := bq_f q h
      refine aw_aload_n C 0 dX6_lineOfTerms_67 rfl ?_
      refine aw_iconst (v := 0) C dX6_lineOfTerms_68 (by decide) ?_
      refine aw_iconst (v := 0) C dX6_lineOfTerms_69 (by decide) ?_
      obtain ⟨⟨v10, s11⟩, cw12, h⟩ := oC_e h
      have h := oL_e (x := s11) rfl (oL_e (x := v10) rfl h)
      refine aw_callVi (n := 2) (As := [.int (0 : Int32), .int (0 : Int32)]) (rest := []) (q0 := 1) C (c_X6_row 80 l D N s8 s11 (0 : Int32) (0 : Int32) v10 cw12) lw_15_11 lw_15_12 lw_15_13 lw_2_1 lw_15_14 rfl rfl (by decide +kernel) ⟨Nat.le_of_ble_eq_true rfl, Nat.le_of_ble_eq_true rfl⟩ rfl rfl rfl rfl rfl (Nat.le_of_ble_eq_true rfl) dX6_lineOfTerms_70 ?_
      refine aw_if_eq (tgt := 80) C dX6_lineOfTerms_73 (by decide) (fun q => ?_) (fun q => ?_)
      · have h := bq_t q h
        refine aw_sub (lv' := []) [] rfl ?_
        exact T_X6_lineOfTerms_80 C hE s11 h
      · have h := bq_f q h
        refine aw_iconst (v := 1) C dX6_lineOfTerms_76 (by decide) ?_
        refine aw_goto (tgt := 81) C dX6_lineOfTerms_77 (by decide) ?_
        refine aw_sub (lv' := []) [] rfl ?_
        exact T_X6_lineOfTerms_81 C hE s11 (1 : Int32) h
  have h := bq_f q1 h
  by_cases q2 : (s0.1 6) = (2 : Int32)
  · have h := bq_t q2 h
    refine aw_table (tgt := 82) C 78 dX6_lineOfTerms_4 (by rw [q2]; decide) (by rw [q2]; decide) (by rw [q2]; decide) (by decide) ?_
    refine aw_aload_n C 0 dX6_lineOfTerms_82 rfl ?_
    obtain ⟨⟨v13, s14⟩, cw15, h⟩ := oC_e h
    have h := oL_e (x := s14) rfl (oL_e (x := v13) rfl h)
    refine aw_callVi (n := 0) (As := []) (rest := []) (q0 := 1) C (c_X6_once l D N s0 s14 v13 cw15) lw_14_22 lw_14_23 lw_15_0 lw_2_1 lw_15_1 rfl rfl (by decide +kernel) ⟨Nat.le_of_ble_eq_true rfl, Nat.le_of_ble_eq_true rfl⟩ rfl rfl rfl rfl rfl (Nat.le_of_ble_eq_true rfl) dX6_lineOfTerms_83 ?_
    refine aw_if_eq (tgt := 100) C dX6_lineOfTerms_86 (by decide) (fun q => ?_) (fun q => ?_)
    · have h := bq_t q h
      refine aw_sub (lv' := []) [] rfl ?_
      exact T_X6_lineOfTerms_100 C hE s14 h
    · have h := bq_f q h
      refine aw_aload_n C 0 dX6_lineOfTerms_89 rfl ?_
      obtain ⟨⟨v16, s17⟩, cw18, h⟩ := oC_e h
      have h := oL_e (x := s17) rfl (oL_e (x := v16) rfl h)
      refine aw_callVi (n := 0) (As := []) (rest := []) (q0 := 1) C (c_X6_fearLine l D N s14 s17 v16 cw18) lw_16_17 lw_16_18 lw_16_19 lw_2_1 lw_16_20 rfl rfl (by decide +kernel) ⟨Nat.le_of_ble_eq_true rfl, Nat.le_of_ble_eq_true rfl⟩ rfl rfl rfl rfl rfl (Nat.le_of_ble_eq_true rfl) dX6_lineOfTerms_90 ?_
      refine aw_if_eq (tgt := 100) C dX6_lineOfTerms_93 (by decide) (fun q => ?_) (fun q => ?_)
      · have h := bq_t q h
        refine aw_sub (lv' := []) [] rfl ?_
        exact T_X6_lineOfTerms_100 C hE s17 h
      · have h := bq_f q h
        refine aw_iconst (v := 1) C dX6_lineOfTerms_96 (by decide) ?_
        refine aw_goto (tgt := 101) C dX6_lineOfTerms_97 (by decide) ?_
        refine aw_sub (lv' := []) [] rfl ?_
        exact T_X6_lineOfTerms_101 C hE s17 (1 : Int32) h
  have h := bq_f q2 h
  by_cases q3 : (s0.1 6) = (3 : Int32)
  · have h := bq_t q3 h
    refine aw_table (tgt := 102) C 98 dX6_lineOfTerms_4 (by rw [q3]; decide) (by rw [q3]; decide) (by rw [q3]; decide) (by decide) ?_
    refine aw_aload_n C 0 dX6_lineOfTerms_102 rfl ?_
    obtain ⟨⟨v19, s20⟩, cw21, h⟩ := oC_e h
    have h := oL_e (x := s20) rfl (oL_e (x := v19) rfl h)
    refine aw_callVi (n := 0) (As := []) (rest := []) (q0 := 1) C (c_X6_once l D N s0 s20 v19 cw21) lw_14_22 lw_14_23 lw_15_0 lw_2_1 lw_15_1 rfl rfl (by decide +kernel) ⟨Nat.le_of_ble_eq_true rfl, Nat.le_of_ble_eq_true rfl⟩ rfl rfl rfl rfl rfl (Nat.le_of_ble_eq_true rfl) dX6_lineOfTerms_103 ?_
    refine aw_if_eq (tgt := 120) C dX6_lineOfTerms_106 (by decide) (fun q => ?_) (fun q => ?_)
    · have h := bq_t q h
      refine aw_sub (lv' := []) [] rfl ?_
      exact T_X6_lineOfTerms_120 C hE s20 h
    · have h := bq_f q h
      refine aw_aload_n C 0 dX6_lineOfTerms_109 rfl ?_
      obtain ⟨⟨v22, s23⟩, cw24, h⟩ := oC_e h
      have h := oL_e (x := s23) rfl (oL_e (x := v22) rfl h)
      refine aw_callVi (n := 0) (As := []) (rest := []) (q0 := 1) C (c_X6_loseLine l D N s20 s23 v22 cw24) lw_17_3 lw_17_4 lw_17_5 lw_2_1 lw_17_6 rfl rfl (by decide +kernel) ⟨Nat.le_of_ble_eq_true rfl, Nat.le_of_ble_eq_true rfl⟩ rfl rfl rfl rfl rfl (Nat.le_of_ble_eq_true rfl) dX6_lineOfTerms_110 ?_
      refine aw_if_eq (tgt := 120) C dX6_lineOfTerms_113 (by decide) (fun q => ?_) (fun q => ?_)
      · have h := bq_t q h
        refine aw_sub (lv' := []) [] rfl ?_
        exact T_X6_lineOfTerms_120 C hE s23 h
      · have h := bq_f q h
        refine aw_iconst (v := 1) C dX6_lineOfTerms_116 (by decide) ?_
        refine aw_goto (tgt := 121) C dX6_lineOfTerms_117 (by decide) ?_
        refine aw_sub (lv' := []) [] rfl ?_
        exact T_X6_lineOfTerms_121 C hE s23 (1 : Int32) h
  have h := bq_f q3 h
  by_cases q4 : (s0.1 6) = (4 : Int32)
  · have h := bq_t q4 h
    refine aw_table (tgt := 122) C 118 dX6_lineOfTerms_4 (by rw [q4]; decide) (by rw [q4]; decide) (by rw [q4]; decide) (by decide) ?_
    refine aw_aload_n C 0 dX6_lineOfTerms_122 rfl ?_
    obtain ⟨s26, cw27, h⟩ := oC_e h
    have h := oL_e (x := s26) rfl h
    refine aw_callVv (n := 0) (As := []) (rest := []) (q0 := 1) C (c_X6_advance l D N s0 s26 cw27) lw_11_9 lw_11_10 lw_11_11 lw_2_1 lw_11_12 rfl rfl (by decide +kernel) ⟨Nat.le_of_ble_eq_true rfl, Nat.le_of_ble_eq_true rfl⟩ rfl rfl rfl rfl rfl (Nat.le_of_ble_eq_true rfl) dX6_lineOfTerms_123 ?_
    refine aw_aload_n C 0 dX6_lineOfTerms_126 rfl ?_
    obtain ⟨⟨v28, s29⟩, cw30, h⟩ := oC_e h
    have h := oL_e (x := s29) rfl (oL_e (x := v28) rfl h)
    refine aw_callVi (n := 0) (As := []) (rest := []) (q0 := 1) C (c_X6_weighLine l D N s26 s29 v28 cw30) lw_17_8 lw_17_9 lw_17_10 lw_2_1 lw_17_11 rfl rfl (by decide +kernel) ⟨Nat.le_of_ble_eq_true rfl, Nat.le_of_ble_eq_true rfl⟩ rfl rfl rfl rfl rfl (Nat.le_of_ble_eq_true rfl) dX6_lineOfTerms_127 ?_
    cases h
    exact aw_ret hE dX6_lineOfTerms_130
  have h := bq_f q4 h
  refine aw_tableO (tgt := 131) C dX6_lineOfTerms_4 (by have n0 := sw_ne (k := 0) (by decide) q0; have n1 := sw_ne (k := 1) (by decide) q1; have n2 := sw_ne (k := 2) (by decide) q2; have n3 := sw_ne (k := 3) (by decide) q3; have n4 := sw_ne (k := 4) (by decide) q4; omega) (by decide) ?_
  refine aw_aload_n C 0 dX6_lineOfTerms_131 rfl ?_
  refine aw_iconst (v := 1) C dX6_lineOfTerms_132 (by decide) ?_
  obtain ⟨⟨v31, s32⟩, cw33, h⟩ := oC_e h
  have h := oL_e (x := s32) rfl (oL_e (x := v31) rfl h)
  refine aw_callVi (n := 1) (As := [.int (1 : Int32)]) (rest := []) (q0 := 1) C (c_X6_refuse l D N s0 s32 (1 : Int32) v31 cw33) lw_15_2 lw_15_3 lw_15_4 lw_2_1 lw_15_5 rfl rfl (by decide +kernel) ⟨Nat.le_of_ble_eq_true rfl, Nat.le_of_ble_eq_true rfl⟩ rfl rfl rfl rfl rfl (Nat.le_of_ble_eq_true rfl) dX6_lineOfTerms_133 ?_
  cases h
  exact aw_ret hE dX6_lineOfTerms_136
def f_X6_lineOfTerms (s0 : St) : Option (Int32 × St) := oC (F_X6_lineOfTerms_0 s0) fun w => oZ w.1 (some w)
theorem c_X6_lineOfTerms (l : Launch) (D : va_G) (N : Nm) (s0 z1 : St) (r : Int32) (h : f_X6_lineOfTerms s0 = some (r, z1)) : Meti l yX6_lineOfTerms (tsU yX6_lineOfTerms cX6_lineOfTerms 1 (some .boolean)) rm_X6_lineOfTerms D N [.ref (N.1 1)] (wC N s0) r (wC N z1) := by
  obtain ⟨w, h1, h2⟩ := oC_e h
  obtain ⟨hz, h2⟩ := oZ_e h2
  cases h2
  exact met_z (cc := cX6_lineOfTerms) (nL := 1) (own := RX6) (by decide) rfl (Nat.le_of_ble_eq_true rfl) (zN hz) (fun p e s m args below meth c Q A C hE => aw_sub [0] rfl (T_X6_lineOfTerms_0 C hE s0 h1))
/-! AwardLine$Reader.read(ILAwardLine$Terms;)I -/
def rm_X6_read : Room := { frames := 342, cells := 0, slots := 0, locals := 33045 }
def F_X6_read_99 (s0 : St) (x3 : Int32) : Option (Int32 × St) :=
  some (x3, s0)
set_option maxHeartbeats 4000000 in
set_option maxRecDepth 100000 in
theorem T_X6_read_99 {r : Int32} {z1 : St} (C : Cx p rm_X6_read s m args c D A cX6_read 4 RX6 rm_X6_read N) (hE : En p l e rm_X6_read s m args below meth c Q D A cX6_read .ireturn (wC N z1) [.int r])  (s0 : St) (x3 : Int32) (h : F_X6_read_99 s0 x3 = some (r, z1)) : Aw p l e rm_X6_read s m args below meth c Q D A 4 (wC N s0) 99 [(3, .int x3)] [] := by
  unfold F_X6_read_99 at h
  refine aw_iload_n C 0 dX6_read_99 rfl ?_
  cases h
  exact aw_ret hE dX6_read_100
def F_X6_read_91 (s0 : St) : Option (Int32 × St) :=
  some ((-1 : Int32), s0)
set_option maxHeartbeats 4000000 in
set_option maxRecDepth 100000 in
theorem T_X6_read_91 {r : Int32} {z1 : St} (C : Cx p rm_X6_read s m args c D A cX6_read 4 RX6 rm_X6_read N) (hE : En p l e rm_X6_read s m args below meth c Q D A cX6_read .ireturn (wC N z1) [.int r])  (s0 : St) (h : F_X6_read_91 s0 = some (r, z1)) : Aw p l e rm_X6_read s m args below meth c Q D A 4 (wC N s0) 91 [] [] := by
  unfold F_X6_read_91 at h
  refine aw_iconst (v := -1) C dX6_read_91 (by decide) ?_
  cases h
  exact aw_ret hE dX6_read_92
def F_X6_read_60_b (k60 : St → Int32 → Option (Int32 × St)) (s0 : St) (x3 : Int32) : Option (Int32 × St) :=
  if (7 : Int32) < x3 then (
    F_X6_read_99 s0 x3)
  else (
    if (s0.1 6) = (34 : Int32) then (
      F_X6_read_99 s0 x3)
    else (
      oC (f_X6_lineOfTerms s0) fun w3 =>
      oL w3.1 fun v1 => oL w3.2 fun s2 =>
      if v1 = 0 then (
        F_X6_read_91 s2)
      else (
        oC (f_X6_pass s2 (33 : Int32)) fun w6 =>
        oL w6.1 fun v4 => oL w6.2 fun s5 =>
        if v4 = 0 then (
          F_X6_read_91 s5)
        else (
          oL (x3 + (1 : Int32)) fun y7 =>
          k60 s5 y7))))
set_option maxHeartbeats 4000000 in
set_option maxRecDepth 100000 in
theorem T_X6_read_60_b {r : Int32} {z1 : St} {k60 : St → Int32 → Option (Int32 × St)} (C : Cx p rm_X6_read s m args c D A cX6_read 4 RX6 rm_X6_read N) (hE : En p l e rm_X6_read s m args below meth c Q D A cX6_read .ireturn (wC N z1) [.int r]) (hk60 : ∀ (s0 : St) (x3 : Int32), k60 s0 x3 = some (r, z1) → Aw p l e rm_X6_read s m args below meth c Q D A 4 (wC N s0) 60 [(0, .ref (N.1 1)), (3, .int x3)] []) (s0 : St) (x3 : Int32) (h : F_X6_read_60_b k60 s0 x3 = some (r, z1)) : Aw p l e rm_X6_read s m args below meth c Q D A 4 (wC N s0) 60 [(0, .ref (N.1 1)), (3, .int x3)] [] := by
  unfold F_X6_read_60_b at h
  refine aw_iload_n C 1 dX6_read_60 rfl ?_
  refine aw_bipush (v := 7) C dX6_read_61 (by decide) ?_
  refine aw_icmp_gt (tgt := 99) C dX6_read_63 (by decide) (fun q => ?_) (fun q => ?_)
  · have h := bq_t q h
    refine aw_sub (lv' := [(3, .int x3)]) [1] rfl ?_
    exact T_X6_read_99 C hE s0 x3 h
  · have h := bq_f q h
    refine aw_aload_n C 0 dX6_read_66 rfl ?_
    refine cg_rd_token C lw_11_7 dX6_read_67 ?_
    refine aw_bipush (v := 34) C dX6_read_70 (by decide) ?_
    refine aw_icmp_eq (tgt := 99) C dX6_read_72 (by decide) (fun q => ?_) (fun q => ?_)
    · have h := bq_t q h
      refine aw_sub (lv' := [(3, .int x3)]) [1] rfl ?_
      exact T_X6_read_99 C hE s0 x3 h
    · have h := bq_f q h
      refine aw_aload_n C 0 dX6_read_75 rfl ?_
      obtain ⟨⟨v1, s2⟩, cw3, h⟩ := oC_e h
      have h := oL_e (x := s2) rfl (oL_e (x := v1) rfl h)
      refine aw_callVi (n := 0) (As := []) (rest := []) (q0 := 1) C (c_X6_lineOfTerms l D N s0 s2 v1 cw3) lw_14_18 lw_14_19 lw_14_20 lw_2_1 lw_14_21 rfl rfl (by decide +kernel) ⟨Nat.le_of_ble_eq_true rfl, Nat.le_of_ble_eq_true rfl⟩ rfl rfl rfl rfl rfl (Nat.le_of_ble_eq_true rfl) dX6_read_76 ?_
      refine aw_if_eq (tgt := 91) C dX6_read_79 (by decide) (fun q => ?_) (fun q => ?_)
      · have h := bq_t q h
        refine aw_sub (lv' := []) [] rfl ?_
        exact T_X6_read_91 C hE s2 h
      · have h := bq_f q h
        refine aw_aload_n C 0 dX6_read_82 rfl ?_
        refine aw_bipush (v := 33) C dX6_read_83 (by decide) ?_
        obtain ⟨⟨v4, s5⟩, cw6, h⟩ := oC_e h
        have h := oL_e (x := s5) rfl (oL_e (x := v4) rfl h)
        refine aw_callVi (n := 1) (As := [.int (33 : Int32)]) (rest := []) (q0 := 1) C (c_X6_pass l D N s2 s5 (33 : Int32) v4 cw6) lw_16_13 lw_16_14 lw_16_15 lw_2_1 lw_16_16 rfl rfl (by decide +kernel) ⟨Nat.le_of_ble_eq_true rfl, Nat.le_of_ble_eq_true rfl⟩ rfl rfl rfl rfl rfl (Nat.le_of_ble_eq_true rfl) dX6_read_85 ?_
        refine aw_if_ne (tgt := 93) C dX6_read_88 (by decide) (fun q => ?_) (fun q => ?_)
        · have h := bq_f q h
          obtain ⟨y7, ey7⟩ : ∃ q : Int32, q = x3 + (1 : Int32) := ⟨_, rfl⟩
          have h := oL_e ey7 h
          refine aw_iinc (v := y7) (k := 1) (lv' := [(0, .ref (N.1 1)), (3, .int y7)]) C [1, 0] dX6_read_93 rfl (by rw [ey7]; rfl) (by decide) rfl ?_
          refine aw_goto (tgt := 60) C dX6_read_96 (by decide) ?_
          refine aw_sub (lv' := [(0, .ref (N.1 1)), (3, .int y7)]) [0, 1] rfl ?_
          exact hk60 s5 y7 h
        · have h := bq_t q h
          refine aw_sub (lv' := []) [] rfl ?_
          exact T_X6_read_91 C hE s5 h
def F_X6_read_60 : Nat → St → Int32 → Option (Int32 × St)
  | 0 => fun _ _ => none
  | n + 1 => F_X6_read_60_b (F_X6_read_60 n)
theorem T_X6_read_60 {r : Int32} {z1 : St} (C : Cx p rm_X6_read s m args c D A cX6_read 4 RX6 rm_X6_read N) (hE : En p l e rm_X6_read s m args below meth c Q D A cX6_read .ireturn (wC N z1) [.int r])  : ∀ (n : Nat) (s0 : St) (x3 : Int32), F_X6_read_60 n s0 x3 = some (r, z1) → Aw p l e rm_X6_read s m args below meth c Q D A 4 (wC N s0) 60 [(0, .ref (N.1 1)), (3, .int x3)] [] := by
  intro n
  induction n with
  | zero => intro s0 x3 h; cases h
  | succ n ih => intro s0 x3 h; exact T_X6_read_60_b C hE ih s0 x3 h
def F_X6_read_0 (s0 : St) (x1 : Int32) : Option (Int32 × St) :=
  oL (sI s0 12 2) fun s1 =>
  oT (s1.1 12) <|
  oC (f_X8_clear s1) fun w5 =>
  oL w5 fun s4 =>
  oL (sI s4 4 (jmin x1 (s4.1 1))) fun s6 =>
  oL (sI s6 5 (0 : Int32)) fun s7 =>
  oL (sI s7 2 (0 : Int32)) fun s8 =>
  oL (sI s8 3 (-1 : Int32)) fun s9 =>
  oL (sI s9 10 (0 : Int32)) fun s10 =>
  oL (sI s10 11 (0 : Int32)) fun s11 =>
  oL (sI s11 1 (0 : Int32)) fun s12 =>
  oC (f_X6_advance s12) fun w15 =>
  oL w15 fun s14 =>
  oL (0 : Int32) fun y16 =>
  F_X6_read_60 100000 s14 y16
set_option maxHeartbeats 4000000 in
set_option maxRecDepth 100000 in
theorem T_X6_read_0 {r : Int32} {z1 : St} (C : Cx p rm_X6_read s m args c D A cX6_read 4 RX6 rm_X6_read N) (hE : En p l e rm_X6_read s m args below meth c Q D A cX6_read .ireturn (wC N z1) [.int r])  (s0 : St) (x1 : Int32) (h : F_X6_read_0 s0 x1 = some (r, z1)) : Aw p l e rm_X6_read s m args below meth c Q D A 4 (wC N s0) 0 [(0, .ref (N.1 1)), (1, .int x1), (2, .ref (N.1 3))] [] := by
  unfold F_X6_read_0 at h
  refine aw_aload_n C 0 dX6_read_0 rfl ?_
  refine aw_aload_n C 2 dX6_read_1 rfl ?_
  refine cp_rd_into C lw_10_21 dX6_read_2 ?_
  refine ca_name (fun s1 es1 => ?_)
  have h := oL_e es1 h
  refine aw_aload_n C 0 dX6_read_5 rfl ?_
  obtain ⟨q2, h⟩ := oT_e h
  refine cg_rd_into C lw_10_21 dX6_read_6 ?_
  refine aw_into q2 ?_
  obtain ⟨s4, cw5, h⟩ := oC_e h
  have h := oL_e (x := s4) rfl h
  refine aw_callVv (n := 0) (As := []) (rest := []) (q0 := 3) C (c_X8_clear l D N s1 s4 cw5) lw_11_8 lw_5_19 lw_5_20 lw_2_5 lw_5_21 rfl rfl (by decide +kernel) ⟨Nat.le_of_ble_eq_true rfl, Nat.le_of_ble_eq_true rfl⟩ rfl rfl rfl rfl rfl (Nat.le_of_ble_eq_true rfl) dX6_read_9 ?_
  refine aw_aload_n C 0 dX6_read_12 rfl ?_
  refine aw_iload_n C 1 dX6_read_13 rfl ?_
  refine aw_aload_n C 0 dX6_read_14 rfl ?_
  refine cg_rd_held C lw_10_2 dX6_read_15 ?_
  refine aw_mmin C lw_10_22 lw_10_23 (by decide +kernel) lw_11_1 (Nat.le_of_ble_eq_true rfl) (Nat.le_of_ble_eq_true rfl) dX6_read_18 ?_
  refine cp_rd_length C lw_11_2 dX6_read_21 ?_
  refine ca_name (fun s6 es6 => ?_)
  have h := oL_e es6 h
  refine aw_aload_n C 0 dX6_read_24 rfl ?_
  refine aw_iconst (v := 0) C dX6_read_25 (by decide) ?_
  refine cp_rd_at C lw_11_3 dX6_read_26 ?_
  refine ca_name (fun s7 es7 => ?_)
  have h := oL_e es7 h
  refine aw_aload_n C 0 dX6_read_29 rfl ?_
  refine aw_iconst (v := 0) C dX6_read_30 (by decide) ?_
  refine cp_rd_fault C lw_11_4 dX6_read_31 ?_
  refine ca_name (fun s8 es8 => ?_)
  have h := oL_e es8 h
  refine aw_aload_n C 0 dX6_read_34 rfl ?_
  refine aw_iconst (v := -1) C dX6_read_35 (by decide) ?_
  refine cp_rd_faultPlace C lw_5_9 dX6_read_36 ?_
  refine ca_name (fun s9 es9 => ?_)
  have h := oL_e es9 h
  refine aw_aload_n C 0 dX6_read_39 rfl ?_
  refine aw_iconst (v := 0) C dX6_read_40 (by decide) ?_
  refine cp_rd_knotsRead C lw_11_5 dX6_read_41 ?_
  refine ca_name (fun s10 es10 => ?_)
  have h := oL_e es10 h
  refine aw_aload_n C 0 dX6_read_44 rfl ?_
  refine aw_iconst (v := 0) C dX6_read_45 (by decide) ?_
  refine cp_rd_linesTold C lw_11_6 dX6_read_46 ?_
  refine ca_name (fun s11 es11 => ?_)
  have h := oL_e es11 h
  refine aw_aload_n C 0 dX6_read_49 rfl ?_
  refine aw_iconst (v := 0) C dX6_read_50 (by decide) ?_
  refine cp_rd_held C lw_10_2 dX6_read_51 ?_
  refine ca_name (fun s12 es12 => ?_)
  have h := oL_e es12 h
  refine aw_aload_n C 0 dX6_read_54 rfl ?_
  obtain ⟨s14, cw15, h⟩ := oC_e h
  have h := oL_e (x := s14) rfl h
  refine aw_callVv (n := 0) (As := []) (rest := []) (q0 := 1) C (c_X6_advance l D N s12 s14 cw15) lw_11_9 lw_11_10 lw_11_11 lw_2_1 lw_11_12 rfl rfl (by decide +kernel) ⟨Nat.le_of_ble_eq_true rfl, Nat.le_of_ble_eq_true rfl⟩ rfl rfl rfl rfl rfl (Nat.le_of_ble_eq_true rfl) dX6_read_55 ?_
  refine aw_iconst (v := 0) C dX6_read_58 (by decide) ?_
  refine aw_topi (fun y16 ey16 => ?_)
  have h := oL_e ey16 h
  refine aw_istore_n (lv' := [(0, .ref (N.1 1)), (1, .int x1), (2, .ref (N.1 3)), (3, .int y16)]) C [1, 2, 3, 0] dX6_read_59 rfl (by decide) rfl ?_
  refine aw_sub (lv' := [(0, .ref (N.1 1)), (3, .int y16)]) [0, 3] rfl ?_
  exact T_X6_read_60 C hE 100000 s14 y16 h
def f_X6_read (s0 : St) (x1 : Int32) : Option (Int32 × St) := F_X6_read_0 s0 x1
theorem c_X6_read (l : Launch) (D : va_G) (N : Nm) (s0 z1 : St) (x1 : Int32) (r : Int32) (h : f_X6_read s0 x1 = some (r, z1)) : Meti l yX6_read (tsU yX6_read cX6_read 4 (some .int)) rm_X6_read D N [.ref (N.1 1), .int x1, .ref (N.1 3)] (wC N s0) r (wC N z1) :=
  met_i (cc := cX6_read) (nL := 4) (own := RX6) (by decide) rfl (Nat.le_of_ble_eq_true rfl) (fun p e s m args below meth c Q A C hE => aw_sub [0, 1, 2] rfl (T_X6_read_0 C hE s0 x1 h))
end WK
