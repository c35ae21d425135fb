section WK
variable {p : Program} {l : Launch} {e : Env} {s : State} {m : MethodId} {args : Array Value} {below : List Frame} {meth : Method} {c : Code} {Q : State → Prop} {D : va_G} {A : Nat → Prop} {N : Nm}
/-! AwardLine$Reader.wordBetween(II)I -/
def rm_X6_wordBetween : Room := { frames := 4, cells := 0, slots := 0, locals := 85 }
def F_X6_wordBetween_95 (k11 : St → Int32 → Int32 → Int32 → Int32 → Int32 → Int32 → Option (Int32 × St)) (s0 : St) (x1 : Int32) (x2 : Int32) (x3 : Int32) (x4 : Int32) (x5 : Int32) (x6 : Int32) : Option (Int32 × St) :=
  oL (x6 + (1 : Int32)) fun y1 =>
  k11 s0 x1 x2 x3 x4 x5 y1
set_option maxHeartbeats 4000000 in
set_option maxRecDepth 100000 in
theorem T_X6_wordBetween_95 {r : Int32} {z1 : St} {k11 : St → Int32 → Int32 → Int32 → Int32 → Int32 → Int32 → Option (Int32 × St)} (C : Cx p rm_X6_wordBetween s m args c D A cX6_wordBetween 8 RX6 rm_X6_wordBetween N) (hE : En p l e rm_X6_wordBetween s m args below meth c Q D A cX6_wordBetween .ireturn (wC N z1) [.int r]) (hk11 : ∀ (s0 : St) (x1 : Int32) (x2 : Int32) (x3 : Int32) (x4 : Int32) (x5 : Int32) (x6 : Int32), k11 s0 x1 x2 x3 x4 x5 x6 = some (r, z1) → Aw p l e rm_X6_wordBetween s m args below meth c Q D A 8 (wC N s0) 11 [(0, .ref (N.1 1)), (1, .int x1), (2, .int x2), (3, .int x3), (4, .int x4), (5, .int x5), (6, .int x6)] []) (s0 : St) (x1 : Int32) (x2 : Int32) (x3 : Int32) (x4 : Int32) (x5 : Int32) (x6 : Int32) (h : F_X6_wordBetween_95 k11 s0 x1 x2 x3 x4 x5 x6 = some (r, z1)) : Aw p l e rm_X6_wordBetween s m args below meth c Q D A 8 (wC N s0) 95 [(0, .ref (N.1 1)), (1, .int x1), (2, .int x2), (3, .int x3), (4, .int x4), (5, .int x5), (6, .int x6)] [] := by
  unfold F_X6_wordBetween_95 at h
  obtain ⟨y1, ey1⟩ : ∃ q : Int32, q = x6 + (1 : Int32) := ⟨_, rfl⟩
  have h := oL_e ey1 h
  refine aw_iinc (v := y1) (k := 6) (lv' := [(0, .ref (N.1 1)), (1, .int x1), (2, .int x2), (3, .int x3), (4, .int x4), (5, .int x5), (6, .int y1)]) C [1, 2, 3, 4, 5, 6, 0] dX6_wordBetween_95 rfl (by rw [ey1]; rfl) (by decide) rfl ?_
  refine aw_goto (tgt := 11) C dX6_wordBetween_98 (by decide) ?_
  refine aw_sub (lv' := [(0, .ref (N.1 1)), (1, .int x1), (2, .int x2), (3, .int x3), (4, .int x4), (5, .int x5), (6, .int y1)]) [0, 1, 2, 3, 4, 5, 6] rfl ?_
  exact hk11 s0 x1 x2 x3 x4 x5 y1 h
def F_X6_wordBetween_86 (k11 : St → Int32 → Int32 → Int32 → Int32 → Int32 → Int32 → Option (Int32 × St)) (s0 : St) (x1 : Int32) (x2 : Int32) (x3 : Int32) (x6 : Int32) : Option (Int32 × St) :=
  oL (x3 + (1 : Int32)) fun y1 =>
  oL (1 : Int32) fun y2 =>
  F_X6_wordBetween_95 k11 s0 x1 x2 y1 x1 y2 x6
set_option maxHeartbeats 4000000 in
set_option maxRecDepth 100000 in
theorem T_X6_wordBetween_86 {r : Int32} {z1 : St} {k11 : St → Int32 → Int32 → Int32 → Int32 → Int32 → Int32 → Option (Int32 × St)} (C : Cx p rm_X6_wordBetween s m args c D A cX6_wordBetween 8 RX6 rm_X6_wordBetween N) (hE : En p l e rm_X6_wordBetween s m args below meth c Q D A cX6_wordBetween .ireturn (wC N z1) [.int r]) (hk11 : ∀ (s0 : St) (x1 : Int32) (x2 : Int32) (x3 : Int32) (x4 : Int32) (x5 : Int32) (x6 : Int32), k11 s0 x1 x2 x3 x4 x5 x6 = some (r, z1) → Aw p l e rm_X6_wordBetween s m args below meth c Q D A 8 (wC N s0) 11 [(0, .ref (N.1 1)), (1, .int x1), (2, .int x2), (3, .int x3), (4, .int x4), (5, .int x5), (6, .int x6)] []) (s0 : St) (x1 : Int32) (x2 : Int32) (x3 : Int32) (x6 : Int32) (h : F_X6_wordBetween_86 k11 s0 x1 x2 x3 x6 = some (r, z1)) : Aw p l e rm_X6_wordBetween s m args below meth c Q D A 8 (wC N s0) 86 [(0, .ref (N.1 1)), (1, .int x1), (2, .int x2), (3, .int x3), (6, .int x6)] [] := by
  unfold F_X6_wordBetween_86 at h
  obtain ⟨y1, ey1⟩ : ∃ q : Int32, q = x3 + (1 : Int32) := ⟨_, rfl⟩
  have h := oL_e ey1 h
  refine aw_iinc (v := y1) (k := 3) (lv' := [(0, .ref (N.1 1)), (1, .int x1), (2, .int x2), (3, .int y1), (6, .int x6)]) C [1, 2, 3, 0, 4] dX6_wordBetween_86 rfl (by rw [ey1]; rfl) (by decide) rfl ?_
  refine aw_iload_n C 1 dX6_wordBetween_89 rfl ?_
  refine aw_istore (lv' := [(0, .ref (N.1 1)), (1, .int x1), (2, .int x2), (3, .int y1), (4, .int x1), (6, .int x6)]) C [1, 2, 3, 4, 0, 5] dX6_wordBetween_90 (by decide) rfl ?_
  refine aw_iconst (v := 1) C dX6_wordBetween_92 (by decide) ?_
  refine aw_topi (fun y2 ey2 => ?_)
  have h := oL_e ey2 h
  refine aw_istore (lv' := [(0, .ref (N.1 1)), (1, .int x1), (2, .int x2), (3, .int y1), (4, .int x1), (5, .int y2), (6, .int x6)]) C [1, 2, 3, 4, 5, 0, 6] dX6_wordBetween_93 (by decide) rfl ?_
  refine aw_sub (lv' := [(0, .ref (N.1 1)), (1, .int x1), (2, .int x2), (3, .int y1), (4, .int x1), (5, .int y2), (6, .int x6)]) [0, 1, 2, 3, 4, 5, 6] rfl ?_
  exact T_X6_wordBetween_95 C hE hk11 s0 x1 x2 y1 x1 y2 x6 h
def F_X6_wordBetween_65 (k11 : St → Int32 → Int32 → Int32 → Int32 → Int32 → Int32 → Option (Int32 × St)) (s0 : St) (x1 : Int32) (x2 : Int32) (x3 : Int32) (x4 : Int32) (x6 : Int32) (t0 : Int32) : Option (Int32 × St) :=
  oL (x4 + (1 : Int32)) fun y1 =>
  F_X6_wordBetween_95 k11 s0 x1 x2 x3 y1 t0 x6
set_option maxHeartbeats 4000000 in
set_option maxRecDepth 100000 in
theorem T_X6_wordBetween_65 {r : Int32} {z1 : St} {k11 : St → Int32 → Int32 → Int32 → Int32 → Int32 → Int32 → Option (Int32 × St)} (C : Cx p rm_X6_wordBetween s m args c D A cX6_wordBetween 8 RX6 rm_X6_wordBetween N) (hE : En p l e rm_X6_wordBetween s m args below meth c Q D A cX6_wordBetween .ireturn (wC N z1) [.int r]) (hk11 : ∀ (s0 : St) (x1 : Int32) (x2 : Int32) (x3 : Int32) (x4 : Int32) (x5 : Int32) (x6 : Int32), k11 s0 x1 x2 x3 x4 x5 x6 = some (r, z1) → Aw p l e rm_X6_wordBetween s m args below meth c Q D A 8 (wC N s0) 11 [(0, .ref (N.1 1)), (1, .int x1), (2, .int x2), (3, .int x3), (4, .int x4), (5, .int x5), (6, .int x6)] []) (s0 : St) (x1 : Int32) (x2 : Int32) (x3 : Int32) (x4 : Int32) (x6 : Int32) (t0 : Int32) (h : F_X6_wordBetween_65 k11 s0 x1 x2 x3 x4 x6 t0 = some (r, z1)) : Aw p l e rm_X6_wordBetween s m args below meth c Q D A 8 (wC N s0) 65 [(0, .ref (N.1 1)), (1, .int x1), (2, .int x2), (3, .int x3), (4, .int x4), (6, .int x6)] [.int t0] := by
  unfold F_X6_wordBetween_65 at h
  refine aw_istore (lv' := [(0, .ref (N.1 1)), (1, .int x1), (2, .int x2), (3, .int x3), (4, .int x4), (5, .int t0), (6, .int x6)]) C [1, 2, 3, 4, 5, 0, 6] dX6_wordBetween_65 (by decide) rfl ?_
  obtain ⟨y1, ey1⟩ : ∃ q : Int32, q = x4 + (1 : Int32) := ⟨_, rfl⟩
  have h := oL_e ey1 h
  refine aw_iinc (v := y1) (k := 4) (lv' := [(0, .ref (N.1 1)), (1, .int x1), (2, .int x2), (3, .int x3), (4, .int y1), (5, .int t0), (6, .int x6)]) C [1, 2, 3, 4, 0, 5, 6] dX6_wordBetween_67 rfl (by rw [ey1]; rfl) (by decide) rfl ?_
  refine aw_goto (tgt := 95) C dX6_wordBetween_70 (by decide) ?_
  refine aw_sub (lv' := [(0, .ref (N.1 1)), (1, .int x1), (2, .int x2), (3, .int x3), (4, .int y1), (5, .int t0), (6, .int x6)]) [0, 1, 2, 3, 4, 5, 6] rfl ?_
  exact T_X6_wordBetween_95 C hE hk11 s0 x1 x2 x3 y1 t0 x6 h
def F_X6_wordBetween_64 (k11 : St → Int32 → Int32 → Int32 → Int32 → Int32 → Int32 → Option (Int32 × St)) (s0 : St) (x1 : Int32) (x2 : Int32) (x3 : Int32) (x4 : Int32) (x6 : Int32) : Option (Int32 × St) :=
  F_X6_wordBetween_65 k11 s0 x1 x2 x3 x4 x6 (0 : Int32)
set_option maxHeartbeats 4000000 in
set_option maxRecDepth 100000 in
theorem T_X6_wordBetween_64 {r : Int32} {z1 : St} {k11 : St → Int32 → Int32 → Int32 → Int32 → Int32 → Int32 → Option (Int32 × St)} (C : Cx p rm_X6_wordBetween s m args c D A cX6_wordBetween 8 RX6 rm_X6_wordBetween N) (hE : En p l e rm_X6_wordBetween s m args below meth c Q D A cX6_wordBetween .ireturn (wC N z1) [.int r]) (hk11 : ∀ (s0 : St) (x1 : Int32) (x2 : Int32) (x3 : Int32) (x4 : Int32) (x5 : Int32) (x6 : Int32), k11 s0 x1 x2 x3 x4 x5 x6 = some (r, z1) → Aw p l e rm_X6_wordBetween s m args below meth c Q D A 8 (wC N s0) 11 [(0, .ref (N.1 1)), (1, .int x1), (2, .int x2), (3, .int x3), (4, .int x4), (5, .int x5), (6, .int x6)] []) (s0 : St) (x1 : Int32) (x2 : Int32) (x3 : Int32) (x4 : Int32) (x6 : Int32) (h : F_X6_wordBetween_64 k11 s0 x1 x2 x3 x4 x6 = some (r, z1)) : Aw p l e rm_X6_wordBetween s m args below meth c Q D A 8 (wC N s0) 64 [(0, .ref (N.1 1)), (1, .int x1), (2, .int x2), (3, .int x3), (4, .int x4), (6, .int x6)] [] := by
  unfold F_X6_wordBetween_64 at h
  refine aw_iconst (v := 0) C dX6_wordBetween_64 (by decide) ?_
  refine aw_sub (lv' := [(0, .ref (N.1 1)), (1, .int x1), (2, .int x2), (3, .int x3), (4, .int x4), (6, .int x6)]) [0, 1, 2, 3, 4, 5] rfl ?_
  exact T_X6_wordBetween_65 C hE hk11 s0 x1 x2 x3 x4 x6 (0 : Int32) h
def F_X6_wordBetween_11_b (k11 : St → Int32 → Int32 → Int32 → Int32 → Int32 → Int32 → Option (Int32 × St)) (s0 : St) (x1 : Int32) (x2 : Int32) (x3 : Int32) (x4 : Int32) (x5 : Int32) (x6 : Int32) : Option (Int32 × St) :=
  if txN 0 ≤ x6 then (
    some ((35 : Int32), s0))
  else (
    oA x6 (txL.getD 0 0) <|
    oL (chN 0 (Int32.toNatClampNeg x6)) fun y2 =>
    if y2 = (32 : Int32) then (
      if x5 = 0 then (
        F_X6_wordBetween_86 k11 s0 x1 x2 x3 x6)
      else (
        if x4 = x2 then (
          some (x3, s0))
        else (
          F_X6_wordBetween_86 k11 s0 x1 x2 x3 x6)))
    else (
      if x5 = 0 then (
        F_X6_wordBetween_64 k11 s0 x1 x2 x3 x4 x6)
      else (
        if x2 ≤ x4 then (
          F_X6_wordBetween_64 k11 s0 x1 x2 x3 x4 x6)
        else (
          oA x4 400 <|
          if (s0.2.1 0 (Int32.toNatClampNeg x4)) = y2 then (
            F_X6_wordBetween_65 k11 s0 x1 x2 x3 x4 x6 (1 : Int32))
          else (
            F_X6_wordBetween_64 k11 s0 x1 x2 x3 x4 x6)))))
set_option maxHeartbeats 4000000 in
set_option maxRecDepth 100000 in
theorem T_X6_wordBetween_11_b {r : Int32} {z1 : St} {k11 : St → Int32 → Int32 → Int32 → Int32 → Int32 → Int32 → Option (Int32 × St)} (C : Cx p rm_X6_wordBetween s m args c D A cX6_wordBetween 8 RX6 rm_X6_wordBetween N) (hE : En p l e rm_X6_wordBetween s m args below meth c Q D A cX6_wordBetween .ireturn (wC N z1) [.int r]) (hk11 : ∀ (s0 : St) (x1 : Int32) (x2 : Int32) (x3 : Int32) (x4 : Int32) (x5 : Int32) (x6 : Int32), k11 s0 x1 x2 x3 x4 x5 x6 = some (r, z1) → Aw p l e rm_X6_wordBetween s m args below meth c Q D A 8 (wC N s0) 11 [(0, .ref (N.1 1)), (1, .int x1), (2, .int x2), (3, .int x3), (4, .int x4), (5, .int x5), (6, .int x6)] []) (s0 : St) (x1 : Int32) (x2 : Int32) (x3 : Int32) (x4 : Int32) (x5 : Int32) (x6 : Int32) (h : F_X6_wordBetween_11_b k11 s0 x1 x2 x3 x4 x5 x6 = some (r, z1)) : Aw p l e rm_X6_wordBetween s m args below meth c Q D A 8 (wC N s0) 11 [(0, .ref (N.1 1)), (1, .int x1), (2, .int x2), (3, .int x3), (4, .int x4), (5, .int x5), (6, .int x6)] [] := by
  unfold F_X6_wordBetween_11_b at h
  refine aw_iload C 6 dX6_wordBetween_11 rfl ?_
  refine aw_ldcS0 C dX6_wordBetween_13 ?_
  refine aw_callTi (n := 0) (j := 0) (As := []) (rest := [.int x6]) C (c_J0_length_8abf5 l D N (wC N s0) (by decide)) lw_12_1 lw_12_2 lw_12_3 lw_12_4 lw_12_5 rfl rfl (by decide +kernel) ⟨Nat.le_of_ble_eq_true rfl, Nat.le_of_ble_eq_true rfl⟩ (by decide) rfl rfl (Nat.le_of_ble_eq_true rfl) dX6_wordBetween_15 ?_
  refine aw_icmp_ge (tgt := 101) C dX6_wordBetween_18 (by decide) (fun q => ?_) (fun q => ?_)
  · have h := bq_t q h
    refine aw_bipush (v := 35) C dX6_wordBetween_101 (by decide) ?_
    cases h
    exact aw_ret hE dX6_wordBetween_103
  · have h := bq_f q h
    refine aw_ldcS0 C dX6_wordBetween_21 ?_
    refine aw_iload C 6 dX6_wordBetween_23 rfl ?_
    obtain ⟨q1, h⟩ := oA_e h
    refine aw_callTi (n := 1) (j := 0) (As := [.int x6]) (rest := []) C (c_J0_charAt_5068e l D N (wC N s0) (by decide) q1) lw_12_13 lw_12_14 lw_12_15 lw_12_4 lw_12_16 rfl rfl (by decide +kernel) ⟨Nat.le_of_ble_eq_true rfl, Nat.le_of_ble_eq_true rfl⟩ (by decide) rfl rfl (Nat.le_of_ble_eq_true rfl) dX6_wordBetween_25 ?_
    refine aw_topi (fun y2 ey2 => ?_)
    have h := oL_e ey2 h
    refine aw_istore (lv' := [(0, .ref (N.1 1)), (1, .int x1), (2, .int x2), (3, .int x3), (4, .int x4), (5, .int x5), (6, .int x6), (7, .int y2)]) C [1, 2, 3, 4, 5, 6, 7, 0] dX6_wordBetween_28 (by decide) rfl ?_
    refine aw_iload C 7 dX6_wordBetween_30 rfl ?_
    refine aw_bipush (v := 32) C dX6_wordBetween_32 (by decide) ?_
    refine aw_icmp_eq (tgt := 73) C dX6_wordBetween_34 (by decide) (fun q => ?_) (fun q => ?_)
    · have h := bq_t q h
      refine aw_iload C 5 dX6_wordBetween_73 rfl ?_
      refine aw_if_eq (tgt := 86) C dX6_wordBetween_75 (by decide) (fun q => ?_) (fun q => ?_)
      · have h := bq_t q h
        refine aw_sub (lv' := [(0, .ref (N.1 1)), (1, .int x1), (2, .int x2), (3, .int x3), (6, .int x6)]) [0, 1, 2, 3, 6] rfl ?_
        exact T_X6_wordBetween_86 C hE hk11 s0 x1 x2 x3 x6 h
      · have h := bq_f q h
        refine aw_iload C 4 dX6_wordBetween_78 rfl ?_
        refine aw_iload_n C 2 dX6_wordBetween_80 rfl ?_
        refine aw_icmp_ne (tgt := 86) C dX6_wordBetween_81 (by decide) (fun q => ?_) (fun q => ?_)
        · have h := bq_f q h
          refine aw_sub (lv' := [(0, .ref (N.1 1)), (1, .int x1), (2, .int x2), (3, .int x3), (6, .int x6)]) [0, 1, 2, 3, 6] rfl ?_
          exact T_X6_wordBetween_86 C hE hk11 s0 x1 x2 x3 x6 h
        · have h := bq_t q h
          refine aw_iload_n C 3 dX6_wordBetween_84 rfl ?_
          cases h
          exact aw_ret hE dX6_wordBetween_85
    · have h := bq_f q h
      refine aw_iload C 5 dX6_wordBetween_37 rfl ?_
      refine aw_if_eq (tgt := 64) C dX6_wordBetween_39 (by decide) (fun q => ?_) (fun q => ?_)
      · have h := bq_t q h
        refine aw_sub (lv' := [(0, .ref (N.1 1)), (1, .int x1), (2, .int x2), (3, .int x3), (4, .int x4), (6, .int x6)]) [0, 1, 2, 3, 4, 6] rfl ?_
        exact T_X6_wordBetween_64 C hE hk11 s0 x1 x2 x3 x4 x6 h
      · have h := bq_f q h
        refine aw_iload C 4 dX6_wordBetween_42 rfl ?_
        refine aw_iload_n C 2 dX6_wordBetween_44 rfl ?_
        refine aw_icmp_ge (tgt := 64) C dX6_wordBetween_45 (by decide) (fun q => ?_) (fun q => ?_)
        · have h := bq_t q h
          refine aw_sub (lv' := [(0, .ref (N.1 1)), (1, .int x1), (2, .int x2), (3, .int x3), (4, .int x4), (6, .int x6)]) [0, 1, 2, 3, 4, 6] rfl ?_
          exact T_X6_wordBetween_64 C hE hk11 s0 x1 x2 x3 x4 x6 h
        · have h := bq_f q h
          refine aw_aload_n C 0 dX6_wordBetween_48 rfl ?_
          refine cg_rd_tape C lw_5_10 dX6_wordBetween_49 ?_
          refine aw_iload C 4 dX6_wordBetween_52 rfl ?_
          obtain ⟨q3, h⟩ := oA_e h
          refine ca_iald (k := 0) C (by decide) rfl q3 dX6_wordBetween_54 ?_
          refine aw_iload C 7 dX6_wordBetween_55 rfl ?_
          refine aw_icmp_ne (tgt := 64) C dX6_wordBetween_57 (by decide) (fun q => ?_) (fun q => ?_)
          · have h := bq_f q h
            refine aw_sub (lv' := [(0, .ref (N.1 1)), (1, .int x1), (2, .int x2), (3, .int x3), (4, .int x4), (6, .int x6)]) [0, 1, 2, 3, 4, 6] rfl ?_
            exact T_X6_wordBetween_64 C hE hk11 s0 x1 x2 x3 x4 x6 h
          · have h := bq_t q h
            refine aw_iconst (v := 1) C dX6_wordBetween_60 (by decide) ?_
            refine aw_goto (tgt := 65) C dX6_wordBetween_61 (by decide) ?_
            refine aw_sub (lv' := [(0, .ref (N.1 1)), (1, .int x1), (2, .int x2), (3, .int x3), (4, .int x4), (6, .int x6)]) [0, 1, 2, 3, 4, 6] rfl ?_
            exact T_X6_wordBetween_65 C hE hk11 s0 x1 x2 x3 x4 x6 (1 : Int32) h
def F_X6_wordBetween_11 : Nat → St → Int32 → Int32 → Int32 → Int32 → Int32 → Int32 → Option (Int32 × St)
  | 0 => fun _ _ _ _ _ _ _ => none
  | n + 1 => F_X6_wordBetween_11_b (F_X6_wordBetween_11 n)
theorem T_X6_wordBetween_11 {r : Int32} {z1 : St} (C : Cx p rm_X6_wordBetween s m args c D A cX6_wordBetween 8 RX6 rm_X6_wordBetween N) (hE : En p l e rm_X6_wordBetween s m args below meth c Q D A cX6_wordBetween .ireturn (wC N z1) [.int r])  : ∀ (n : Nat) (s0 : St) (x1 : Int32) (x2 : Int32) (x3 : Int32) (x4 : Int32) (x5 : Int32) (x6 : Int32), F_X6_wordBetween_11 n s0 x1 x2 x3 x4 x5 x6 = some (r, z1) → Aw p l e rm_X6_wordBetween s m args below meth c Q D A 8 (wC N s0) 11 [(0, .ref (N.1 1)), (1, .int x1), (2, .int x2), (3, .int x3), (4, .int x4), (5, .int x5), (6, .int x6)] [] := by
  intro n
  induction n with
  | zero => intro s0 x1 x2 x3 x4 x5 x6 h; cases h
  | succ n ih => intro s0 x1 x2 x3 x4 x5 x6 h; exact T_X6_wordBetween_11_b C hE ih s0 x1 x2 x3 x4 x5 x6 h
def F_X6_wordBetween_0 (s0 : St) (x1 : Int32) (x2 : Int32) : Option (Int32 × St) :=
  oL (0 : Int32) fun y1 =>
  oL (1 : Int32) fun y2 =>
  oL (0 : Int32) fun y3 =>
  F_X6_wordBetween_11 100000 s0 x1 x2 y1 x1 y2 y3
set_option maxHeartbeats 4000000 in
set_option maxRecDepth 100000 in
theorem T_X6_wordBetween_0 {r : Int32} {z1 : St} (C : Cx p rm_X6_wordBetween s m args c D A cX6_wordBetween 8 RX6 rm_X6_wordBetween N) (hE : En p l e rm_X6_wordBetween s m args below meth c Q D A cX6_wordBetween .ireturn (wC N z1) [.int r])  (s0 : St) (x1 : Int32) (x2 : Int32) (h : F_X6_wordBetween_0 s0 x1 x2 = some (r, z1)) : Aw p l e rm_X6_wordBetween s m args below meth c Q D A 8 (wC N s0) 0 [(0, .ref (N.1 1)), (1, .int x1), (2, .int x2)] [] := by
  unfold F_X6_wordBetween_0 at h
  refine aw_iconst (v := 0) C dX6_wordBetween_0 (by decide) ?_
  refine aw_topi (fun y1 ey1 => ?_)
  have h := oL_e ey1 h
  refine aw_istore_n (lv' := [(0, .ref (N.1 1)), (1, .int x1), (2, .int x2), (3, .int y1)]) C [1, 2, 3, 0] dX6_wordBetween_1 rfl (by decide) rfl ?_
  refine aw_iload_n C 1 dX6_wordBetween_2 rfl ?_
  refine aw_istore (lv' := [(0, .ref (N.1 1)), (1, .int x1), (2, .int x2), (3, .int y1), (4, .int x1)]) C [1, 2, 3, 4, 0] dX6_wordBetween_3 (by decide) rfl ?_
  refine aw_iconst (v := 1) C dX6_wordBetween_5 (by decide) ?_
  refine aw_topi (fun y2 ey2 => ?_)
  have h := oL_e ey2 h
  refine aw_istore (lv' := [(0, .ref (N.1 1)), (1, .int x1), (2, .int x2), (3, .int y1), (4, .int x1), (5, .int y2)]) C [1, 2, 3, 4, 5, 0] dX6_wordBetween_6 (by decide) rfl ?_
  refine aw_iconst (v := 0) C dX6_wordBetween_8 (by decide) ?_
  refine aw_topi (fun y3 ey3 => ?_)
  have h := oL_e ey3 h
  refine aw_istore (lv' := [(0, .ref (N.1 1)), (1, .int x1), (2, .int x2), (3, .int y1), (4, .int x1), (5, .int y2), (6, .int y3)]) C [1, 2, 3, 4, 5, 6, 0] dX6_wordBetween_9 (by decide) rfl ?_
  refine aw_sub (lv' := [(0, .ref (N.1 1)), (1, .int x1), (2, .int x2), (3, .int y1), (4, .int x1), (5, .int y2), (6, .int y3)]) [0, 1, 2, 3, 4, 5, 6] rfl ?_
  exact T_X6_wordBetween_11 C hE 100000 s0 x1 x2 y1 x1 y2 y3 h
def f_X6_wordBetween (s0 : St) (x1 : Int32) (x2 : Int32) : Option (Int32 × St) := F_X6_wordBetween_0 s0 x1 x2
theorem c_X6_wordBetween (l : Launch) (D : va_G) (N : Nm) (s0 z1 : St) (x1 : Int32) (x2 : Int32) (r : Int32) (h : f_X6_wordBetween s0 x1 x2 = some (r, z1)) : Meti l yX6_wordBetween (tsU yX6_wordBetween cX6_wordBetween 8 (some .int)) rm_X6_wordBetween D N [.ref (N.1 1), .int x1, .int x2] (wC N s0) r (wC N z1) :=
  met_i (cc := cX6_wordBetween) (nL := 8) (own := RX6) (by decide) rfl (Nat.le_of_ble_eq_true rfl) (fun p e s m args below meth c Q A C hE => aw_sub [0, 1, 2] rfl (T_X6_wordBetween_0 C hE s0 x1 x2 h))
/-! AwardLine$Reader.readWord()V -/
def rm_X6_readWord : Room := { frames := 5, cells := 0, slots := 0, locals := 112 }
def F_X6_readWord_39 (s0 : St) : Option (St) :=
  oC (f_X6_wordBetween s0 (s0.1 7) (s0.1 5)) fun w3 =>
  oL w3.1 fun v1 => oL w3.2 fun s2 =>
  oL (sI s2 6 v1) fun s4 =>
  some s4
set_option maxHeartbeats 4000000 in
set_option maxRecDepth 100000 in
theorem T_X6_readWord_39 {z1 : St} (C : Cx p rm_X6_readWord s m args c D A cX6_readWord 1 RX6 rm_X6_readWord N) (hE : En p l e rm_X6_readWord s m args below meth c Q D A cX6_readWord .return_ (wC N z1) [])  (s0 : St) (h : F_X6_readWord_39 s0 = some z1) : Aw p l e rm_X6_readWord s m args below meth c Q D A 1 (wC N s0) 39 [(0, .ref (N.1 1))] [] := by
  unfold F_X6_readWord_39 at h
  refine aw_aload_n C 0 dX6_readWord_39 rfl ?_
  refine aw_aload_n C 0 dX6_readWord_40 rfl ?_
  refine aw_aload_n C 0 dX6_readWord_41 rfl ?_
  refine cg_rd_place C lw_11_13 dX6_readWord_42 ?_
  refine aw_aload_n C 0 dX6_readWord_45 rfl ?_
  refine cg_rd_at C lw_11_3 dX6_readWord_46 ?_
  obtain ⟨⟨v1, s2⟩, cw3, h⟩ := oC_e h
  have h := oL_e (x := s2) rfl (oL_e (x := v1) rfl h)
  refine aw_callVi (n := 2) (As := [.int (s0.1 7), .int (s0.1 5)]) (rest := [.ref (N.1 1)]) (q0 := 1) C (c_X6_wordBetween l D N s0 s2 (s0.1 7) (s0.1 5) v1 cw3) lw_11_21 lw_11_22 lw_11_23 lw_2_1 lw_12_0 rfl rfl (by decide +kernel) ⟨Nat.le_of_ble_eq_true rfl, Nat.le_of_ble_eq_true rfl⟩ rfl rfl rfl rfl rfl (Nat.le_of_ble_eq_true rfl) dX6_readWord_49 ?_
  refine cp_rd_token C lw_11_7 dX6_readWord_52 ?_
  refine ca_name (fun s4 es4 => ?_)
  have h := oL_e es4 h
  cases h
  exact aw_ret hE dX6_readWord_55
def F_X6_readWord_0_b (k0 : St → Option (St)) (s0 : St) : Option (St) :=
  if (s0.1 4) ≤ (s0.1 5) then (
    F_X6_readWord_39 s0)
  else (
    oA (s0.1 5) 400 <|
    oC (f_X6_isLetter s0 (s0.2.1 0 (Int32.toNatClampNeg (s0.1 5)))) fun w4 =>
    oL w4.1 fun v2 => oL w4.2 fun s3 =>
    if v2 = 0 then (
      F_X6_readWord_39 s3)
    else (
      oL (sI s3 5 ((s3.1 5) + (1 : Int32))) fun s5 =>
      k0 s5))
set_option maxHeartbeats 4000000 in
set_option maxRecDepth 100000 in
theorem T_X6_readWord_0_b {z1 : St} {k0 : St → Option (St)} (C : Cx p rm_X6_readWord s m args c D A cX6_readWord 1 RX6 rm_X6_readWord N) (hE : En p l e rm_X6_readWord s m args below meth c Q D A cX6_readWord .return_ (wC N z1) []) (hk0 : ∀ (s0 : St), k0 s0 = some z1 → Aw p l e rm_X6_readWord s m args below meth c Q D A 1 (wC N s0) 0 [(0, .ref (N.1 1))] []) (s0 : St) (h : F_X6_readWord_0_b k0 s0 = some z1) : Aw p l e rm_X6_readWord s m args below meth c Q D A 1 (wC N s0) 0 [(0, .ref (N.1 1))] [] := by
  unfold F_X6_readWord_0_b at h
  refine aw_aload_n C 0 dX6_readWord_0 rfl ?_
  refine cg_rd_at C lw_11_3 dX6_readWord_1 ?_
  refine aw_aload_n C 0 dX6_readWord_4 rfl ?_
  refine cg_rd_length C lw_11_2 dX6_readWord_5 ?_
  refine aw_icmp_ge (tgt := 39) C dX6_readWord_8 (by decide) (fun q => ?_) (fun q => ?_)
  · have h := bq_t q h
    refine aw_sub (lv' := [(0, .ref (N.1 1))]) [0] rfl ?_
    exact T_X6_readWord_39 C hE s0 h
  · have h := bq_f q h
    refine aw_aload_n C 0 dX6_readWord_11 rfl ?_
    refine cg_rd_tape C lw_5_10 dX6_readWord_12 ?_
    refine aw_aload_n C 0 dX6_readWord_15 rfl ?_
    refine cg_rd_at C lw_11_3 dX6_readWord_16 ?_
    obtain ⟨q1, h⟩ := oA_e h
    refine ca_iald (k := 0) C (by decide) rfl q1 dX6_readWord_19 ?_
    obtain ⟨⟨v2, s3⟩, cw4, h⟩ := oC_e h
    have h := oL_e (x := s3) rfl (oL_e (x := v2) rfl h)
    refine aw_callSi (n := 1) (As := [.int (s0.2.1 0 (Int32.toNatClampNeg (s0.1 5)))]) (rest := []) C (c_X6_isLetter l D N s0 s3 (s0.2.1 0 (Int32.toNatClampNeg (s0.1 5))) v2 cw4) lw_11_14 lw_11_15 lw_2_1 lw_11_16 rfl rfl (by decide +kernel) ⟨Nat.le_of_ble_eq_true rfl, Nat.le_of_ble_eq_true rfl⟩ rfl rfl (Nat.le_of_ble_eq_true rfl) dX6_readWord_20 ?_
    refine aw_if_eq (tgt := 39) C dX6_readWord_23 (by decide) (fun q => ?_) (fun q => ?_)
    · have h := bq_t q h
      refine aw_sub (lv' := [(0, .ref (N.1 1))]) [0] rfl ?_
      exact T_X6_readWord_39 C hE s3 h
    · have h := bq_f q h
      refine aw_aload_n C 0 dX6_readWord_26 rfl ?_
      refine aw_dup C dX6_readWord_27 rfl ?_
      refine cg_rd_at C lw_11_3 dX6_readWord_28 ?_
      refine aw_iconst (v := 1) C dX6_readWord_31 (by decide) ?_
      refine aw_iadd C dX6_readWord_32 ?_
      refine cp_rd_at C lw_11_3 dX6_readWord_33 ?_
      refine ca_name (fun s5 es5 => ?_)
      have h := oL_e es5 h
      refine aw_goto (tgt := 0) C dX6_readWord_36 (by decide) ?_
      refine aw_sub (lv' := [(0, .ref (N.1 1))]) [0] rfl ?_
      exact hk0 s5 h
def F_X6_readWord_0 : Nat → St → Option (St)
  | 0 => fun _ => none
  | n + 1 => F_X6_readWord_0_b (F_X6_readWord_0 n)
theorem T_X6_readWord_0 {z1 : St} (C : Cx p rm_X6_readWord s m args c D A cX6_readWord 1 RX6 rm_X6_readWord N) (hE : En p l e rm_X6_readWord s m args below meth c Q D A cX6_readWord .return_ (wC N z1) [])  : ∀ (n : Nat) (s0 : St), F_X6_readWord_0 n s0 = some z1 → Aw p l e rm_X6_readWord s m args below meth c Q D A 1 (wC N s0) 0 [(0, .ref (N.1 1))] [] := by
  intro n
  induction n with
  | zero => intro s0 h; cases h
  | succ n ih => intro s0 h; exact T_X6_readWord_0_b C hE ih s0 h
def f_X6_readWord (s0 : St) : Option (St) := F_X6_readWord_0 100000 s0
theorem c_X6_readWord (l : Launch) (D : va_G) (N : Nm) (s0 z1 : St) (h : f_X6_readWord s0 = some z1) : Metv l yX6_readWord (tsU yX6_readWord cX6_readWord 1 none) rm_X6_readWord D N [.ref (N.1 1)] (wC N s0) (wC N z1) :=
  met_v (cc := cX6_readWord) (nL := 1) (own := RX6) (by decide) rfl (Nat.le_of_ble_eq_true rfl) (fun p e s m args below meth c Q A C hE => aw_sub [0] rfl (T_X6_readWord_0 C hE 100000 s0 h))
/-! AwardLine$Reader.advance()V -/
def rm_X6_advance : Room := { frames := 6, cells := 0, slots := 0, locals := 132 }
def F_X6_advance_137 (s0 : St) : Option (St) :=
  some s0
set_option maxHeartbeats 4000000 in
set_option maxRecDepth 100000 in
theorem T_X6_advance_137 {z1 : St} (C : Cx p rm_X6_advance s m args c D A cX6_advance 1 RX6 rm_X6_advance N) (hE : En p l e rm_X6_advance s m args below meth c Q D A cX6_advance .return_ (wC N z1) [])  (s0 : St) (h : F_X6_advance_137 s0 = some z1) : Aw p l e rm_X6_advance s m args below meth c Q D A 1 (wC N s0) 137 [] [] := by
  unfold F_X6_advance_137 at h
  cases h
  exact aw_ret hE dX6_advance_137
def F_X6_advance_52 (s0 : St) : Option (St) :=
  oL (sI s0 7 (s0.1 5)) fun s1 =>
  if (s1.1 5) < (s1.1 4) then (
    oA (s1.1 5) 400 <|
    oC (f_X6_isLetter s1 (s1.2.1 0 (Int32.toNatClampNeg (s1.1 5)))) fun w5 =>
    oL w5.1 fun v3 => oL w5.2 fun s4 =>
    if v3 = 0 then (
      oA (s4.1 5) 400 <|
      oC (f_X6_isDigit s4 (s4.2.1 0 (Int32.toNatClampNeg (s4.1 5)))) fun w9 =>
      oL w9.1 fun v7 => oL w9.2 fun s8 =>
      if v7 = 0 then (
        oA (s8.1 5) 400 <|
        oC (f_X6_readSign s8 (s8.2.1 0 (Int32.toNatClampNeg (s8.1 5)))) fun w13 =>
        oL w13 fun s12 =>
        F_X6_advance_137 s12)
      else (
        oC (f_X6_readNumber s8) fun w16 =>
        oL w16 fun s15 =>
        F_X6_advance_137 s15))
    else (
      oC (f_X6_readWord s4) fun w19 =>
      oL w19 fun s18 =>
      F_X6_advance_137 s18))
  else (
    oL (sI s1 6 (34 : Int32)) fun s20 =>
    F_X6_advance_137 s20)
set_option maxHeartbeats 4000000 in
set_option maxRecDepth 100000 in
theorem T_X6_advance_52 {z1 : St} (C : Cx p rm_X6_advance s m args c D A cX6_advance 1 RX6 rm_X6_advance N) (hE : En p l e rm_X6_advance s m args below meth c Q D A cX6_advance .return_ (wC N z1) [])  (s0 : St) (h : F_X6_advance_52 s0 = some z1) : Aw p l e rm_X6_advance s m args below meth c Q D A 1 (wC N s0) 52 [(0, .ref (N.1 1))] [] := by
  unfold F_X6_advance_52 at h
  refine aw_aload_n C 0 dX6_advance_52 rfl ?_
  refine aw_aload_n C 0 dX6_advance_53 rfl ?_
  refine cg_rd_at C lw_11_3 dX6_advance_54 ?_
  refine cp_rd_place C lw_11_13 dX6_advance_57 ?_
  refine ca_name (fun s1 es1 => ?_)
  have h := oL_e es1 h
  refine aw_aload_n C 0 dX6_advance_60 rfl ?_
  refine cg_rd_at C lw_11_3 dX6_advance_61 ?_
  refine aw_aload_n C 0 dX6_advance_64 rfl ?_
  refine cg_rd_length C lw_11_2 dX6_advance_65 ?_
  refine aw_icmp_lt (tgt := 80) C dX6_advance_68 (by decide) (fun q => ?_) (fun q => ?_)
  · have h := bq_t q h
    refine aw_aload_n C 0 dX6_advance_80 rfl ?_
    refine cg_rd_tape C lw_5_10 dX6_advance_81 ?_
    refine aw_aload_n C 0 dX6_advance_84 rfl ?_
    refine cg_rd_at C lw_11_3 dX6_advance_85 ?_
    obtain ⟨q2, h⟩ := oA_e h
    refine ca_iald (k := 0) C (by decide) rfl q2 dX6_advance_88 ?_
    obtain ⟨⟨v3, s4⟩, cw5, h⟩ := oC_e h
    have h := oL_e (x := s4) rfl (oL_e (x := v3) rfl h)
    refine aw_callSi (n := 1) (As := [.int (s1.2.1 0 (Int32.toNatClampNeg (s1.1 5)))]) (rest := []) C (c_X6_isLetter l D N s1 s4 (s1.2.1 0 (Int32.toNatClampNeg (s1.1 5))) v3 cw5) lw_11_14 lw_11_15 lw_2_1 lw_11_16 rfl rfl (by decide +kernel) ⟨Nat.le_of_ble_eq_true rfl, Nat.le_of_ble_eq_true rfl⟩ rfl rfl (Nat.le_of_ble_eq_true rfl) dX6_advance_89 ?_
    refine aw_if_eq (tgt := 102) C dX6_advance_92 (by decide) (fun q => ?_) (fun q => ?_)
    · have h := bq_t q h
      refine aw_aload_n C 0 dX6_advance_102 rfl ?_
      refine cg_rd_tape C lw_5_10 dX6_advance_103 ?_
      refine aw_aload_n C 0 dX6_advance_106 rfl ?_
      refine cg_rd_at C lw_11_3 dX6_advance_107 ?_
      obtain ⟨q6, h⟩ := oA_e h
      refine ca_iald (k := 0) C (by decide) rfl q6 dX6_advance_110 ?_
      obtain ⟨⟨v7, s8⟩, cw9, h⟩ := oC_e h
      have h := oL_e (x := s8) rfl (oL_e (x := v7) rfl h)
      refine aw_callSi (n := 1) (As := [.int (s4.2.1 0 (Int32.toNatClampNeg (s4.1 5)))]) (rest := []) C (c_X6_isDigit l D N s4 s8 (s4.2.1 0 (Int32.toNatClampNeg (s4.1 5))) v7 cw9) lw_14_2 lw_14_3 lw_2_1 lw_14_4 rfl rfl (by decide +kernel) ⟨Nat.le_of_ble_eq_true rfl, Nat.le_of_ble_eq_true rfl⟩ rfl rfl (Nat.le_of_ble_eq_true rfl) dX6_advance_111 ?_
      refine aw_if_eq (tgt := 124) C dX6_advance_114 (by decide) (fun q => ?_) (fun q => ?_)
      · have h := bq_t q h
        refine aw_aload_n C 0 dX6_advance_124 rfl ?_
        refine aw_aload_n C 0 dX6_advance_125 rfl ?_
        refine cg_rd_tape C lw_5_10 dX6_advance_126 ?_
        refine aw_aload_n C 0 dX6_advance_129 rfl ?_
        refine cg_rd_at C lw_11_3 dX6_advance_130 ?_
        obtain ⟨q10, h⟩ := oA_e h
        refine ca_iald (k := 0) C (by decide) rfl q10 dX6_advance_133 ?_
        obtain ⟨s12, cw13, h⟩ := oC_e h
        have h := oL_e (x := s12) rfl h
        refine aw_callVv (n := 1) (As := [.int (s8.2.1 0 (Int32.toNatClampNeg (s8.1 5)))]) (rest := []) (q0 := 1) C (c_X6_readSign l D N s8 s12 (s8.2.1 0 (Int32.toNatClampNeg (s8.1 5))) cw13) lw_14_10 lw_14_11 lw_14_12 lw_2_1 lw_14_13 rfl rfl (by decide +kernel) ⟨Nat.le_of_ble_eq_true rfl, Nat.le_of_ble_eq_true rfl⟩ rfl rfl rfl rfl rfl (Nat.le_of_ble_eq_true rfl) dX6_advance_134 ?_
        refine aw_sub (lv' := []) [] rfl ?_
        exact T_X6_advance_137 C hE s12 h
      · have h := bq_f q h
        refine aw_aload_n C 0 dX6_advance_117 rfl ?_
        obtain ⟨s15, cw16, h⟩ := oC_e h
        have h := oL_e (x := s15) rfl h
        refine aw_callVv (n := 0) (As := []) (rest := []) (q0 := 1) C (c_X6_readNumber l D N s8 s15 cw16) lw_14_5 lw_14_6 lw_14_7 lw_2_1 lw_14_8 rfl rfl (by decide +kernel) ⟨Nat.le_of_ble_eq_true rfl, Nat.le_of_ble_eq_true rfl⟩ rfl rfl rfl rfl rfl (Nat.le_of_ble_eq_true rfl) dX6_advance_118 ?_
        refine aw_goto (tgt := 137) C dX6_advance_121 (by decide) ?_
        refine aw_sub (lv' := []) [] rfl ?_
        exact T_X6_advance_137 C hE s15 h
    · have h := bq_f q h
      refine aw_aload_n C 0 dX6_advance_95 rfl ?_
      obtain ⟨s18, cw19, h⟩ := oC_e h
      have h := oL_e (x := s18) rfl h
      refine aw_callVv (n := 0) (As := []) (rest := []) (q0 := 1) C (c_X6_readWord l D N s4 s18 cw19) lw_11_17 lw_11_18 lw_11_19 lw_2_1 lw_11_20 rfl rfl (by decide +kernel) ⟨Nat.le_of_ble_eq_true rfl, Nat.le_of_ble_eq_true rfl⟩ rfl rfl rfl rfl rfl (Nat.le_of_ble_eq_true rfl) dX6_advance_96 ?_
      refine aw_goto (tgt := 137) C dX6_advance_99 (by decide) ?_
      refine aw_sub (lv' := []) [] rfl ?_
      exact T_X6_advance_137 C hE s18 h
  · have h := bq_f q h
    refine aw_aload_n C 0 dX6_advance_71 rfl ?_
    refine aw_bipush (v := 34) C dX6_advance_72 (by decide) ?_
    refine cp_rd_token C lw_11_7 dX6_advance_74 ?_
    refine ca_name (fun s20 es20 => ?_)
    have h := oL_e es20 h
    refine aw_goto (tgt := 137) C dX6_advance_77 (by decide) ?_
    refine aw_sub (lv' := []) [] rfl ?_
    exact T_X6_advance_137 C hE s20 h
def F_X6_advance_39 (k0 : St → Option (St)) (s0 : St) : Option (St) :=
  oL (sI s0 5 ((s0.1 5) + (1 : Int32))) fun s1 =>
  k0 s1
set_option maxHeartbeats 4000000 in
set_option maxRecDepth 100000 in
theorem T_X6_advance_39 {z1 : St} {k0 : St → Option (St)} (C : Cx p rm_X6_advance s m args c D A cX6_advance 1 RX6 rm_X6_advance N) (hE : En p l e rm_X6_advance s m args below meth c Q D A cX6_advance .return_ (wC N z1) []) (hk0 : ∀ (s0 : St), k0 s0 = some z1 → Aw p l e rm_X6_advance s m args below meth c Q D A 1 (wC N s0) 0 [(0, .ref (N.1 1))] []) (s0 : St) (h : F_X6_advance_39 k0 s0 = some z1) : Aw p l e rm_X6_advance s m args below meth c Q D A 1 (wC N s0) 39 [(0, .ref (N.1 1))] [] := by
  unfold F_X6_advance_39 at h
  refine aw_aload_n C 0 dX6_advance_39 rfl ?_
  refine aw_dup C dX6_advance_40 rfl ?_
  refine cg_rd_at C lw_11_3 dX6_advance_41 ?_
  refine aw_iconst (v := 1) C dX6_advance_44 (by decide) ?_
  refine aw_iadd C dX6_advance_45 ?_
  refine cp_rd_at C lw_11_3 dX6_advance_46 ?_
  refine ca_name (fun s1 es1 => ?_)
  have h := oL_e es1 h
  refine aw_goto (tgt := 0) C dX6_advance_49 (by decide) ?_
  refine aw_sub (lv' := [(0, .ref (N.1 1))]) [0] rfl ?_
  exact hk0 s1 h
def F_X6_advance_0_b (k0 : St → Option (St)) (s0 : St) : Option (St) :=
  if (s0.1 4) ≤ (s0.1 5) then (
    F_X6_advance_52 s0)
  else (
    oA (s0.1 5) 400 <|
    if (s0.2.1 0 (Int32.toNatClampNeg (s0.1 5))) = (32 : Int32) then (
      F_X6_advance_39 k0 s0)
    else (
      oA (s0.1 5) 400 <|
      if (s0.2.1 0 (Int32.toNatClampNeg (s0.1 5))) = (10 : Int32) then (
        F_X6_advance_39 k0 s0)
      else (
        F_X6_advance_52 s0)))
set_option maxHeartbeats 4000000 in
set_option maxRecDepth 100000 in
theorem T_X6_advance_0_b {z1 : St} {k0 : St → Option (St)} (C : Cx p rm_X6_advance s m args c D A cX6_advance 1 RX6 rm_X6_advance N) (hE : En p l e rm_X6_advance s m args below meth c Q D A cX6_advance .return_ (wC N z1) []) (hk0 : ∀ (s0 : St), k0 s0 = some z1 → Aw p l e rm_X6_advance s m args below meth c Q D A 1 (wC N s0) 0 [(0, .ref (N.1 1))] []) (s0 : St) (h : F_X6_advance_0_b k0 s0 = some z1) : Aw p l e rm_X6_advance s m args below meth c Q D A 1 (wC N s0) 0 [(0, .ref (N.1 1))] [] := by
  unfold F_X6_advance_0_b at h
  refine aw_aload_n C 0 dX6_advance_0 rfl ?_
  refine cg_rd_at C lw_11_3 dX6_advance_1 ?_
  refine aw_aload_n C 0 dX6_advance_4 rfl ?_
  refine cg_rd_length C lw_11_2 dX6_advance_5 ?_
  refine aw_icmp_ge (tgt := 52) C dX6_advance_8 (by decide) (fun q => ?_) (fun q => ?_)
  · have h := bq_t q h
    refine aw_sub (lv' := [(0, .ref (N.1 1))]) [0] rfl ?_
    exact T_X6_advance_52 C hE s0 h
  · have h := bq_f q h
    refine aw_aload_n C 0 dX6_advance_11 rfl ?_
    refine cg_rd_tape C lw_5_10 dX6_advance_12 ?_
    refine aw_aload_n C 0 dX6_advance_15 rfl ?_
    refine cg_rd_at C lw_11_3 dX6_advance_16 ?_
    obtain ⟨q1, h⟩ := oA_e h
    refine ca_iald (k := 0) C (by decide) rfl q1 dX6_advance_19 ?_
    refine aw_bipush (v := 32) C dX6_advance_20 (by decide) ?_
    refine aw_icmp_eq (tgt := 39) C dX6_advance_22 (by decide) (fun q => ?_) (fun q => ?_)
    · have h := bq_t q h
      refine aw_sub (lv' := [(0, .ref (N.1 1))]) [0] rfl ?_
      exact T_X6_advance_39 C hE hk0 s0 h
    · have h := bq_f q h
      refine aw_aload_n C 0 dX6_advance_25 rfl ?_
      refine cg_rd_tape C lw_5_10 dX6_advance_26 ?_
      refine aw_aload_n C 0 dX6_advance_29 rfl ?_
      refine cg_rd_at C lw_11_3 dX6_advance_30 ?_
      obtain ⟨q2, h⟩ := oA_e h
      refine ca_iald (k := 0) C (by decide) rfl q2 dX6_advance_33 ?_
      refine aw_bipush (v := 10) C dX6_advance_34 (by decide) ?_
      refine aw_icmp_ne (tgt := 52) C dX6_advance_36 (by decide) (fun q => ?_) (fun q => ?_)
      · have h := bq_f q h
        refine aw_sub (lv' := [(0, .ref (N.1 1))]) [0] rfl ?_
        exact T_X6_advance_52 C hE s0 h
      · have h := bq_t q h
        refine aw_sub (lv' := [(0, .ref (N.1 1))]) [0] rfl ?_
        exact T_X6_advance_39 C hE hk0 s0 h
def F_X6_advance_0 : Nat → St → Option (St)
  | 0 => fun _ => none
  | n + 1 => F_X6_advance_0_b (F_X6_advance_0 n)
theorem T_X6_advance_0 {z1 : St} (C : Cx p rm_X6_advance s m args c D A cX6_advance 1 RX6 rm_X6_advance N) (hE : En p l e rm_X6_advance s m args below meth c Q D A cX6_advance .return_ (wC N z1) [])  : ∀ (n : Nat) (s0 : St), F_X6_advance_0 n s0 = some z1 → Aw p l e rm_X6_advance s m args below meth c Q D A 1 (wC N s0) 0 [(0, .ref (N.1 1))] [] := by
  intro n
  induction n with
  | zero => intro s0 h; cases h
  | succ n ih => intro s0 h; exact T_X6_advance_0_b C hE ih s0 h
def f_X6_advance (s0 : St) : Option (St) := F_X6_advance_0 100000 s0
theorem c_X6_advance (l : Launch) (D : va_G) (N : Nm) (s0 z1 : St) (h : f_X6_advance s0 = some z1) : Metv l yX6_advance (tsU yX6_advance cX6_advance 1 none) rm_X6_advance D N [.ref (N.1 1)] (wC N s0) (wC N z1) :=
  met_v (cc := cX6_advance) (nL := 1) (own := RX6) (by decide) rfl (Nat.le_of_ble_eq_true rfl) (fun p e s m args below meth c Q A C hE => aw_sub [0] rfl (T_X6_advance_0 C hE 100000 s0 h))
/-! AwardLine$Reader.pass(I)Z -/
def rm_X6_pass : Room := { frames := 7, cells := 0, slots := 0, locals := 152 }
def F_X6_pass_0 (s0 : St) (x1 : Int32) : Option (Int32 × St) :=
  if (s0.1 6) = x1 then (
    oC (f_X6_advance s0) fun w3 =>
    oL w3 fun s2 =>
    some ((1 : Int32), s2))
  else (
    oC (f_X6_refuse s0 (1 : Int32)) fun w6 =>
    oL w6.1 fun v4 => oL w6.2 fun s5 =>
    some (v4, s5))
set_option maxHeartbeats 4000000 in
set_option maxRecDepth 100000 in
theorem T_X6_pass_0 {r : Int32} {z1 : St} (C : Cx p rm_X6_pass s m args c D A cX6_pass 2 RX6 rm_X6_pass N) (hE : En p l e rm_X6_pass s m args below meth c Q D A cX6_pass .ireturn (wC N z1) [.int r])  (s0 : St) (x1 : Int32) (h : F_X6_pass_0 s0 x1 = some (r, z1)) : Aw p l e rm_X6_pass s m args below meth c Q D A 2 (wC N s0) 0 [(0, .ref (N.1 1)), (1, .int x1)] [] := by
  unfold F_X6_pass_0 at h
  refine aw_aload_n C 0 dX6_pass_0 rfl ?_
  refine cg_rd_token C lw_11_7 dX6_pass_1 ?_
  refine aw_iload_n C 1 dX6_pass_4 rfl ?_
  refine aw_icmp_eq (tgt := 14) C dX6_pass_5 (by decide) (fun q => ?_) (fun q => ?_)
  · have h := bq_t q h
    refine aw_aload_n C 0 dX6_pass_14 rfl ?_
    obtain ⟨s2, cw3, h⟩ := oC_e h
    have h := oL_e (x := s2) rfl h
    refine aw_callVv (n := 0) (As := []) (rest := []) (q0 := 1) C (c_X6_advance l D N s0 s2 cw3) lw_11_9 lw_11_10 lw_11_11 lw_2_1 lw_11_12 rfl rfl (by decide +kernel) ⟨Nat.le_of_ble_eq_true rfl, Nat.le_of_ble_eq_true rfl⟩ rfl rfl rfl rfl rfl (Nat.le_of_ble_eq_true rfl) dX6_pass_15 ?_
    refine aw_iconst (v := 1) C dX6_pass_18 (by decide) ?_
    cases h
    exact aw_ret hE dX6_pass_19
  · have h := bq_f q h
    refine aw_aload_n C 0 dX6_pass_8 rfl ?_
    refine aw_iconst (v := 1) C dX6_pass_9 (by decide) ?_
    obtain ⟨⟨v4, s5⟩, cw6, h⟩ := oC_e h
    have h := oL_e (x := s5) rfl (oL_e (x := v4) rfl h)
    refine aw_callVi (n := 1) (As := [.int (1 : Int32)]) (rest := []) (q0 := 1) C (c_X6_refuse l D N s0 s5 (1 : Int32) v4 cw6) lw_15_2 lw_15_3 lw_15_4 lw_2_1 lw_15_5 rfl rfl (by decide +kernel) ⟨Nat.le_of_ble_eq_true rfl, Nat.le_of_ble_eq_true rfl⟩ rfl rfl rfl rfl rfl (Nat.le_of_ble_eq_true rfl) dX6_pass_10 ?_
    cases h
    exact aw_ret hE dX6_pass_13
def f_X6_pass (s0 : St) (x1 : Int32) : Option (Int32 × St) := oC (F_X6_pass_0 s0 x1) fun w => oZ w.1 (some w)
theorem c_X6_pass (l : Launch) (D : va_G) (N : Nm) (s0 z1 : St) (x1 : Int32) (r : Int32) (h : f_X6_pass s0 x1 = some (r, z1)) : Meti l yX6_pass (tsU yX6_pass cX6_pass 2 (some .boolean)) rm_X6_pass D N [.ref (N.1 1), .int x1] (wC N s0) r (wC N z1) := by
  obtain ⟨w, h1, h2⟩ := oC_e h
  obtain ⟨hz, h2⟩ := oZ_e h2
  cases h2
  exact met_z (cc := cX6_pass) (nL := 2) (own := RX6) (by decide) rfl (Nat.le_of_ble_eq_true rfl) (zN hz) (fun p e s m args below meth c Q A C hE => aw_sub [0, 1] rfl (T_X6_pass_0 C hE s0 x1 h1))
/-! AwardLine$Reader.once()Z -/
def rm_X6_once : Room := { frames := 7, cells := 0, slots := 0, locals := 152 }
def F_X6_once_0 (s0 : St) : Option (Int32 × St) :=
  oL ((1 : Int32) <<< ((s0.1 6) &&& 31)) fun y1 =>
  if (s0.1 11) &&& y1 = 0 then (
    oL (sI s0 11 ((s0.1 11) ||| y1)) fun s2 =>
    oC (f_X6_advance s2) fun w5 =>
    oL w5 fun s4 =>
    some ((1 : Int32), s4))
  else (
    oC (f_X6_refuse s0 (3 : Int32)) fun w8 =>
    oL w8.1 fun v6 => oL w8.2 fun s7 =>
    some (v6, s7))
set_option maxHeartbeats 4000000 in
set_option maxRecDepth 100000 in
theorem T_X6_once_0 {r : Int32} {z1 : St} (C : Cx p rm_X6_once s m args c D A cX6_once 2 RX6 rm_X6_once N) (hE : En p l e rm_X6_once s m args below meth c Q D A cX6_once .ireturn (wC N z1) [.int r])  (s0 : St) (h : F_X6_once_0 s0 = some (r, z1)) : Aw p l e rm_X6_once s m args below meth c Q D A 2 (wC N s0) 0 [(0, .ref (N.1 1))] [] := by
  unfold F_X6_once_0 at h
  refine aw_iconst (v := 1) C dX6_once_0 (by decide) ?_
  refine aw_aload_n C 0 dX6_once_1 rfl ?_
  refine cg_rd_token C lw_11_7 dX6_once_2 ?_
  refine aw_ishl C dX6_once_5 ?_
  refine aw_topi (fun y1 ey1 => ?_)
  have h := oL_e ey1 h
  refine aw_istore_n (lv' := [(0, .ref (N.1 1)), (1, .int y1)]) C [1, 0] dX6_once_6 rfl (by decide) rfl ?_
  refine aw_aload_n C 0 dX6_once_7 rfl ?_
  refine cg_rd_linesTold C lw_11_6 dX6_once_8 ?_
  refine aw_iload_n C 1 dX6_once_11 rfl ?_
  refine aw_iand C dX6_once_12 ?_
  refine aw_if_eq (tgt := 22) C dX6_once_13 (by decide) (fun q => ?_) (fun q => ?_)
  · have h := bq_t q h
    refine aw_aload_n C 0 dX6_once_22 rfl ?_
    refine aw_dup C dX6_once_23 rfl ?_
    refine cg_rd_linesTold C lw_11_6 dX6_once_24 ?_
    refine aw_iload_n C 1 dX6_once_27 rfl ?_
    refine aw_ior C dX6_once_28 ?_
    refine cp_rd_linesTold C lw_11_6 dX6_once_29 ?_
    refine ca_name (fun s2 es2 => ?_)
    have h := oL_e es2 h
    refine aw_aload_n C 0 dX6_once_32 rfl ?_
    obtain ⟨s4, cw5, h⟩ := oC_e h
    have h := oL_e (x := s4) rfl h
    refine aw_callVv (n := 0) (As := []) (rest := []) (q0 := 1) C (c_X6_advance l D N s2 s4 cw5) lw_11_9 lw_11_10 lw_11_11 lw_2_1 lw_11_12 rfl rfl (by decide +kernel) ⟨Nat.le_of_ble_eq_true rfl, Nat.le_of_ble_eq_true rfl⟩ rfl rfl rfl rfl rfl (Nat.le_of_ble_eq_true rfl) dX6_once_33 ?_
    refine aw_iconst (v := 1) C dX6_once_36 (by decide) ?_
    cases h
    exact aw_ret hE dX6_once_37
  · have h := bq_f q h
    refine aw_aload_n C 0 dX6_once_16 rfl ?_
    refine aw_iconst (v := 3) C dX6_once_17 (by decide) ?_
    obtain ⟨⟨v6, s7⟩, cw8, h⟩ := oC_e h
    have h := oL_e (x := s7) rfl (oL_e (x := v6) rfl h)
    refine aw_callVi (n := 1) (As := [.int (3 : Int32)]) (rest := []) (q0 := 1) C (c_X6_refuse l D N s0 s7 (3 : Int32) v6 cw8) lw_15_2 lw_15_3 lw_15_4 lw_2_1 lw_15_5 rfl rfl (by decide +kernel) ⟨Nat.le_of_ble_eq_true rfl, Nat.le_of_ble_eq_true rfl⟩ rfl rfl rfl rfl rfl (Nat.le_of_ble_eq_true rfl) dX6_once_18 ?_
    cases h
    exact aw_ret hE dX6_once_21
def f_X6_once (s0 : St) : Option (Int32 × St) := oC (F_X6_once_0 s0) fun w => oZ w.1 (some w)
theorem c_X6_once (l : Launch) (D : va_G) (N : Nm) (s0 z1 : St) (r : Int32) (h : f_X6_once s0 = some (r, z1)) : Meti l yX6_once (tsU yX6_once cX6_once 2 (some .boolean)) rm_X6_once D N [.ref (N.1 1)] (wC N s0) r (wC N z1) := by
  obtain ⟨w, h1, h2⟩ := oC_e h
  obtain ⟨hz, h2⟩ := oZ_e h2
  cases h2
  exact met_z (cc := cX6_once) (nL := 2) (own := RX6) (by decide) rfl (Nat.le_of_ble_eq_true rfl) (zN hz) (fun p e s m args below meth c Q A C hE => aw_sub [0] rfl (T_X6_once_0 C hE s0 h1))
/-! AwardLine$Reader.unitLine()Z -/
def rm_X6_unitLine : Room := { frames := 7, cells := 0, slots := 0, locals := 152 }
def F_X6_unitLine_17 (s0 : St) : Option (Int32 × St) :=
  oC (f_X6_refuse s0 (1 : Int32)) fun w3 =>
  oL w3.1 fun v1 => oL w3.2 fun s2 =>
  some (v1, s2)
set_option maxHeartbeats 4000000 in
set_option maxRecDepth 100000 in
theorem T_X6_unitLine_17 {r : Int32} {z1 : St} (C : Cx p rm_X6_unitLine s m args c D A cX6_unitLine 1 RX6 rm_X6_unitLine N) (hE : En p l e rm_X6_unitLine s m args below meth c Q D A cX6_unitLine .ireturn (wC N z1) [.int r])  (s0 : St) (h : F_X6_unitLine_17 s0 = some (r, z1)) : Aw p l e rm_X6_unitLine s m args below meth c Q D A 1 (wC N s0) 17 [(0, .ref (N.1 1))] [] := by
  unfold F_X6_unitLine_17 at h
  refine aw_aload_n C 0 dX6_unitLine_17 rfl ?_
  refine aw_iconst (v := 1) C dX6_unitLine_18 (by decide) ?_
  obtain ⟨⟨v1, s2⟩, cw3, h⟩ := oC_e h
  have h := oL_e (x := s2) rfl (oL_e (x := v1) rfl h)
  refine aw_callVi (n := 1) (As := [.int (1 : Int32)]) (rest := []) (q0 := 1) C (c_X6_refuse l D N s0 s2 (1 : Int32) v1 cw3) lw_15_2 lw_15_3 lw_15_4 lw_2_1 lw_15_5 rfl rfl (by decide +kernel) ⟨Nat.le_of_ble_eq_true rfl, Nat.le_of_ble_eq_true rfl⟩ rfl rfl rfl rfl rfl (Nat.le_of_ble_eq_true rfl) dX6_unitLine_19 ?_
  cases h
  exact aw_ret hE dX6_unitLine_22
def F_X6_unitLine_0 (s0 : St) : Option (Int32 × St) :=
  if (s0.1 6) < (5 : Int32) then (
    F_X6_unitLine_17 s0)
  else (
    if (s0.1 6) ≤ (7 : Int32) then (
      oT (s0.1 12) <|
      oL (sI s0 17 ((s0.1 6) - (5 : Int32))) fun s2 =>
      oC (f_X6_advance s2) fun w5 =>
      oL w5 fun s4 =>
      some ((1 : Int32), s4))
    else (
      F_X6_unitLine_17 s0))
set_option maxHeartbeats 4000000 in
set_option maxRecDepth 100000 in
theorem T_X6_unitLine_0 {r : Int32} {z1 : St} (C : Cx p rm_X6_unitLine s m args c D A cX6_unitLine 1 RX6 rm_X6_unitLine N) (hE : En p l e rm_X6_unitLine s m args below meth c Q D A cX6_unitLine .ireturn (wC N z1) [.int r])  (s0 : St) (h : F_X6_unitLine_0 s0 = some (r, z1)) : Aw p l e rm_X6_unitLine s m args below meth c Q D A 1 (wC N s0) 0 [(0, .ref (N.1 1))] [] := by
  unfold F_X6_unitLine_0 at h
  refine aw_aload_n C 0 dX6_unitLine_0 rfl ?_
  refine cg_rd_token C lw_11_7 dX6_unitLine_1 ?_
  refine aw_iconst (v := 5) C dX6_unitLine_4 (by decide) ?_
  refine aw_icmp_lt (tgt := 17) C dX6_unitLine_5 (by decide) (fun q => ?_) (fun q => ?_)
  · have h := bq_t q h
    refine aw_sub (lv' := [(0, .ref (N.1 1))]) [0] rfl ?_
    exact T_X6_unitLine_17 C hE s0 h
  · have h := bq_f q h
    refine aw_aload_n C 0 dX6_unitLine_8 rfl ?_
    refine cg_rd_token C lw_11_7 dX6_unitLine_9 ?_
    refine aw_bipush (v := 7) C dX6_unitLine_12 (by decide) ?_
    refine aw_icmp_le (tgt := 23) C dX6_unitLine_14 (by decide) (fun q => ?_) (fun q => ?_)
    · have h := bq_t q h
      refine aw_aload_n C 0 dX6_unitLine_23 rfl ?_
      obtain ⟨q1, h⟩ := oT_e h
      refine cg_rd_into C lw_10_21 dX6_unitLine_24 ?_
      refine aw_into q1 ?_
      refine aw_aload_n C 0 dX6_unitLine_27 rfl ?_
      refine cg_rd_token C lw_11_7 dX6_unitLine_28 ?_
      refine aw_iconst (v := 5) C dX6_unitLine_31 (by decide) ?_
      refine aw_isub C dX6_unitLine_32 ?_
      refine cp_ts_unit C lw_15_10 dX6_unitLine_33 ?_
      refine ca_name (fun s2 es2 => ?_)
      have h := oL_e es2 h
      refine aw_aload_n C 0 dX6_unitLine_36 rfl ?_
      obtain ⟨s4, cw5, h⟩ := oC_e h
      have h := oL_e (x := s4) rfl h
      refine aw_callVv (n := 0) (As := []) (rest := []) (q0 := 1) C (c_X6_advance l D N s2 s4 cw5) lw_11_9 lw_11_10 lw_11_11 lw_2_1 lw_11_12 rfl rfl (by decide +kernel) ⟨Nat.le_of_ble_eq_true rfl, Nat.le_of_ble_eq_true rfl⟩ rfl rfl rfl rfl rfl (Nat.le_of_ble_eq_true rfl) dX6_unitLine_37 ?_
      refine aw_iconst (v := 1) C dX6_unitLine_40 (by decide) ?_
      cases h
      exact aw_ret hE dX6_unitLine_41
    · have h := bq_f q h
      refine aw_sub (lv' := [(0, .ref (N.1 1))]) [0] rfl ?_
      exact T_X6_unitLine_17 C hE s0 h
def f_X6_unitLine (s0 : St) : Option (Int32 × St) := oC (F_X6_unitLine_0 s0) fun w => oZ w.1 (some w)
theorem c_X6_unitLine (l : Launch) (D : va_G) (N : Nm) (s0 z1 : St) (r : Int32) (h : f_X6_unitLine s0 = some (r, z1)) : Meti l yX6_unitLine (tsU yX6_unitLine cX6_unitLine 1 (some .boolean)) rm_X6_unitLine D N [.ref (N.1 1)] (wC N s0) r (wC N z1) := by
  obtain ⟨w, h1, h2⟩ := oC_e h
  obtain ⟨hz, h2⟩ := oZ_e h2
  cases h2
  exact met_z (cc := cX6_unitLine) (nL := 1) (own := RX6) (by decide) rfl (Nat.le_of_ble_eq_true rfl) (zN hz) (fun p e s m args below meth c Q A C hE => aw_sub [0] rfl (T_X6_unitLine_0 C hE s0 h1))
/-! AwardLine$Reader.amount(I)Z -/
def rm_X6_amount : Room := { frames := 7, cells := 0, slots := 0, locals := 152 }
def F_X6_amount_0 (s0 : St) (x1 : Int32) : Option (Int32 × St) :=
  if (s0.1 6) = (20 : Int32) then (
    if (s0.1 8) ≤ x1 then (
      oL (sI s0 9 (s0.1 8)) fun s1 =>
      oC (f_X6_advance s1) fun w4 =>
      oL w4 fun s3 =>
      some ((1 : Int32), s3))
    else (
      oC (f_X6_refuse s0 (2 : Int32)) fun w7 =>
      oL w7.1 fun v5 => oL w7.2 fun s6 =>
      some (v5, s6)))
  else (
    oC (f_X6_refuse s0 (1 : Int32)) fun w10 =>
    oL w10.1 fun v8 => oL w10.2 fun s9 =>
    some (v8, s9))
set_option maxHeartbeats 4000000 in
set_option maxRecDepth 100000 in
theorem T_X6_amount_0 {r : Int32} {z1 : St} (C : Cx p rm_X6_amount s m args c D A cX6_amount 2 RX6 rm_X6_amount N) (hE : En p l e rm_X6_amount s m args below meth c Q D A cX6_amount .ireturn (wC N z1) [.int r])  (s0 : St) (x1 : Int32) (h : F_X6_amount_0 s0 x1 = some (r, z1)) : Aw p l e rm_X6_amount s m args below meth c Q D A 2 (wC N s0) 0 [(0, .ref (N.1 1)), (1, .int x1)] [] := by
  unfold F_X6_amount_0 at h
  refine aw_aload_n C 0 dX6_amount_0 rfl ?_
  refine cg_rd_token C lw_11_7 dX6_amount_1 ?_
  refine aw_bipush (v := 20) C dX6_amount_4 (by decide) ?_
  refine aw_icmp_eq (tgt := 15) C dX6_amount_6 (by decide) (fun q => ?_) (fun q => ?_)
  · have h := bq_t q h
    refine aw_aload_n C 0 dX6_amount_15 rfl ?_
    refine cg_rd_number C lw_14_9 dX6_amount_16 ?_
    refine aw_iload_n C 1 dX6_amount_19 rfl ?_
    refine aw_icmp_le (tgt := 29) C dX6_amount_20 (by decide) (fun q => ?_) (fun q => ?_)
    · have h := bq_t q h
      refine aw_aload_n C 0 dX6_amount_29 rfl ?_
      refine aw_aload_n C 0 dX6_amount_30 rfl ?_
      refine cg_rd_number C lw_14_9 dX6_amount_31 ?_
      refine cp_rd_amountRead C lw_16_21 dX6_amount_34 ?_
      refine ca_name (fun s1 es1 => ?_)
      have h := oL_e es1 h
      refine aw_aload_n C 0 dX6_amount_37 rfl ?_
      obtain ⟨s3, cw4, h⟩ := oC_e h
      have h := oL_e (x := s3) rfl h
      refine aw_callVv (n := 0) (As := []) (rest := []) (q0 := 1) C (c_X6_advance l D N s1 s3 cw4) lw_11_9 lw_11_10 lw_11_11 lw_2_1 lw_11_12 rfl rfl (by decide +kernel) ⟨Nat.le_of_ble_eq_true rfl, Nat.le_of_ble_eq_true rfl⟩ rfl rfl rfl rfl rfl (Nat.le_of_ble_eq_true rfl) dX6_amount_38 ?_
      refine aw_iconst (v := 1) C dX6_amount_41 (by decide) ?_
      cases h
      exact aw_ret hE dX6_amount_42
    · have h := bq_f q h
      refine aw_aload_n C 0 dX6_amount_23 rfl ?_
      refine aw_iconst (v := 2) C dX6_amount_24 (by decide) ?_
      obtain ⟨⟨v5, s6⟩, cw7, h⟩ := oC_e h
      have h := oL_e (x := s6) rfl (oL_e (x := v5) rfl h)
      refine aw_callVi (n := 1) (As := [.int (2 : Int32)]) (rest := []) (q0 := 1) C (c_X6_refuse l D N s0 s6 (2 : Int32) v5 cw7) lw_15_2 lw_15_3 lw_15_4 lw_2_1 lw_15_5 rfl rfl (by decide +kernel) ⟨Nat.le_of_ble_eq_true rfl, Nat.le_of_ble_eq_true rfl⟩ rfl rfl rfl rfl rfl (Nat.le_of_ble_eq_true rfl) dX6_amount_25 ?_
      cases h
      exact aw_ret hE dX6_amount_28
  · have h := bq_f q h
    refine aw_aload_n C 0 dX6_amount_9 rfl ?_
    refine aw_iconst (v := 1) C dX6_amount_10 (by decide) ?_
    obtain ⟨⟨v8, s9⟩, cw10, h⟩ := oC_e h
    have h := oL_e (x := s9) rfl (oL_e (x := v8) rfl h)
    refine aw_callVi (n := 1) (As := [.int (1 : Int32)]) (rest := []) (q0 := 1) C (c_X6_refuse l D N s0 s9 (1 : Int32) v8 cw10) lw_15_2 lw_15_3 lw_15_4 lw_2_1 lw_15_5 rfl rfl (by decide +kernel) ⟨Nat.le_of_ble_eq_true rfl, Nat.le_of_ble_eq_true rfl⟩ rfl rfl rfl rfl rfl (Nat.le_of_ble_eq_true rfl) dX6_amount_11 ?_
    cases h
    exact aw_ret hE dX6_amount_14
def f_X6_amount (s0 : St) (x1 : Int32) : Option (Int32 × St) := oC (F_X6_amount_0 s0 x1) fun w => oZ w.1 (some w)
theorem c_X6_amount (l : Launch) (D : va_G) (N : Nm) (s0 z1 : St) (x1 : Int32) (r : Int32) (h : f_X6_amount s0 x1 = some (r, z1)) : Meti l yX6_amount (tsU yX6_amount cX6_amount 2 (some .boolean)) rm_X6_amount D N [.ref (N.1 1), .int x1] (wC N s0) r (wC N z1) := by
  obtain ⟨w, h1, h2⟩ := oC_e h
  obtain ⟨hz, h2⟩ := oZ_e h2
  cases h2
  exact met_z (cc := cX6_amount) (nL := 2) (own := RX6) (by decide) rfl (Nat.le_of_ble_eq_true rfl) (zN hz) (fun p e s m args below meth c Q A C hE => aw_sub [0, 1] rfl (T_X6_amount_0 C hE s0 x1 h1))
/-! AwardLine$Reader.fearLine()Z -/
def rm_X6_fearLine : Room := { frames := 8, cells := 0, slots := 0, locals := 173 }
def F_X6_fearLine_0 (s0 : St) : Option (Int32 × St) :=
  oC (f_X6_amount s0 (100 : Int32)) fun w3 =>
  oL w3.1 fun v1 => oL w3.2 fun s2 =>
  oT (s2.1 12) <|
  oL (sI s2 18 (s2.1 9)) fun s5 =>
  some (v1, s5)
set_option maxHeartbeats 4000000 in
set_option maxRecDepth 100000 in
theorem T_X6_fearLine_0 {r : Int32} {z1 : St} (C : Cx p rm_X6_fearLine s m args c D A cX6_fearLine 2 RX6 rm_X6_fearLine N) (hE : En p l e rm_X6_fearLine s m args below meth c Q D A cX6_fearLine .ireturn (wC N z1) [.int r])  (s0 : St) (h : F_X6_fearLine_0 s0 = some (r, z1)) : Aw p l e rm_X6_fearLine s m args below meth c Q D A 2 (wC N s0) 0 [(0, .ref (N.1 1))] [] := by
  unfold F_X6_fearLine_0 at h
  refine aw_aload_n C 0 dX6_fearLine_0 rfl ?_
  refine aw_bipush (v := 100) C dX6_fearLine_1 (by decide) ?_
  obtain ⟨⟨v1, s2⟩, cw3, h⟩ := oC_e h
  have h := oL_e (x := s2) rfl (oL_e (x := v1) rfl h)
  refine aw_callVi (n := 1) (As := [.int (100 : Int32)]) (rest := []) (q0 := 1) C (c_X6_amount l D N s0 s2 (100 : Int32) v1 cw3) lw_16_23 lw_17_0 lw_17_1 lw_2_1 lw_17_2 rfl rfl (by decide +kernel) ⟨Nat.le_of_ble_eq_true rfl, Nat.le_of_ble_eq_true rfl⟩ rfl rfl rfl rfl rfl (Nat.le_of_ble_eq_true rfl) dX6_fearLine_3 ?_
  refine aw_istore_n (lv' := [(0, .ref (N.1 1)), (1, .int v1)]) C [1, 0] dX6_fearLine_6 rfl (by decide) rfl ?_
  refine aw_aload_n C 0 dX6_fearLine_7 rfl ?_
  obtain ⟨q4, h⟩ := oT_e h
  refine cg_rd_into C lw_10_21 dX6_fearLine_8 ?_
  refine aw_into q4 ?_
  refine aw_aload_n C 0 dX6_fearLine_11 rfl ?_
  refine cg_rd_amountRead C lw_16_21 dX6_fearLine_12 ?_
  refine cp_ts_fear C lw_16_22 dX6_fearLine_15 ?_
  refine ca_name (fun s5 es5 => ?_)
  have h := oL_e es5 h
  refine aw_iload_n C 1 dX6_fearLine_18 rfl ?_
  cases h
  exact aw_ret hE dX6_fearLine_19
def f_X6_fearLine (s0 : St) : Option (Int32 × St) := oC (F_X6_fearLine_0 s0) fun w => oZ w.1 (some w)
theorem c_X6_fearLine (l : Launch) (D : va_G) (N : Nm) (s0 z1 : St) (r : Int32) (h : f_X6_fearLine s0 = some (r, z1)) : Meti l yX6_fearLine (tsU yX6_fearLine cX6_fearLine 2 (some .boolean)) rm_X6_fearLine D N [.ref (N.1 1)] (wC N s0) r (wC N z1) := by
  obtain ⟨w, h1, h2⟩ := oC_e h
  obtain ⟨hz, h2⟩ := oZ_e h2
  cases h2
  exact met_z (cc := cX6_fearLine) (nL := 2) (own := RX6) (by decide) rfl (Nat.le_of_ble_eq_true rfl) (zN hz) (fun p e s m args below meth c Q A C hE => aw_sub [0] rfl (T_X6_fearLine_0 C hE s0 h1))
/-! AwardLine$Reader.loseLine()Z -/
def rm_X6_loseLine : Room := { frames := 8, cells := 0, slots := 0, locals := 173 }
def F_X6_loseLine_0 (s0 : St) : Option (Int32 × St) :=
  oC (f_X6_amount s0 (100 : Int32)) fun w3 =>
  oL w3.1 fun v1 => oL w3.2 fun s2 =>
  oT (s2.1 12) <|
  oL (sI s2 19 (s2.1 9)) fun s5 =>
  some (v1, s5)
set_option maxHeartbeats 4000000 in
set_option maxRecDepth 100000 in
theorem T_X6_loseLine_0 {r : Int32} {z1 : St} (C : Cx p rm_X6_loseLine s m args c D A cX6_loseLine 2 RX6 rm_X6_loseLine N) (hE : En p l e rm_X6_loseLine s m args below meth c Q D A cX6_loseLine .ireturn (wC N z1) [.int r])  (s0 : St) (h : F_X6_loseLine_0 s0 = some (r, z1)) : Aw p l e rm_X6_loseLine s m args below meth c Q D A 2 (wC N s0) 0 [(0, .ref (N.1 1))] [] := by
  unfold F_X6_loseLine_0 at h
  refine aw_aload_n C 0 dX6_loseLine_0 rfl ?_
  refine aw_bipush (v := 100) C dX6_loseLine_1 (by decide) ?_
  obtain ⟨⟨v1, s2⟩, cw3, h⟩ := oC_e h
  have h := oL_e (x := s2) rfl (oL_e (x := v1) rfl h)
  refine aw_callVi (n := 1) (As := [.int (100 : Int32)]) (rest := []) (q0 := 1) C (c_X6_amount l D N s0 s2 (100 : Int32) v1 cw3) lw_16_23 lw_17_0 lw_17_1 lw_2_1 lw_17_2 rfl rfl (by decide +kernel) ⟨Nat.le_of_ble_eq_true rfl, Nat.le_of_ble_eq_true rfl⟩ rfl rfl rfl rfl rfl (Nat.le_of_ble_eq_true rfl) dX6_loseLine_3 ?_
  refine aw_istore_n (lv' := [(0, .ref (N.1 1)), (1, .int v1)]) C [1, 0] dX6_loseLine_6 rfl (by decide) rfl ?_
  refine aw_aload_n C 0 dX6_loseLine_7 rfl ?_
  obtain ⟨q4, h⟩ := oT_e h
  refine cg_rd_into C lw_10_21 dX6_loseLine_8 ?_
  refine aw_into q4 ?_
  refine aw_aload_n C 0 dX6_loseLine_11 rfl ?_
  refine cg_rd_amountRead C lw_16_21 dX6_loseLine_12 ?_
  refine cp_ts_lose C lw_17_7 dX6_loseLine_15 ?_
  refine ca_name (fun s5 es5 => ?_)
  have h := oL_e es5 h
  refine aw_iload_n C 1 dX6_loseLine_18 rfl ?_
  cases h
  exact aw_ret hE dX6_loseLine_19
def f_X6_loseLine (s0 : St) : Option (Int32 × St) := oC (F_X6_loseLine_0 s0) fun w => oZ w.1 (some w)
theorem c_X6_loseLine (l : Launch) (D : va_G) (N : Nm) (s0 z1 : St) (r : Int32) (h : f_X6_loseLine s0 = some (r, z1)) : Meti l yX6_loseLine (tsU yX6_loseLine cX6_loseLine 2 (some .boolean)) rm_X6_loseLine D N [.ref (N.1 1)] (wC N s0) r (wC N z1) := by
  obtain ⟨w, h1, h2⟩ := oC_e h
  obtain ⟨hz, h2⟩ := oZ_e h2
  cases h2
  exact met_z (cc := cX6_loseLine) (nL := 2) (own := RX6) (by decide) rfl (Nat.le_of_ble_eq_true rfl) (zN hz) (fun p e s m args below meth c Q A C hE => aw_sub [0] rfl (T_X6_loseLine_0 C hE s0 h1))
/-! AwardLine$Reader.weighLine()Z -/
def rm_X6_weighLine : Room := { frames := 8, cells := 0, slots := 0, locals := 173 }
def F_X6_weighLine_18 (s0 : St) : Option (Int32 × St) :=
  oC (f_X6_refuse s0 (1 : Int32)) fun w3 =>
  oL w3.1 fun v1 => oL w3.2 fun s2 =>
  some (v1, s2)
set_option maxHeartbeats 4000000 in
set_option maxRecDepth 100000 in
theorem T_X6_weighLine_18 {r : Int32} {z1 : St} (C : Cx p rm_X6_weighLine s m args c D A cX6_weighLine 3 RX6 rm_X6_weighLine N) (hE : En p l e rm_X6_weighLine s m args below meth c Q D A cX6_weighLine .ireturn (wC N z1) [.int r])  (s0 : St) (h : F_X6_weighLine_18 s0 = some (r, z1)) : Aw p l e rm_X6_weighLine s m args below meth c Q D A 3 (wC N s0) 18 [(0, .ref (N.1 1))] [] := by
  unfold F_X6_weighLine_18 at h
  refine aw_aload_n C 0 dX6_weighLine_18 rfl ?_
  refine aw_iconst (v := 1) C dX6_weighLine_19 (by decide) ?_
  obtain ⟨⟨v1, s2⟩, cw3, h⟩ := oC_e h
  have h := oL_e (x := s2) rfl (oL_e (x := v1) rfl h)
  refine aw_callVi (n := 1) (As := [.int (1 : Int32)]) (rest := []) (q0 := 1) C (c_X6_refuse l D N s0 s2 (1 : Int32) v1 cw3) lw_15_2 lw_15_3 lw_15_4 lw_2_1 lw_15_5 rfl rfl (by decide +kernel) ⟨Nat.le_of_ble_eq_true rfl, Nat.le_of_ble_eq_true rfl⟩ rfl rfl rfl rfl rfl (Nat.le_of_ble_eq_true rfl) dX6_weighLine_20 ?_
  cases h
  exact aw_ret hE dX6_weighLine_23
def F_X6_weighLine_54 (s0 : St) (x1 : Int32) (t0 : Int32) : Option (Int32 × St) :=
  oT (s0.1 12) <|
  oA x1 3 <|
  oL (sA s0 4 (upd (s0.2.1 4) (Int32.toNatClampNeg x1) (s0.1 9))) fun s3 =>
  some (t0, s3)
set_option maxHeartbeats 4000000 in
set_option maxRecDepth 100000 in
theorem T_X6_weighLine_54 {r : Int32} {z1 : St} (C : Cx p rm_X6_weighLine s m args c D A cX6_weighLine 3 RX6 rm_X6_weighLine N) (hE : En p l e rm_X6_weighLine s m args below meth c Q D A cX6_weighLine .ireturn (wC N z1) [.int r])  (s0 : St) (x1 : Int32) (t0 : Int32) (h : F_X6_weighLine_54 s0 x1 t0 = some (r, z1)) : Aw p l e rm_X6_weighLine s m args below meth c Q D A 3 (wC N s0) 54 [(0, .ref (N.1 1)), (1, .int x1)] [.int t0] := by
  unfold F_X6_weighLine_54 at h
  refine aw_istore_n (lv' := [(0, .ref (N.1 1)), (1, .int x1), (2, .int t0)]) C [1, 2, 0] dX6_weighLine_54 rfl (by decide) rfl ?_
  refine aw_aload_n C 0 dX6_weighLine_55 rfl ?_
  obtain ⟨q1, h⟩ := oT_e h
  refine cg_rd_into C lw_10_21 dX6_weighLine_56 ?_
  refine aw_into q1 ?_
  refine cg_ts_weight C lw_17_12 dX6_weighLine_59 ?_
  refine aw_iload_n C 1 dX6_weighLine_62 rfl ?_
  refine aw_aload_n C 0 dX6_weighLine_63 rfl ?_
  refine cg_rd_amountRead C lw_16_21 dX6_weighLine_64 ?_
  obtain ⟨q2, h⟩ := oA_e h
  refine ca_iast (k := 4) C (by decide) rfl q2 dX6_weighLine_67 ?_
  refine ca_name (fun s3 es3 => ?_)
  have h := oL_e es3 h
  refine aw_iload_n C 2 dX6_weighLine_68 rfl ?_
  cases h
  exact aw_ret hE dX6_weighLine_69
def F_X6_weighLine_53 (s0 : St) (x1 : Int32) : Option (Int32 × St) :=
  F_X6_weighLine_54 s0 x1 (0 : Int32)
set_option maxHeartbeats 4000000 in
set_option maxRecDepth 100000 in
theorem T_X6_weighLine_53 {r : Int32} {z1 : St} (C : Cx p rm_X6_weighLine s m args c D A cX6_weighLine 3 RX6 rm_X6_weighLine N) (hE : En p l e rm_X6_weighLine s m args below meth c Q D A cX6_weighLine .ireturn (wC N z1) [.int r])  (s0 : St) (x1 : Int32) (h : F_X6_weighLine_53 s0 x1 = some (r, z1)) : Aw p l e rm_X6_weighLine s m args below meth c Q D A 3 (wC N s0) 53 [(0, .ref (N.1 1)), (1, .int x1)] [] := by
  unfold F_X6_weighLine_53 at h
  refine aw_iconst (v := 0) C dX6_weighLine_53 (by decide) ?_
  refine aw_sub (lv' := [(0, .ref (N.1 1)), (1, .int x1)]) [0, 1] rfl ?_
  exact T_X6_weighLine_54 C hE s0 x1 (0 : Int32) h
def F_X6_weighLine_0 (s0 : St) : Option (Int32 × St) :=
  if (s0.1 6) < (8 : Int32) then (
    F_X6_weighLine_18 s0)
  else (
    if (s0.1 6) ≤ (10 : Int32) then (
      oL ((s0.1 6) - (8 : Int32)) fun y1 =>
      oC (f_X6_once s0) fun w4 =>
      oL w4.1 fun v2 => oL w4.2 fun s3 =>
      if v2 = 0 then (
        F_X6_weighLine_53 s3 y1)
      else (
        oC (f_X6_amount s3 (999 : Int32)) fun w7 =>
        oL w7.1 fun v5 => oL w7.2 fun s6 =>
        if v5 = 0 then (
          F_X6_weighLine_53 s6 y1)
        else (
          F_X6_weighLine_54 s6 y1 (1 : Int32))))
    else (
      F_X6_weighLine_18 s0))
set_option maxHeartbeats 4000000 in
set_option maxRecDepth 100000 in
theorem T_X6_weighLine_0 {r : Int32} {z1 : St} (C : Cx p rm_X6_weighLine s m args c D A cX6_weighLine 3 RX6 rm_X6_weighLine N) (hE : En p l e rm_X6_weighLine s m args below meth c Q D A cX6_weighLine .ireturn (wC N z1) [.int r])  (s0 : St) (h : F_X6_weighLine_0 s0 = some (r, z1)) : Aw p l e rm_X6_weighLine s m args below meth c Q D A 3 (wC N s0) 0 [(0, .ref (N.1 1))] [] := by
  unfold F_X6_weighLine_0 at h
  refine aw_aload_n C 0 dX6_weighLine_0 rfl ?_
  refine cg_rd_token C lw_11_7 dX6_weighLine_1 ?_
  refine aw_bipush (v := 8) C dX6_weighLine_4 (by decide) ?_
  refine aw_icmp_lt (tgt := 18) C dX6_weighLine_6 (by decide) (fun q => ?_) (fun q => ?_)
  · have h := bq_t q h
    refine aw_sub (lv' := [(0, .ref (N.1 1))]) [0] rfl ?_
    exact T_X6_weighLine_18 C hE s0 h
  · have h := bq_f q h
    refine aw_aload_n C 0 dX6_weighLine_9 rfl ?_
    refine cg_rd_token C lw_11_7 dX6_weighLine_10 ?_
    refine aw_bipush (v := 10) C dX6_weighLine_13 (by decide) ?_
    refine aw_icmp_le (tgt := 24) C dX6_weighLine_15 (by decide) (fun q => ?_) (fun q => ?_)
    · have h := bq_t q h
      refine aw_aload_n C 0 dX6_weighLine_24 rfl ?_
      refine cg_rd_token C lw_11_7 dX6_weighLine_25 ?_
      refine aw_bipush (v := 8) C dX6_weighLine_28 (by decide) ?_
      refine aw_isub C dX6_weighLine_30 ?_
      refine aw_topi (fun y1 ey1 => ?_)
      have h := oL_e ey1 h
      refine aw_istore_n (lv' := [(0, .ref (N.1 1)), (1, .int y1)]) C [1, 0] dX6_weighLine_31 rfl (by decide) rfl ?_
      refine aw_aload_n C 0 dX6_weighLine_32 rfl ?_
      obtain ⟨⟨v2, s3⟩, cw4, h⟩ := oC_e h
      have h := oL_e (x := s3) rfl (oL_e (x := v2) rfl h)
      refine aw_callVi (n := 0) (As := []) (rest := []) (q0 := 1) C (c_X6_once l D N s0 s3 v2 cw4) lw_14_22 lw_14_23 lw_15_0 lw_2_1 lw_15_1 rfl rfl (by decide +kernel) ⟨Nat.le_of_ble_eq_true rfl, Nat.le_of_ble_eq_true rfl⟩ rfl rfl rfl rfl rfl (Nat.le_of_ble_eq_true rfl) dX6_weighLine_33 ?_
      refine aw_if_eq (tgt := 53) C dX6_weighLine_36 (by decide) (fun q => ?_) (fun q => ?_)
      · have h := bq_t q h
        refine aw_sub (lv' := [(0, .ref (N.1 1)), (1, .int y1)]) [0, 1] rfl ?_
        exact T_X6_weighLine_53 C hE s3 y1 h
      · have h := bq_f q h
        refine aw_aload_n C 0 dX6_weighLine_39 rfl ?_
        refine aw_sipush (v := 999) C dX6_weighLine_40 (by decide) ?_
        obtain ⟨⟨v5, s6⟩, cw7, h⟩ := oC_e h
        have h := oL_e (x := s6) rfl (oL_e (x := v5) rfl h)
        refine aw_callVi (n := 1) (As := [.int (999 : Int32)]) (rest := []) (q0 := 1) C (c_X6_amount l D N s3 s6 (999 : Int32) v5 cw7) lw_16_23 lw_17_0 lw_17_1 lw_2_1 lw_17_2 rfl rfl (by decide +kernel) ⟨Nat.le_of_ble_eq_true rfl, Nat.le_of_ble_eq_true rfl⟩ rfl rfl rfl rfl rfl (Nat.le_of_ble_eq_true rfl) dX6_weighLine_43 ?_
        refine aw_if_eq (tgt := 53) C dX6_weighLine_46 (by decide) (fun q => ?_) (fun q => ?_)
        · have h := bq_t q h
          refine aw_sub (lv' := [(0, .ref (N.1 1)), (1, .int y1)]) [0, 1] rfl ?_
          exact T_X6_weighLine_53 C hE s6 y1 h
        · have h := bq_f q h
          refine aw_iconst (v := 1) C dX6_weighLine_49 (by decide) ?_
          refine aw_goto (tgt := 54) C dX6_weighLine_50 (by decide) ?_
          refine aw_sub (lv' := [(0, .ref (N.1 1)), (1, .int y1)]) [0, 1] rfl ?_
          exact T_X6_weighLine_54 C hE s6 y1 (1 : Int32) h
    · have h := bq_f q h
      refine aw_sub (lv' := [(0, .ref (N.1 1))]) [0] rfl ?_
      exact T_X6_weighLine_18 C hE s0 h
def f_X6_weighLine (s0 : St) : Option (Int32 × St) := oC (F_X6_weighLine_0 s0) fun w => oZ w.1 (some w)
theorem c_X6_weighLine (l : Launch) (D : va_G) (N : Nm) (s0 z1 : St) (r : Int32) (h : f_X6_weighLine s0 = some (r, z1)) : Meti l yX6_weighLine (tsU yX6_weighLine cX6_weighLine 3 (some .boolean)) rm_X6_weighLine D N [.ref (N.1 1)] (wC N s0) r (wC N z1) := by
  obtain ⟨w, h1, h2⟩ := oC_e h
  obtain ⟨hz, h2⟩ := oZ_e h2
  cases h2
  exact met_z (cc := cX6_weighLine) (nL := 3) (own := RX6) (by decide) rfl (Nat.le_of_ble_eq_true rfl) (zN hz) (fun p e s m args below meth c Q A C hE => aw_sub [0] rfl (T_X6_weighLine_0 C hE s0 h1))
/-! AwardLine$Reader.claimKnot()Z -/
def rm_X6_claimKnot : Room := { frames := 7, cells := 0, slots := 0, locals := 152 }
def F_X6_claimKnot_0 (s0 : St) : Option (Int32 × St) :=
  if (s0.1 10) < (64 : Int32) then (
    oL (sI s0 10 ((s0.1 10) + (1 : Int32))) fun s1 =>
    oC (f_X6_advance s1) fun w4 =>
    oL w4 fun s3 =>
    some ((1 : Int32), s3))
  else (
    oC (f_X6_refuse s0 (2 : Int32)) fun w7 =>
    oL w7.1 fun v5 => oL w7.2 fun s6 =>
    some (v5, s6))
set_option maxHeartbeats 4000000 in
set_option maxRecDepth 100000 in
theorem T_X6_claimKnot_0 {r : Int32} {z1 : St} (C : Cx p rm_X6_claimKnot s m args c D A cX6_claimKnot 1 RX6 rm_X6_claimKnot N) (hE : En p l e rm_X6_claimKnot s m args below meth c Q D A cX6_claimKnot .ireturn (wC N z1) [.int r])  (s0 : St) (h : F_X6_claimKnot_0 s0 = some (r, z1)) : Aw p l e rm_X6_claimKnot s m args below meth c Q D A 1 (wC N s0) 0 [(0, .ref (N.1 1))] [] := by
  unfold F_X6_claimKnot_0 at h
  refine aw_aload_n C 0 dX6_claimKnot_0 rfl ?_
  refine cg_rd_knotsRead C lw_11_5 dX6_claimKnot_1 ?_
  refine aw_bipush (v := 64) C dX6_claimKnot_4 (by decide) ?_
  refine aw_icmp_lt (tgt := 15) C dX6_claimKnot_6 (by decide) (fun q => ?_) (fun q => ?_)
  · have h := bq_t q h
    refine aw_aload_n C 0 dX6_claimKnot_15 rfl ?_
    refine aw_dup C dX6_claimKnot_16 rfl ?_
    refine cg_rd_knotsRead C lw_11_5 dX6_claimKnot_17 ?_
    refine aw_iconst (v := 1) C dX6_claimKnot_20 (by decide) ?_
    refine aw_iadd C dX6_claimKnot_21 ?_
    refine cp_rd_knotsRead C lw_11_5 dX6_claimKnot_22 ?_
    refine ca_name (fun s1 es1 => ?_)
    have h := oL_e es1 h
    refine aw_aload_n C 0 dX6_claimKnot_25 rfl ?_
    obtain ⟨s3, cw4, h⟩ := oC_e h
    have h := oL_e (x := s3) rfl h
    refine aw_callVv (n := 0) (As := []) (rest := []) (q0 := 1) C (c_X6_advance l D N s1 s3 cw4) lw_11_9 lw_11_10 lw_11_11 lw_2_1 lw_11_12 rfl rfl (by decide +kernel) ⟨Nat.le_of_ble_eq_true rfl, Nat.le_of_ble_eq_true rfl⟩ rfl rfl rfl rfl rfl (Nat.le_of_ble_eq_true rfl) dX6_claimKnot_26 ?_
    refine aw_iconst (v := 1) C dX6_claimKnot_29 (by decide) ?_
    cases h
    exact aw_ret hE dX6_claimKnot_30
  · have h := bq_f q h
    refine aw_aload_n C 0 dX6_claimKnot_9 rfl ?_
    refine aw_iconst (v := 2) C dX6_claimKnot_10 (by decide) ?_
    obtain ⟨⟨v5, s6⟩, cw7, h⟩ := oC_e h
    have h := oL_e (x := s6) rfl (oL_e (x := v5) rfl h)
    refine aw_callVi (n := 1) (As := [.int (2 : Int32)]) (rest := []) (q0 := 1) C (c_X6_refuse l D N s0 s6 (2 : Int32) v5 cw7) lw_15_2 lw_15_3 lw_15_4 lw_2_1 lw_15_5 rfl rfl (by decide +kernel) ⟨Nat.le_of_ble_eq_true rfl, Nat.le_of_ble_eq_true rfl⟩ rfl rfl rfl rfl rfl (Nat.le_of_ble_eq_true rfl) dX6_claimKnot_11 ?_
    cases h
    exact aw_ret hE dX6_claimKnot_14
def f_X6_claimKnot (s0 : St) : Option (Int32 × St) := oC (F_X6_claimKnot_0 s0) fun w => oZ w.1 (some w)
theorem c_X6_claimKnot (l : Launch) (D : va_G) (N : Nm) (s0 z1 : St) (r : Int32) (h : f_X6_claimKnot s0 = some (r, z1)) : Meti l yX6_claimKnot (tsU yX6_claimKnot cX6_claimKnot 1 (some .boolean)) rm_X6_claimKnot D N [.ref (N.1 1)] (wC N s0) r (wC N z1) := by
  obtain ⟨w, h1, h2⟩ := oC_e h
  obtain ⟨hz, h2⟩ := oZ_e h2
  cases h2
  exact met_z (cc := cX6_claimKnot) (nL := 1) (own := RX6) (by decide) rfl (Nat.le_of_ble_eq_true rfl) (zN hz) (fun p e s m args below meth c Q A C hE => aw_sub [0] rfl (T_X6_claimKnot_0 C hE s0 h1))
end WK
