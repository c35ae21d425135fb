section WK
variable {p : Program} {l : Launch} {e : Env} {s : State} {m : MethodId} {args : Array Value} {below : List Frame} {meth : Method} {c : Code} {Q : State → Prop} {D : va_G} {A : Nat → Prop} {N : Nm}
/-! AwardLineModel.thrown()I -/
def rm_X12_thrown : Room := { frames := 0, cells := 0, slots := 0, locals := 0 }
def F_X12_thrown_0 (s0 : St) : Option (Int32 × St) :=
  some ((s0.1 0), s0)
set_option maxHeartbeats 4000000 in
set_option maxRecDepth 100000 in
theorem T_X12_thrown_0 {r : Int32} {z1 : St} (C : Cx p rm_X12_thrown s m args c D A cX12_thrown 1 RX12 rm_X12_thrown N) (hE : En p l e rm_X12_thrown s m args below meth c Q D A cX12_thrown .ireturn (wR N z1) [.int r])  (s0 : St) (h : F_X12_thrown_0 s0 = some (r, z1)) : Aw p l e rm_X12_thrown s m args below meth c Q D A 1 (wR N s0) 0 [(0, .ref (N.1 0))] [] := by
  unfold F_X12_thrown_0 at h
  refine aw_aload_n C 0 dX12_thrown_0 rfl ?_
  refine rg_md_thrown C lw_10_11 dX12_thrown_1 ?_
  cases h
  exact aw_ret hE dX12_thrown_4
def f_X12_thrown (s0 : St) : Option (Int32 × St) := F_X12_thrown_0 s0
theorem c_X12_thrown (l : Launch) (D : va_G) (N : Nm) (s0 z1 : St) (r : Int32) (h : f_X12_thrown s0 = some (r, z1)) : Meti l yX12_thrown (tsU yX12_thrown cX12_thrown 1 (some .int)) rm_X12_thrown D N [.ref (N.1 0)] (wR N s0) r (wR N z1) :=
  met_i (cc := cX12_thrown) (nL := 1) (own := RX12) (by decide) rfl (Nat.le_of_ble_eq_true rfl) (fun p e s m args below meth c Q A C hE => aw_sub [0] rfl (T_X12_thrown_0 C hE s0 h))
/-! AwardLineModel.feed(IIIII)I -/
def rm_X12_feed : Room := { frames := 0, cells := 0, slots := 0, locals := 0 }
def F_X12_feed_73 (k20 : St → Int32 → Int32 → Int32 → Int32 → Int32 → Int32 → Option (Int32 × St)) (s0 : St) (x1 : Int32) (x2 : Int32) (x3 : Int32) (x4 : Int32) (x5 : Int32) (x6 : Int32) (t0 : Int32) : Option (Int32 × St) :=
  oD (4 : Int32) <|
  oA ((s0.1 1) + x6) 400 <|
  oL (sA s0 0 (upd (s0.2.1 0) (Int32.toNatClampNeg ((s0.1 1) + x6)) ((t0 >>> (((24 : Int32) - ((8 : Int32) * (x6 - x6 / (4 : Int32) * (4 : Int32)))) &&& 31)) &&& (255 : Int32)))) fun s3 =>
  oL (x6 + (1 : Int32)) fun y4 =>
  k20 s3 x1 x2 x3 x4 x5 y4
set_option maxHeartbeats 4000000 in
set_option maxRecDepth 100000 in
theorem T_X12_feed_73 {r : Int32} {z1 : St} {k20 : St → Int32 → Int32 → Int32 → Int32 → Int32 → Int32 → Option (Int32 × St)} (C : Cx p rm_X12_feed s m args c D A cX12_feed 8 RX12 rm_X12_feed N) (hE : En p l e rm_X12_feed s m args below meth c Q D A cX12_feed .ireturn (wR N z1) [.int r]) (hk20 : ∀ (s0 : St) (x1 : Int32) (x2 : Int32) (x3 : Int32) (x4 : Int32) (x5 : Int32) (x6 : Int32), k20 s0 x1 x2 x3 x4 x5 x6 = some (r, z1) → Aw p l e rm_X12_feed s m args below meth c Q D A 8 (wR N s0) 20 [(0, .ref (N.1 0)), (1, .int x1), (2, .int x2), (3, .int x3), (4, .int x4), (5, .int x5), (6, .int x6)] []) (s0 : St) (x1 : Int32) (x2 : Int32) (x3 : Int32) (x4 : Int32) (x5 : Int32) (x6 : Int32) (t0 : Int32) (h : F_X12_feed_73 k20 s0 x1 x2 x3 x4 x5 x6 t0 = some (r, z1)) : Aw p l e rm_X12_feed s m args below meth c Q D A 8 (wR N s0) 73 [(0, .ref (N.1 0)), (1, .int x1), (2, .int x2), (3, .int x3), (4, .int x4), (5, .int x5), (6, .int x6)] [.int t0] := by
  unfold F_X12_feed_73 at h
  refine aw_istore (lv' := [(0, .ref (N.1 0)), (1, .int x1), (2, .int x2), (3, .int x3), (4, .int x4), (5, .int x5), (6, .int x6), (7, .int t0)]) C [1, 2, 3, 4, 5, 6, 7, 0] dX12_feed_73 (by decide) rfl ?_
  refine aw_aload_n C 0 dX12_feed_75 rfl ?_
  refine rg_md_tape C lw_8_0 dX12_feed_76 ?_
  refine aw_aload_n C 0 dX12_feed_79 rfl ?_
  refine rg_md_taped C lw_10_12 dX12_feed_80 ?_
  refine aw_iload C 6 dX12_feed_83 rfl ?_
  refine aw_iadd C dX12_feed_85 ?_
  refine aw_iload C 7 dX12_feed_86 rfl ?_
  refine aw_bipush (v := 24) C dX12_feed_88 (by decide) ?_
  refine aw_bipush (v := 8) C dX12_feed_90 (by decide) ?_
  refine aw_iload C 6 dX12_feed_92 rfl ?_
  refine aw_iconst (v := 4) C dX12_feed_94 (by decide) ?_
  obtain ⟨q1, h⟩ := oD_e h
  refine aw_irem C dX12_feed_95 q1 ?_
  refine aw_imul C dX12_feed_96 ?_
  refine aw_isub C dX12_feed_97 ?_
  refine aw_ishr C dX12_feed_98 ?_
  refine aw_sipush (v := 255) C dX12_feed_99 (by decide) ?_
  refine aw_iand C dX12_feed_102 ?_
  obtain ⟨q2, h⟩ := oA_e h
  refine ra_iast (k := 0) C (by decide) rfl q2 dX12_feed_103 ?_
  refine ra_name (fun s3 es3 => ?_)
  have h := oL_e es3 h
  obtain ⟨y4, ey4⟩ : ∃ q : Int32, q = x6 + (1 : Int32) := ⟨_, rfl⟩
  have h := oL_e ey4 h
  refine aw_iinc (v := y4) (k := 6) (lv' := [(0, .ref (N.1 0)), (1, .int x1), (2, .int x2), (3, .int x3), (4, .int x4), (5, .int x5), (6, .int y4), (7, .int t0)]) C [1, 2, 3, 4, 5, 6, 0, 7] dX12_feed_104 rfl (by rw [ey4]; rfl) (by decide) rfl ?_
  refine aw_goto (tgt := 20) C dX12_feed_107 (by decide) ?_
  refine aw_sub (lv' := [(0, .ref (N.1 0)), (1, .int x1), (2, .int x2), (3, .int x3), (4, .int x4), (5, .int x5), (6, .int y4)]) [0, 1, 2, 3, 4, 5, 6] rfl ?_
  exact hk20 s3 x1 x2 x3 x4 x5 y4 h
def F_X12_feed_20_b (k20 : St → Int32 → Int32 → Int32 → Int32 → Int32 → Int32 → Option (Int32 × St)) (s0 : St) (x1 : Int32) (x2 : Int32) (x3 : Int32) (x4 : Int32) (x5 : Int32) (x6 : Int32) : Option (Int32 × St) :=
  if (20 : Int32) ≤ x6 then (
    oL (sI s0 1 ((s0.1 1) + (20 : Int32))) fun s1 =>
    some ((s1.1 1), s1))
  else (
    if (4 : Int32) ≤ x6 then (
      if (8 : Int32) ≤ x6 then (
        if (12 : Int32) ≤ x6 then (
          if (16 : Int32) ≤ x6 then (
            F_X12_feed_73 k20 s0 x1 x2 x3 x4 x5 x6 x5)
          else (
            F_X12_feed_73 k20 s0 x1 x2 x3 x4 x5 x6 x4))
        else (
          F_X12_feed_73 k20 s0 x1 x2 x3 x4 x5 x6 x3))
      else (
        F_X12_feed_73 k20 s0 x1 x2 x3 x4 x5 x6 x2))
    else (
      F_X12_feed_73 k20 s0 x1 x2 x3 x4 x5 x6 x1))
set_option maxHeartbeats 4000000 in
set_option maxRecDepth 100000 in
theorem T_X12_feed_20_b {r : Int32} {z1 : St} {k20 : St → Int32 → Int32 → Int32 → Int32 → Int32 → Int32 → Option (Int32 × St)} (C : Cx p rm_X12_feed s m args c D A cX12_feed 8 RX12 rm_X12_feed N) (hE : En p l e rm_X12_feed s m args below meth c Q D A cX12_feed .ireturn (wR N z1) [.int r]) (hk20 : ∀ (s0 : St) (x1 : Int32) (x2 : Int32) (x3 : Int32) (x4 : Int32) (x5 : Int32) (x6 : Int32), k20 s0 x1 x2 x3 x4 x5 x6 = some (r, z1) → Aw p l e rm_X12_feed s m args below meth c Q D A 8 (wR N s0) 20 [(0, .ref (N.1 0)), (1, .int x1), (2, .int x2), (3, .int x3), (4, .int x4), (5, .int x5), (6, .int x6)] []) (s0 : St) (x1 : Int32) (x2 : Int32) (x3 : Int32) (x4 : Int32) (x5 : Int32) (x6 : Int32) (h : F_X12_feed_20_b k20 s0 x1 x2 x3 x4 x5 x6 = some (r, z1)) : Aw p l e rm_X12_feed s m args below meth c Q D A 8 (wR N s0) 20 [(0, .ref (N.1 0)), (1, .int x1), (2, .int x2), (3, .int x3), (4, .int x4), (5, .int x5), (6, .int x6)] [] := by
  unfold F_X12_feed_20_b at h
  refine aw_iload C 6 dX12_feed_20 rfl ?_
  refine aw_bipush (v := 20) C dX12_feed_22 (by decide) ?_
  refine aw_icmp_ge (tgt := 110) C dX12_feed_24 (by decide) (fun q => ?_) (fun q => ?_)
  · have h := bq_t q h
    refine aw_aload_n C 0 dX12_feed_110 rfl ?_
    refine aw_dup C dX12_feed_111 rfl ?_
    refine rg_md_taped C lw_10_12 dX12_feed_112 ?_
    refine aw_bipush (v := 20) C dX12_feed_115 (by decide) ?_
    refine aw_iadd C dX12_feed_117 ?_
    refine rp_md_taped C lw_10_12 dX12_feed_118 ?_
    refine ra_name (fun s1 es1 => ?_)
    have h := oL_e es1 h
    refine aw_aload_n C 0 dX12_feed_121 rfl ?_
    refine rg_md_taped C lw_10_12 dX12_feed_122 ?_
    cases h
    exact aw_ret hE dX12_feed_125
  · have h := bq_f q h
    refine aw_iload C 6 dX12_feed_27 rfl ?_
    refine aw_iconst (v := 4) C dX12_feed_29 (by decide) ?_
    refine aw_icmp_ge (tgt := 37) C dX12_feed_30 (by decide) (fun q => ?_) (fun q => ?_)
    · have h := bq_t q h
      refine aw_iload C 6 dX12_feed_37 rfl ?_
      refine aw_bipush (v := 8) C dX12_feed_39 (by decide) ?_
      refine aw_icmp_ge (tgt := 48) C dX12_feed_41 (by decide) (fun q => ?_) (fun q => ?_)
      · have h := bq_t q h
        refine aw_iload C 6 dX12_feed_48 rfl ?_
        refine aw_bipush (v := 12) C dX12_feed_50 (by decide) ?_
        refine aw_icmp_ge (tgt := 59) C dX12_feed_52 (by decide) (fun q => ?_) (fun q => ?_)
        · have h := bq_t q h
          refine aw_iload C 6 dX12_feed_59 rfl ?_
          refine aw_bipush (v := 16) C dX12_feed_61 (by decide) ?_
          refine aw_icmp_ge (tgt := 71) C dX12_feed_63 (by decide) (fun q => ?_) (fun q => ?_)
          · have h := bq_t q h
            refine aw_iload C 5 dX12_feed_71 rfl ?_
            refine aw_sub (lv' := [(0, .ref (N.1 0)), (1, .int x1), (2, .int x2), (3, .int x3), (4, .int x4), (5, .int x5), (6, .int x6)]) [0, 1, 2, 3, 4, 5, 6] rfl ?_
            exact T_X12_feed_73 C hE hk20 s0 x1 x2 x3 x4 x5 x6 x5 h
          · have h := bq_f q h
            refine aw_iload C 4 dX12_feed_66 rfl ?_
            refine aw_goto (tgt := 73) C dX12_feed_68 (by decide) ?_
            refine aw_sub (lv' := [(0, .ref (N.1 0)), (1, .int x1), (2, .int x2), (3, .int x3), (4, .int x4), (5, .int x5), (6, .int x6)]) [0, 1, 2, 3, 4, 5, 6] rfl ?_
            exact T_X12_feed_73 C hE hk20 s0 x1 x2 x3 x4 x5 x6 x4 h
        · have h := bq_f q h
          refine aw_iload_n C 3 dX12_feed_55 rfl ?_
          refine aw_goto (tgt := 73) C dX12_feed_56 (by decide) ?_
          refine aw_sub (lv' := [(0, .ref (N.1 0)), (1, .int x1), (2, .int x2), (3, .int x3), (4, .int x4), (5, .int x5), (6, .int x6)]) [0, 1, 2, 3, 4, 5, 6] rfl ?_
          exact T_X12_feed_73 C hE hk20 s0 x1 x2 x3 x4 x5 x6 x3 h
      · have h := bq_f q h
        refine aw_iload_n C 2 dX12_feed_44 rfl ?_
        refine aw_goto (tgt := 73) C dX12_feed_45 (by decide) ?_
        refine aw_sub (lv' := [(0, .ref (N.1 0)), (1, .int x1), (2, .int x2), (3, .int x3), (4, .int x4), (5, .int x5), (6, .int x6)]) [0, 1, 2, 3, 4, 5, 6] rfl ?_
        exact T_X12_feed_73 C hE hk20 s0 x1 x2 x3 x4 x5 x6 x2 h
    · have h := bq_f q h
      refine aw_iload_n C 1 dX12_feed_33 rfl ?_
      refine aw_goto (tgt := 73) C dX12_feed_34 (by decide) ?_
      refine aw_sub (lv' := [(0, .ref (N.1 0)), (1, .int x1), (2, .int x2), (3, .int x3), (4, .int x4), (5, .int x5), (6, .int x6)]) [0, 1, 2, 3, 4, 5, 6] rfl ?_
      exact T_X12_feed_73 C hE hk20 s0 x1 x2 x3 x4 x5 x6 x1 h
def F_X12_feed_20 : Nat → St → Int32 → Int32 → Int32 → Int32 → Int32 → Int32 → Option (Int32 × St)
  | 0 => fun _ _ _ _ _ _ _ => none
  | n + 1 => F_X12_feed_20_b (F_X12_feed_20 n)
theorem T_X12_feed_20 {r : Int32} {z1 : St} (C : Cx p rm_X12_feed s m args c D A cX12_feed 8 RX12 rm_X12_feed N) (hE : En p l e rm_X12_feed s m args below meth c Q D A cX12_feed .ireturn (wR N z1) [.int r])  : ∀ (n : Nat) (s0 : St) (x1 : Int32) (x2 : Int32) (x3 : Int32) (x4 : Int32) (x5 : Int32) (x6 : Int32), F_X12_feed_20 n s0 x1 x2 x3 x4 x5 x6 = some (r, z1) → Aw p l e rm_X12_feed s m args below meth c Q D A 8 (wR N s0) 20 [(0, .ref (N.1 0)), (1, .int x1), (2, .int x2), (3, .int x3), (4, .int x4), (5, .int x5), (6, .int x6)] [] := by
  intro n
  induction n with
  | zero => intro s0 x1 x2 x3 x4 x5 x6 h; cases h
  | succ n ih => intro s0 x1 x2 x3 x4 x5 x6 h; exact T_X12_feed_20_b C hE ih s0 x1 x2 x3 x4 x5 x6 h
def F_X12_feed_0 (s0 : St) (x1 : Int32) (x2 : Int32) (x3 : Int32) (x4 : Int32) (x5 : Int32) : Option (Int32 × St) :=
  oL (sI s0 0 (0 : Int32)) fun s1 =>
  if (s1.1 1) ≤ (380 : Int32) then (
    oL (0 : Int32) fun y2 =>
    F_X12_feed_20 100000 s1 x1 x2 x3 x4 x5 y2)
  else (
    some ((-1 : Int32), s1))
set_option maxHeartbeats 4000000 in
set_option maxRecDepth 100000 in
theorem T_X12_feed_0 {r : Int32} {z1 : St} (C : Cx p rm_X12_feed s m args c D A cX12_feed 8 RX12 rm_X12_feed N) (hE : En p l e rm_X12_feed s m args below meth c Q D A cX12_feed .ireturn (wR N z1) [.int r])  (s0 : St) (x1 : Int32) (x2 : Int32) (x3 : Int32) (x4 : Int32) (x5 : Int32) (h : F_X12_feed_0 s0 x1 x2 x3 x4 x5 = some (r, z1)) : Aw p l e rm_X12_feed s m args below meth c Q D A 8 (wR N s0) 0 [(0, .ref (N.1 0)), (1, .int x1), (2, .int x2), (3, .int x3), (4, .int x4), (5, .int x5)] [] := by
  unfold F_X12_feed_0 at h
  refine aw_aload_n C 0 dX12_feed_0 rfl ?_
  refine aw_iconst (v := 0) C dX12_feed_1 (by decide) ?_
  refine rp_md_thrown C lw_10_11 dX12_feed_2 ?_
  refine ra_name (fun s1 es1 => ?_)
  have h := oL_e es1 h
  refine aw_aload_n C 0 dX12_feed_5 rfl ?_
  refine rg_md_taped C lw_10_12 dX12_feed_6 ?_
  refine aw_sipush (v := 380) C dX12_feed_9 (by decide) ?_
  refine aw_icmp_le (tgt := 17) C dX12_feed_12 (by decide) (fun q => ?_) (fun q => ?_)
  · have h := bq_t q h
    refine aw_iconst (v := 0) C dX12_feed_17 (by decide) ?_
    refine aw_topi (fun y2 ey2 => ?_)
    have h := oL_e ey2 h
    refine aw_istore (lv' := [(0, .ref (N.1 0)), (1, .int x1), (2, .int x2), (3, .int x3), (4, .int x4), (5, .int x5), (6, .int y2)]) C [1, 2, 3, 4, 5, 6, 0] dX12_feed_18 (by decide) rfl ?_
    refine aw_sub (lv' := [(0, .ref (N.1 0)), (1, .int x1), (2, .int x2), (3, .int x3), (4, .int x4), (5, .int x5), (6, .int y2)]) [0, 1, 2, 3, 4, 5, 6] rfl ?_
    exact T_X12_feed_20 C hE 100000 s1 x1 x2 x3 x4 x5 y2 h
  · have h := bq_f q h
    refine aw_iconst (v := -1) C dX12_feed_15 (by decide) ?_
    cases h
    exact aw_ret hE dX12_feed_16
def f_X12_feed (s0 : St) (x1 : Int32) (x2 : Int32) (x3 : Int32) (x4 : Int32) (x5 : Int32) : Option (Int32 × St) := F_X12_feed_0 s0 x1 x2 x3 x4 x5
theorem c_X12_feed (l : Launch) (D : va_G) (N : Nm) (s0 z1 : St) (x1 : Int32) (x2 : Int32) (x3 : Int32) (x4 : Int32) (x5 : Int32) (r : Int32) (h : f_X12_feed s0 x1 x2 x3 x4 x5 = some (r, z1)) : Meti l yX12_feed (tsU yX12_feed cX12_feed 8 (some .int)) rm_X12_feed D N [.ref (N.1 0), .int x1, .int x2, .int x3, .int x4, .int x5] (wR N s0) r (wR N z1) :=
  met_i (cc := cX12_feed) (nL := 8) (own := RX12) (by decide) rfl (Nat.le_of_ble_eq_true rfl) (fun p e s m args below meth c Q A C hE => aw_sub [0, 1, 2, 3, 4, 5] rfl (T_X12_feed_0 C hE s0 x1 x2 x3 x4 x5 h))
/-! AwardLineModel.here()I -/
def rm_X12_here : Room := { frames := 0, cells := 0, slots := 0, locals := 0 }
def F_X12_here_24 (s0 : St) (t0 : Int32) : Option (Int32 × St) :=
  some (t0, s0)
set_option maxHeartbeats 4000000 in
set_option maxRecDepth 100000 in
theorem T_X12_here_24 {r : Int32} {z1 : St} (C : Cx p rm_X12_here s m args c D A cX12_here 1 RX12 rm_X12_here N) (hE : En p l e rm_X12_here s m args below meth c Q D A cX12_here .ireturn (wR N z1) [.int r])  (s0 : St) (t0 : Int32) (h : F_X12_here_24 s0 t0 = some (r, z1)) : Aw p l e rm_X12_here s m args below meth c Q D A 1 (wR N s0) 24 [] [.int t0] := by
  unfold F_X12_here_24 at h
  cases h
  exact aw_ret hE dX12_here_24
def F_X12_here_0 (s0 : St) : Option (Int32 × St) :=
  if (s0.1 8) ≤ (s0.1 9) then (
    F_X12_here_24 s0 (-1 : Int32))
  else (
    oA (s0.1 9) 400 <|
    F_X12_here_24 s0 (s0.2.1 0 (Int32.toNatClampNeg (s0.1 9))))
set_option maxHeartbeats 4000000 in
set_option maxRecDepth 100000 in
theorem T_X12_here_0 {r : Int32} {z1 : St} (C : Cx p rm_X12_here s m args c D A cX12_here 1 RX12 rm_X12_here N) (hE : En p l e rm_X12_here s m args below meth c Q D A cX12_here .ireturn (wR N z1) [.int r])  (s0 : St) (h : F_X12_here_0 s0 = some (r, z1)) : Aw p l e rm_X12_here s m args below meth c Q D A 1 (wR N s0) 0 [(0, .ref (N.1 0))] [] := by
  unfold F_X12_here_0 at h
  refine aw_aload_n C 0 dX12_here_0 rfl ?_
  refine rg_md_at C lw_17_18 dX12_here_1 ?_
  refine aw_aload_n C 0 dX12_here_4 rfl ?_
  refine rg_md_size C lw_17_17 dX12_here_5 ?_
  refine aw_icmp_ge (tgt := 23) C dX12_here_8 (by decide) (fun q => ?_) (fun q => ?_)
  · have h := bq_t q h
    refine aw_iconst (v := -1) C dX12_here_23 (by decide) ?_
    refine aw_sub (lv' := []) [] rfl ?_
    exact T_X12_here_24 C hE s0 (-1 : Int32) h
  · have h := bq_f q h
    refine aw_aload_n C 0 dX12_here_11 rfl ?_
    refine rg_md_tape C lw_8_0 dX12_here_12 ?_
    refine aw_aload_n C 0 dX12_here_15 rfl ?_
    refine rg_md_at C lw_17_18 dX12_here_16 ?_
    obtain ⟨q1, h⟩ := oA_e h
    refine ra_iald (k := 0) C (by decide) rfl q1 dX12_here_19 ?_
    refine aw_goto (tgt := 24) C dX12_here_20 (by decide) ?_
    refine aw_sub (lv' := []) [] rfl ?_
    exact T_X12_here_24 C hE s0 (s0.2.1 0 (Int32.toNatClampNeg (s0.1 9))) h
def f_X12_here (s0 : St) : Option (Int32 × St) := F_X12_here_0 s0
theorem c_X12_here (l : Launch) (D : va_G) (N : Nm) (s0 z1 : St) (r : Int32) (h : f_X12_here s0 = some (r, z1)) : Meti l yX12_here (tsU yX12_here cX12_here 1 (some .int)) rm_X12_here D N [.ref (N.1 0)] (wR N s0) r (wR N z1) :=
  met_i (cc := cX12_here) (nL := 1) (own := RX12) (by decide) rfl (Nat.le_of_ble_eq_true rfl) (fun p e s m args below meth c Q A C hE => aw_sub [0] rfl (T_X12_here_0 C hE s0 h))
/-! AwardLineModel.isSmall(I)Z -/
def rm_X12_isSmall : Room := { frames := 0, cells := 0, slots := 0, locals := 0 }
def F_X12_isSmall_17 (s0 : St) (t0 : Int32) : Option (Int32 × St) :=
  some (t0, s0)
set_option maxHeartbeats 4000000 in
set_option maxRecDepth 100000 in
theorem T_X12_isSmall_17 {r : Int32} {z1 : St} (C : Cx p rm_X12_isSmall s m args c D A cX12_isSmall 1 RX12 rm_X12_isSmall N) (hE : En p l e rm_X12_isSmall s m args below meth c Q D A cX12_isSmall .ireturn (wR N z1) [.int r])  (s0 : St) (t0 : Int32) (h : F_X12_isSmall_17 s0 t0 = some (r, z1)) : Aw p l e rm_X12_isSmall s m args below meth c Q D A 1 (wR N s0) 17 [] [.int t0] := by
  unfold F_X12_isSmall_17 at h
  cases h
  exact aw_ret hE dX12_isSmall_17
def F_X12_isSmall_16 (s0 : St) : Option (Int32 × St) :=
  F_X12_isSmall_17 s0 (0 : Int32)
set_option maxHeartbeats 4000000 in
set_option maxRecDepth 100000 in
theorem T_X12_isSmall_16 {r : Int32} {z1 : St} (C : Cx p rm_X12_isSmall s m args c D A cX12_isSmall 1 RX12 rm_X12_isSmall N) (hE : En p l e rm_X12_isSmall s m args below meth c Q D A cX12_isSmall .ireturn (wR N z1) [.int r])  (s0 : St) (h : F_X12_isSmall_16 s0 = some (r, z1)) : Aw p l e rm_X12_isSmall s m args below meth c Q D A 1 (wR N s0) 16 [] [] := by
  unfold F_X12_isSmall_16 at h
  refine aw_iconst (v := 0) C dX12_isSmall_16 (by decide) ?_
  refine aw_sub (lv' := []) [] rfl ?_
  exact T_X12_isSmall_17 C hE s0 (0 : Int32) h
def F_X12_isSmall_0 (s0 : St) (x0 : Int32) : Option (Int32 × St) :=
  if x0 < (97 : Int32) then (
    F_X12_isSmall_16 s0)
  else (
    if (122 : Int32) < x0 then (
      F_X12_isSmall_16 s0)
    else (
      F_X12_isSmall_17 s0 (1 : Int32)))
set_option maxHeartbeats 4000000 in
set_option maxRecDepth 100000 in
theorem T_X12_isSmall_0 {r : Int32} {z1 : St} (C : Cx p rm_X12_isSmall s m args c D A cX12_isSmall 1 RX12 rm_X12_isSmall N) (hE : En p l e rm_X12_isSmall s m args below meth c Q D A cX12_isSmall .ireturn (wR N z1) [.int r])  (s0 : St) (x0 : Int32) (h : F_X12_isSmall_0 s0 x0 = some (r, z1)) : Aw p l e rm_X12_isSmall s m args below meth c Q D A 1 (wR N s0) 0 [(0, .int x0)] [] := by
  unfold F_X12_isSmall_0 at h
  refine aw_iload_n C 0 dX12_isSmall_0 rfl ?_
  refine aw_bipush (v := 97) C dX12_isSmall_1 (by decide) ?_
  refine aw_icmp_lt (tgt := 16) C dX12_isSmall_3 (by decide) (fun q => ?_) (fun q => ?_)
  · have h := bq_t q h
    refine aw_sub (lv' := []) [] rfl ?_
    exact T_X12_isSmall_16 C hE s0 h
  · have h := bq_f q h
    refine aw_iload_n C 0 dX12_isSmall_6 rfl ?_
    refine aw_bipush (v := 122) C dX12_isSmall_7 (by decide) ?_
    refine aw_icmp_gt (tgt := 16) C dX12_isSmall_9 (by decide) (fun q => ?_) (fun q => ?_)
    · have h := bq_t q h
      refine aw_sub (lv' := []) [] rfl ?_
      exact T_X12_isSmall_16 C hE s0 h
    · have h := bq_f q h
      refine aw_iconst (v := 1) C dX12_isSmall_12 (by decide) ?_
      refine aw_goto (tgt := 17) C dX12_isSmall_13 (by decide) ?_
      refine aw_sub (lv' := []) [] rfl ?_
      exact T_X12_isSmall_17 C hE s0 (1 : Int32) h
def f_X12_isSmall (s0 : St) (x0 : Int32) : Option (Int32 × St) := oC (F_X12_isSmall_0 s0 x0) fun w => oZ w.1 (some w)
theorem c_X12_isSmall (l : Launch) (D : va_G) (N : Nm) (s0 z1 : St) (x0 : Int32) (r : Int32) (h : f_X12_isSmall s0 x0 = some (r, z1)) : Meti l yX12_isSmall (tsU yX12_isSmall cX12_isSmall 1 (some .boolean)) rm_X12_isSmall D N [.int x0] (wR N s0) r (wR N z1) := by
  obtain ⟨w, h1, h2⟩ := oC_e h
  obtain ⟨hz, h2⟩ := oZ_e h2
  cases h2
  exact met_z (cc := cX12_isSmall) (nL := 1) (own := RX12) (by decide) rfl (Nat.le_of_ble_eq_true rfl) (zN hz) (fun p e s m args below meth c Q A C hE => aw_sub [0] rfl (T_X12_isSmall_0 C hE s0 x0 h1))
/-! AwardLineModel.isDigit(I)Z -/
def rm_X12_isDigit : Room := { frames := 0, cells := 0, slots := 0, locals := 0 }
def F_X12_isDigit_17 (s0 : St) (t0 : Int32) : Option (Int32 × St) :=
  some (t0, s0)
set_option maxHeartbeats 4000000 in
set_option maxRecDepth 100000 in
theorem T_X12_isDigit_17 {r : Int32} {z1 : St} (C : Cx p rm_X12_isDigit s m args c D A cX12_isDigit 1 RX12 rm_X12_isDigit N) (hE : En p l e rm_X12_isDigit s m args below meth c Q D A cX12_isDigit .ireturn (wR N z1) [.int r])  (s0 : St) (t0 : Int32) (h : F_X12_isDigit_17 s0 t0 = some (r, z1)) : Aw p l e rm_X12_isDigit s m args below meth c Q D A 1 (wR N s0) 17 [] [.int t0] := by
  unfold F_X12_isDigit_17 at h
  cases h
  exact aw_ret hE dX12_isDigit_17
def F_X12_isDigit_16 (s0 : St) : Option (Int32 × St) :=
  F_X12_isDigit_17 s0 (0 : Int32)
set_option maxHeartbeats 4000000 in
set_option maxRecDepth 100000 in
theorem T_X12_isDigit_16 {r : Int32} {z1 : St} (C : Cx p rm_X12_isDigit s m args c D A cX12_isDigit 1 RX12 rm_X12_isDigit N) (hE : En p l e rm_X12_isDigit s m args below meth c Q D A cX12_isDigit .ireturn (wR N z1) [.int r])  (s0 : St) (h : F_X12_isDigit_16 s0 = some (r, z1)) : Aw p l e rm_X12_isDigit s m args below meth c Q D A 1 (wR N s0) 16 [] [] := by
  unfold F_X12_isDigit_16 at h
  refine aw_iconst (v := 0) C dX12_isDigit_16 (by decide) ?_
  refine aw_sub (lv' := []) [] rfl ?_
  exact T_X12_isDigit_17 C hE s0 (0 : Int32) h
def F_X12_isDigit_0 (s0 : St) (x0 : Int32) : Option (Int32 × St) :=
  if x0 < (48 : Int32) then (
    F_X12_isDigit_16 s0)
  else (
    if (57 : Int32) < x0 then (
      F_X12_isDigit_16 s0)
    else (
      F_X12_isDigit_17 s0 (1 : Int32)))
set_option maxHeartbeats 4000000 in
set_option maxRecDepth 100000 in
theorem T_X12_isDigit_0 {r : Int32} {z1 : St} (C : Cx p rm_X12_isDigit s m args c D A cX12_isDigit 1 RX12 rm_X12_isDigit N) (hE : En p l e rm_X12_isDigit s m args below meth c Q D A cX12_isDigit .ireturn (wR N z1) [.int r])  (s0 : St) (x0 : Int32) (h : F_X12_isDigit_0 s0 x0 = some (r, z1)) : Aw p l e rm_X12_isDigit s m args below meth c Q D A 1 (wR N s0) 0 [(0, .int x0)] [] := by
  unfold F_X12_isDigit_0 at h
  refine aw_iload_n C 0 dX12_isDigit_0 rfl ?_
  refine aw_bipush (v := 48) C dX12_isDigit_1 (by decide) ?_
  refine aw_icmp_lt (tgt := 16) C dX12_isDigit_3 (by decide) (fun q => ?_) (fun q => ?_)
  · have h := bq_t q h
    refine aw_sub (lv' := []) [] rfl ?_
    exact T_X12_isDigit_16 C hE s0 h
  · have h := bq_f q h
    refine aw_iload_n C 0 dX12_isDigit_6 rfl ?_
    refine aw_bipush (v := 57) C dX12_isDigit_7 (by decide) ?_
    refine aw_icmp_gt (tgt := 16) C dX12_isDigit_9 (by decide) (fun q => ?_) (fun q => ?_)
    · have h := bq_t q h
      refine aw_sub (lv' := []) [] rfl ?_
      exact T_X12_isDigit_16 C hE s0 h
    · have h := bq_f q h
      refine aw_iconst (v := 1) C dX12_isDigit_12 (by decide) ?_
      refine aw_goto (tgt := 17) C dX12_isDigit_13 (by decide) ?_
      refine aw_sub (lv' := []) [] rfl ?_
      exact T_X12_isDigit_17 C hE s0 (1 : Int32) h
def f_X12_isDigit (s0 : St) (x0 : Int32) : Option (Int32 × St) := oC (F_X12_isDigit_0 s0 x0) fun w => oZ w.1 (some w)
theorem c_X12_isDigit (l : Launch) (D : va_G) (N : Nm) (s0 z1 : St) (x0 : Int32) (r : Int32) (h : f_X12_isDigit s0 x0 = some (r, z1)) : Meti l yX12_isDigit (tsU yX12_isDigit cX12_isDigit 1 (some .boolean)) rm_X12_isDigit D N [.int x0] (wR N s0) r (wR N z1) := by
  obtain ⟨w, h1, h2⟩ := oC_e h
  obtain ⟨hz, h2⟩ := oZ_e h2
  cases h2
  exact met_z (cc := cX12_isDigit) (nL := 1) (own := RX12) (by decide) rfl (Nat.le_of_ble_eq_true rfl) (zN hz) (fun p e s m args below meth c Q A C hE => aw_sub [0] rfl (T_X12_isDigit_0 C hE s0 x0 h1))
/-! AwardLineModel.word()I -/
def rm_X12_word : Room := { frames := 4, cells := 0, slots := 0, locals := 85 }
def F_X12_word_97_b (k4 : St → Int32 → Int32 → Option (Int32 × St)) (k97 : St → Int32 → Int32 → Option (Int32 × St)) (s0 : St) (x1 : Int32) (x2 : Int32) : Option (Int32 × St) :=
  oA x2 (txL.getD 1 0) <|
  if chN 1 (Int32.toNatClampNeg x2) = (32 : Int32) then (
    oL (x2 + (1 : Int32)) fun y2 =>
    oL (x1 + (1 : Int32)) fun y3 =>
    k4 s0 y3 y2)
  else (
    oL (x2 + (1 : Int32)) fun y4 =>
    k97 s0 x1 y4)
set_option maxHeartbeats 4000000 in
set_option maxRecDepth 100000 in
theorem T_X12_word_97_b {r : Int32} {z1 : St} {k4 : St → Int32 → Int32 → Option (Int32 × St)} {k97 : St → Int32 → Int32 → Option (Int32 × St)} (C : Cx p rm_X12_word s m args c D A cX12_word 4 RX12 rm_X12_word N) (hE : En p l e rm_X12_word s m args below meth c Q D A cX12_word .ireturn (wR N z1) [.int r]) (hk4 : ∀ (s0 : St) (x1 : Int32) (x2 : Int32), k4 s0 x1 x2 = some (r, z1) → Aw p l e rm_X12_word s m args below meth c Q D A 4 (wR N s0) 4 [(0, .ref (N.1 0)), (1, .int x1), (2, .int x2)] []) (hk97 : ∀ (s0 : St) (x1 : Int32) (x2 : Int32), k97 s0 x1 x2 = some (r, z1) → Aw p l e rm_X12_word s m args below meth c Q D A 4 (wR N s0) 97 [(0, .ref (N.1 0)), (1, .int x1), (2, .int x2)] []) (s0 : St) (x1 : Int32) (x2 : Int32) (h : F_X12_word_97_b k4 k97 s0 x1 x2 = some (r, z1)) : Aw p l e rm_X12_word s m args below meth c Q D A 4 (wR N s0) 97 [(0, .ref (N.1 0)), (1, .int x1), (2, .int x2)] [] := by
  unfold F_X12_word_97_b at h
  refine aw_ldcS1 C dX12_word_97 ?_
  refine aw_iload_n C 2 dX12_word_99 rfl ?_
  obtain ⟨q1, h⟩ := oA_e h
  refine aw_callTi (n := 1) (j := 1) (As := [.int x2]) (rest := []) C (c_J0_charAt_5068e l D N (wR N s0) (by decide) q1) lw_19_0 lw_12_14 lw_12_15 lw_12_4 lw_12_16 rfl rfl (by decide +kernel) ⟨Nat.le_of_ble_eq_true rfl, Nat.le_of_ble_eq_true rfl⟩ (by decide) rfl rfl (Nat.le_of_ble_eq_true rfl) dX12_word_100 ?_
  refine aw_bipush (v := 32) C dX12_word_103 (by decide) ?_
  refine aw_icmp_eq (tgt := 114) C dX12_word_105 (by decide) (fun q => ?_) (fun q => ?_)
  · have h := bq_t q h
    obtain ⟨y2, ey2⟩ : ∃ q : Int32, q = x2 + (1 : Int32) := ⟨_, rfl⟩
    have h := oL_e ey2 h
    refine aw_iinc (v := y2) (k := 2) (lv' := [(0, .ref (N.1 0)), (1, .int x1), (2, .int y2)]) C [1, 2, 0] dX12_word_114 rfl (by rw [ey2]; rfl) (by decide) rfl ?_
    obtain ⟨y3, ey3⟩ : ∃ q : Int32, q = x1 + (1 : Int32) := ⟨_, rfl⟩
    have h := oL_e ey3 h
    refine aw_iinc (v := y3) (k := 1) (lv' := [(0, .ref (N.1 0)), (1, .int y3), (2, .int y2)]) C [1, 0, 2] dX12_word_117 rfl (by rw [ey3]; rfl) (by decide) rfl ?_
    refine aw_goto (tgt := 4) C dX12_word_120 (by decide) ?_
    refine aw_sub (lv' := [(0, .ref (N.1 0)), (1, .int y3), (2, .int y2)]) [0, 1, 2] rfl ?_
    exact hk4 s0 y3 y2 h
  · have h := bq_f q h
    obtain ⟨y4, ey4⟩ : ∃ q : Int32, q = x2 + (1 : Int32) := ⟨_, rfl⟩
    have h := oL_e ey4 h
    refine aw_iinc (v := y4) (k := 2) (lv' := [(0, .ref (N.1 0)), (1, .int x1), (2, .int y4)]) C [1, 2, 0] dX12_word_108 rfl (by rw [ey4]; rfl) (by decide) rfl ?_
    refine aw_goto (tgt := 97) C dX12_word_111 (by decide) ?_
    refine aw_sub (lv' := [(0, .ref (N.1 0)), (1, .int x1), (2, .int y4)]) [0, 1, 2] rfl ?_
    exact hk97 s0 x1 y4 h
def F_X12_word_97 (k4 : St → Int32 → Int32 → Option (Int32 × St)) : Nat → St → Int32 → Int32 → Option (Int32 × St)
  | 0 => fun _ _ _ => none
  | n + 1 => F_X12_word_97_b k4 (F_X12_word_97 k4 n)
theorem T_X12_word_97 {r : Int32} {z1 : St} {k4 : St → Int32 → Int32 → Option (Int32 × St)} (C : Cx p rm_X12_word s m args c D A cX12_word 4 RX12 rm_X12_word N) (hE : En p l e rm_X12_word s m args below meth c Q D A cX12_word .ireturn (wR N z1) [.int r]) (hk4 : ∀ (s0 : St) (x1 : Int32) (x2 : Int32), k4 s0 x1 x2 = some (r, z1) → Aw p l e rm_X12_word s m args below meth c Q D A 4 (wR N s0) 4 [(0, .ref (N.1 0)), (1, .int x1), (2, .int x2)] []) : ∀ (n : Nat) (s0 : St) (x1 : Int32) (x2 : Int32), F_X12_word_97 k4 n s0 x1 x2 = some (r, z1) → Aw p l e rm_X12_word s m args below meth c Q D A 4 (wR N s0) 97 [(0, .ref (N.1 0)), (1, .int x1), (2, .int x2)] [] := by
  intro n
  induction n with
  | zero => intro s0 x1 x2 h; cases h
  | succ n ih => intro s0 x1 x2 h; exact T_X12_word_97_b C hE hk4 ih s0 x1 x2 h
def F_X12_word_69 (k4 : St → Int32 → Int32 → Option (Int32 × St)) (s0 : St) (x1 : Int32) (x2 : Int32) (x3 : Int32) : Option (Int32 × St) :=
  oA (x2 + x3) (txL.getD 1 0) <|
  if chN 1 (Int32.toNatClampNeg (x2 + x3)) = (32 : Int32) then (
    if (s0.1 10) + x3 = (s0.1 9) then (
      some (x1, s0))
    else (
      F_X12_word_97 k4 100000 s0 x1 x2))
  else (
    F_X12_word_97 k4 100000 s0 x1 x2)
set_option maxHeartbeats 4000000 in
set_option maxRecDepth 100000 in
theorem T_X12_word_69 {r : Int32} {z1 : St} {k4 : St → Int32 → Int32 → Option (Int32 × St)} (C : Cx p rm_X12_word s m args c D A cX12_word 4 RX12 rm_X12_word N) (hE : En p l e rm_X12_word s m args below meth c Q D A cX12_word .ireturn (wR N z1) [.int r]) (hk4 : ∀ (s0 : St) (x1 : Int32) (x2 : Int32), k4 s0 x1 x2 = some (r, z1) → Aw p l e rm_X12_word s m args below meth c Q D A 4 (wR N s0) 4 [(0, .ref (N.1 0)), (1, .int x1), (2, .int x2)] []) (s0 : St) (x1 : Int32) (x2 : Int32) (x3 : Int32) (h : F_X12_word_69 k4 s0 x1 x2 x3 = some (r, z1)) : Aw p l e rm_X12_word s m args below meth c Q D A 4 (wR N s0) 69 [(0, .ref (N.1 0)), (1, .int x1), (2, .int x2), (3, .int x3)] [] := by
  unfold F_X12_word_69 at h
  refine aw_ldcS1 C dX12_word_69 ?_
  refine aw_iload_n C 2 dX12_word_71 rfl ?_
  refine aw_iload_n C 3 dX12_word_72 rfl ?_
  refine aw_iadd C dX12_word_73 ?_
  obtain ⟨q1, h⟩ := oA_e h
  refine aw_callTi (n := 1) (j := 1) (As := [.int (x2 + x3)]) (rest := []) C (c_J0_charAt_5068e l D N (wR N s0) (by decide) q1) lw_19_0 lw_12_14 lw_12_15 lw_12_4 lw_12_16 rfl rfl (by decide +kernel) ⟨Nat.le_of_ble_eq_true rfl, Nat.le_of_ble_eq_true rfl⟩ (by decide) rfl rfl (Nat.le_of_ble_eq_true rfl) dX12_word_74 ?_
  refine aw_bipush (v := 32) C dX12_word_77 (by decide) ?_
  refine aw_icmp_ne (tgt := 97) C dX12_word_79 (by decide) (fun q => ?_) (fun q => ?_)
  · have h := bq_f q h
    refine aw_sub (lv' := [(0, .ref (N.1 0)), (1, .int x1), (2, .int x2)]) [0, 1, 2] rfl ?_
    exact T_X12_word_97 C hE hk4 100000 s0 x1 x2 h
  · have h := bq_t q h
    refine aw_aload_n C 0 dX12_word_82 rfl ?_
    refine rg_md_place C lw_18_10 dX12_word_83 ?_
    refine aw_iload_n C 3 dX12_word_86 rfl ?_
    refine aw_iadd C dX12_word_87 ?_
    refine aw_aload_n C 0 dX12_word_88 rfl ?_
    refine rg_md_at C lw_17_18 dX12_word_89 ?_
    refine aw_icmp_ne (tgt := 97) C dX12_word_92 (by decide) (fun q => ?_) (fun q => ?_)
    · have h := bq_f q h
      refine aw_sub (lv' := [(0, .ref (N.1 0)), (1, .int x1), (2, .int x2)]) [0, 1, 2] rfl ?_
      exact T_X12_word_97 C hE hk4 100000 s0 x1 x2 h
    · have h := bq_t q h
      refine aw_iload_n C 1 dX12_word_95 rfl ?_
      cases h
      exact aw_ret hE dX12_word_96
def F_X12_word_15_b (k4 : St → Int32 → Int32 → Option (Int32 × St)) (k15 : St → Int32 → Int32 → Int32 → Option (Int32 × St)) (s0 : St) (x1 : Int32) (x2 : Int32) (x3 : Int32) : Option (Int32 × St) :=
  oA (x2 + x3) (txL.getD 1 0) <|
  if chN 1 (Int32.toNatClampNeg (x2 + x3)) = (32 : Int32) then (
    F_X12_word_69 k4 s0 x1 x2 x3)
  else (
    if (s0.1 9) ≤ (s0.1 10) + x3 then (
      F_X12_word_69 k4 s0 x1 x2 x3)
    else (
      oA ((s0.1 10) + x3) 400 <|
      oA (x2 + x3) (txL.getD 1 0) <|
      if (s0.2.1 0 (Int32.toNatClampNeg ((s0.1 10) + x3))) = chN 1 (Int32.toNatClampNeg (x2 + x3)) then (
        oL (x3 + (1 : Int32)) fun y4 =>
        k15 s0 x1 x2 y4)
      else (
        F_X12_word_69 k4 s0 x1 x2 x3)))
set_option maxHeartbeats 4000000 in
set_option maxRecDepth 100000 in
theorem T_X12_word_15_b {r : Int32} {z1 : St} {k4 : St → Int32 → Int32 → Option (Int32 × St)} {k15 : St → Int32 → Int32 → Int32 → Option (Int32 × St)} (C : Cx p rm_X12_word s m args c D A cX12_word 4 RX12 rm_X12_word N) (hE : En p l e rm_X12_word s m args below meth c Q D A cX12_word .ireturn (wR N z1) [.int r]) (hk4 : ∀ (s0 : St) (x1 : Int32) (x2 : Int32), k4 s0 x1 x2 = some (r, z1) → Aw p l e rm_X12_word s m args below meth c Q D A 4 (wR N s0) 4 [(0, .ref (N.1 0)), (1, .int x1), (2, .int x2)] []) (hk15 : ∀ (s0 : St) (x1 : Int32) (x2 : Int32) (x3 : Int32), k15 s0 x1 x2 x3 = some (r, z1) → Aw p l e rm_X12_word s m args below meth c Q D A 4 (wR N s0) 15 [(0, .ref (N.1 0)), (1, .int x1), (2, .int x2), (3, .int x3)] []) (s0 : St) (x1 : Int32) (x2 : Int32) (x3 : Int32) (h : F_X12_word_15_b k4 k15 s0 x1 x2 x3 = some (r, z1)) : Aw p l e rm_X12_word s m args below meth c Q D A 4 (wR N s0) 15 [(0, .ref (N.1 0)), (1, .int x1), (2, .int x2), (3, .int x3)] [] := by
  unfold F_X12_word_15_b at h
  refine aw_ldcS1 C dX12_word_15 ?_
  refine aw_iload_n C 2 dX12_word_17 rfl ?_
  refine aw_iload_n C 3 dX12_word_18 rfl ?_
  refine aw_iadd C dX12_word_19 ?_
  obtain ⟨q1, h⟩ := oA_e h
  refine aw_callTi (n := 1) (j := 1) (As := [.int (x2 + x3)]) (rest := []) C (c_J0_charAt_5068e l D N (wR N s0) (by decide) q1) lw_19_0 lw_12_14 lw_12_15 lw_12_4 lw_12_16 rfl rfl (by decide +kernel) ⟨Nat.le_of_ble_eq_true rfl, Nat.le_of_ble_eq_true rfl⟩ (by decide) rfl rfl (Nat.le_of_ble_eq_true rfl) dX12_word_20 ?_
  refine aw_bipush (v := 32) C dX12_word_23 (by decide) ?_
  refine aw_icmp_eq (tgt := 69) C dX12_word_25 (by decide) (fun q => ?_) (fun q => ?_)
  · have h := bq_t q h
    refine aw_sub (lv' := [(0, .ref (N.1 0)), (1, .int x1), (2, .int x2), (3, .int x3)]) [0, 1, 2, 3] rfl ?_
    exact T_X12_word_69 C hE hk4 s0 x1 x2 x3 h
  · have h := bq_f q h
    refine aw_aload_n C 0 dX12_word_28 rfl ?_
    refine rg_md_place C lw_18_10 dX12_word_29 ?_
    refine aw_iload_n C 3 dX12_word_32 rfl ?_
    refine aw_iadd C dX12_word_33 ?_
    refine aw_aload_n C 0 dX12_word_34 rfl ?_
    refine rg_md_at C lw_17_18 dX12_word_35 ?_
    refine aw_icmp_ge (tgt := 69) C dX12_word_38 (by decide) (fun q => ?_) (fun q => ?_)
    · have h := bq_t q h
      refine aw_sub (lv' := [(0, .ref (N.1 0)), (1, .int x1), (2, .int x2), (3, .int x3)]) [0, 1, 2, 3] rfl ?_
      exact T_X12_word_69 C hE hk4 s0 x1 x2 x3 h
    · have h := bq_f q h
      refine aw_aload_n C 0 dX12_word_41 rfl ?_
      refine rg_md_tape C lw_8_0 dX12_word_42 ?_
      refine aw_aload_n C 0 dX12_word_45 rfl ?_
      refine rg_md_place C lw_18_10 dX12_word_46 ?_
      refine aw_iload_n C 3 dX12_word_49 rfl ?_
      refine aw_iadd C dX12_word_50 ?_
      obtain ⟨q2, h⟩ := oA_e h
      refine ra_iald (k := 0) C (by decide) rfl q2 dX12_word_51 ?_
      refine aw_ldcS1 C dX12_word_52 ?_
      refine aw_iload_n C 2 dX12_word_54 rfl ?_
      refine aw_iload_n C 3 dX12_word_55 rfl ?_
      refine aw_iadd C dX12_word_56 ?_
      obtain ⟨q3, h⟩ := oA_e h
      refine aw_callTi (n := 1) (j := 1) (As := [.int (x2 + x3)]) (rest := [.int (s0.2.1 0 (Int32.toNatClampNeg ((s0.1 10) + x3)))]) C (c_J0_charAt_5068e l D N (wR N s0) (by decide) q3) lw_19_0 lw_12_14 lw_12_15 lw_12_4 lw_12_16 rfl rfl (by decide +kernel) ⟨Nat.le_of_ble_eq_true rfl, Nat.le_of_ble_eq_true rfl⟩ (by decide) rfl rfl (Nat.le_of_ble_eq_true rfl) dX12_word_57 ?_
      refine aw_icmp_ne (tgt := 69) C dX12_word_60 (by decide) (fun q => ?_) (fun q => ?_)
      · have h := bq_f q h
        refine aw_sub (lv' := [(0, .ref (N.1 0)), (1, .int x1), (2, .int x2), (3, .int x3)]) [0, 1, 2, 3] rfl ?_
        exact T_X12_word_69 C hE hk4 s0 x1 x2 x3 h
      · have h := bq_t q h
        obtain ⟨y4, ey4⟩ : ∃ q : Int32, q = x3 + (1 : Int32) := ⟨_, rfl⟩
        have h := oL_e ey4 h
        refine aw_iinc (v := y4) (k := 3) (lv' := [(0, .ref (N.1 0)), (1, .int x1), (2, .int x2), (3, .int y4)]) C [1, 2, 3, 0] dX12_word_63 rfl (by rw [ey4]; rfl) (by decide) rfl ?_
        refine aw_goto (tgt := 15) C dX12_word_66 (by decide) ?_
        refine aw_sub (lv' := [(0, .ref (N.1 0)), (1, .int x1), (2, .int x2), (3, .int y4)]) [0, 1, 2, 3] rfl ?_
        exact hk15 s0 x1 x2 y4 h
def F_X12_word_15 (k4 : St → Int32 → Int32 → Option (Int32 × St)) : Nat → St → Int32 → Int32 → Int32 → Option (Int32 × St)
  | 0 => fun _ _ _ _ => none
  | n + 1 => F_X12_word_15_b k4 (F_X12_word_15 k4 n)
theorem T_X12_word_15 {r : Int32} {z1 : St} {k4 : St → Int32 → Int32 → Option (Int32 × St)} (C : Cx p rm_X12_word s m args c D A cX12_word 4 RX12 rm_X12_word N) (hE : En p l e rm_X12_word s m args below meth c Q D A cX12_word .ireturn (wR N z1) [.int r]) (hk4 : ∀ (s0 : St) (x1 : Int32) (x2 : Int32), k4 s0 x1 x2 = some (r, z1) → Aw p l e rm_X12_word s m args below meth c Q D A 4 (wR N s0) 4 [(0, .ref (N.1 0)), (1, .int x1), (2, .int x2)] []) : ∀ (n : Nat) (s0 : St) (x1 : Int32) (x2 : Int32) (x3 : Int32), F_X12_word_15 k4 n s0 x1 x2 x3 = some (r, z1) → Aw p l e rm_X12_word s m args below meth c Q D A 4 (wR N s0) 15 [(0, .ref (N.1 0)), (1, .int x1), (2, .int x2), (3, .int x3)] [] := by
  intro n
  induction n with
  | zero => intro s0 x1 x2 x3 h; cases h
  | succ n ih => intro s0 x1 x2 x3 h; exact T_X12_word_15_b C hE hk4 ih s0 x1 x2 x3 h
def F_X12_word_4_b (k4 : St → Int32 → Int32 → Option (Int32 × St)) (s0 : St) (x1 : Int32) (x2 : Int32) : Option (Int32 × St) :=
  if txN 1 ≤ x2 then (
    some ((-1 : Int32), s0))
  else (
    oL (0 : Int32) fun y1 =>
    F_X12_word_15 k4 100000 s0 x1 x2 y1)
set_option maxHeartbeats 4000000 in
set_option maxRecDepth 100000 in
theorem T_X12_word_4_b {r : Int32} {z1 : St} {k4 : St → Int32 → Int32 → Option (Int32 × St)} (C : Cx p rm_X12_word s m args c D A cX12_word 4 RX12 rm_X12_word N) (hE : En p l e rm_X12_word s m args below meth c Q D A cX12_word .ireturn (wR N z1) [.int r]) (hk4 : ∀ (s0 : St) (x1 : Int32) (x2 : Int32), k4 s0 x1 x2 = some (r, z1) → Aw p l e rm_X12_word s m args below meth c Q D A 4 (wR N s0) 4 [(0, .ref (N.1 0)), (1, .int x1), (2, .int x2)] []) (s0 : St) (x1 : Int32) (x2 : Int32) (h : F_X12_word_4_b k4 s0 x1 x2 = some (r, z1)) : Aw p l e rm_X12_word s m args below meth c Q D A 4 (wR N s0) 4 [(0, .ref (N.1 0)), (1, .int x1), (2, .int x2)] [] := by
  unfold F_X12_word_4_b at h
  refine aw_iload_n C 2 dX12_word_4 rfl ?_
  refine aw_ldcS1 C dX12_word_5 ?_
  refine aw_callTi (n := 0) (j := 1) (As := []) (rest := [.int x2]) C (c_J0_length_8abf5 l D N (wR N s0) (by decide)) lw_18_23 lw_12_2 lw_12_3 lw_12_4 lw_12_5 rfl rfl (by decide +kernel) ⟨Nat.le_of_ble_eq_true rfl, Nat.le_of_ble_eq_true rfl⟩ (by decide) rfl rfl (Nat.le_of_ble_eq_true rfl) dX12_word_7 ?_
  refine aw_icmp_ge (tgt := 123) C dX12_word_10 (by decide) (fun q => ?_) (fun q => ?_)
  · have h := bq_t q h
    refine aw_iconst (v := -1) C dX12_word_123 (by decide) ?_
    cases h
    exact aw_ret hE dX12_word_124
  · have h := bq_f q h
    refine aw_iconst (v := 0) C dX12_word_13 (by decide) ?_
    refine aw_topi (fun y1 ey1 => ?_)
    have h := oL_e ey1 h
    refine aw_istore_n (lv' := [(0, .ref (N.1 0)), (1, .int x1), (2, .int x2), (3, .int y1)]) C [1, 2, 3, 0] dX12_word_14 rfl (by decide) rfl ?_
    refine aw_sub (lv' := [(0, .ref (N.1 0)), (1, .int x1), (2, .int x2), (3, .int y1)]) [0, 1, 2, 3] rfl ?_
    exact T_X12_word_15 C hE hk4 100000 s0 x1 x2 y1 h
def F_X12_word_4 : Nat → St → Int32 → Int32 → Option (Int32 × St)
  | 0 => fun _ _ _ => none
  | n + 1 => F_X12_word_4_b (F_X12_word_4 n)
theorem T_X12_word_4 {r : Int32} {z1 : St} (C : Cx p rm_X12_word s m args c D A cX12_word 4 RX12 rm_X12_word N) (hE : En p l e rm_X12_word s m args below meth c Q D A cX12_word .ireturn (wR N z1) [.int r])  : ∀ (n : Nat) (s0 : St) (x1 : Int32) (x2 : Int32), F_X12_word_4 n s0 x1 x2 = some (r, z1) → Aw p l e rm_X12_word s m args below meth c Q D A 4 (wR N s0) 4 [(0, .ref (N.1 0)), (1, .int x1), (2, .int x2)] [] := by
  intro n
  induction n with
  | zero => intro s0 x1 x2 h; cases h
  | succ n ih => intro s0 x1 x2 h; exact T_X12_word_4_b C hE ih s0 x1 x2 h
def F_X12_word_0 (s0 : St) : Option (Int32 × St) :=
  oL (0 : Int32) fun y1 =>
  oL (0 : Int32) fun y2 =>
  F_X12_word_4 100000 s0 y1 y2
set_option maxHeartbeats 4000000 in
set_option maxRecDepth 100000 in
theorem T_X12_word_0 {r : Int32} {z1 : St} (C : Cx p rm_X12_word s m args c D A cX12_word 4 RX12 rm_X12_word N) (hE : En p l e rm_X12_word s m args below meth c Q D A cX12_word .ireturn (wR N z1) [.int r])  (s0 : St) (h : F_X12_word_0 s0 = some (r, z1)) : Aw p l e rm_X12_word s m args below meth c Q D A 4 (wR N s0) 0 [(0, .ref (N.1 0))] [] := by
  unfold F_X12_word_0 at h
  refine aw_iconst (v := 0) C dX12_word_0 (by decide) ?_
  refine aw_topi (fun y1 ey1 => ?_)
  have h := oL_e ey1 h
  refine aw_istore_n (lv' := [(0, .ref (N.1 0)), (1, .int y1)]) C [1, 0] dX12_word_1 rfl (by decide) rfl ?_
  refine aw_iconst (v := 0) C dX12_word_2 (by decide) ?_
  refine aw_topi (fun y2 ey2 => ?_)
  have h := oL_e ey2 h
  refine aw_istore_n (lv' := [(0, .ref (N.1 0)), (1, .int y1), (2, .int y2)]) C [1, 2, 0] dX12_word_3 rfl (by decide) rfl ?_
  refine aw_sub (lv' := [(0, .ref (N.1 0)), (1, .int y1), (2, .int y2)]) [0, 1, 2] rfl ?_
  exact T_X12_word_4 C hE 100000 s0 y1 y2 h
def f_X12_word (s0 : St) : Option (Int32 × St) := F_X12_word_0 s0
theorem c_X12_word (l : Launch) (D : va_G) (N : Nm) (s0 z1 : St) (r : Int32) (h : f_X12_word s0 = some (r, z1)) : Meti l yX12_word (tsU yX12_word cX12_word 4 (some .int)) rm_X12_word D N [.ref (N.1 0)] (wR N s0) r (wR N z1) :=
  met_i (cc := cX12_word) (nL := 4) (own := RX12) (by decide) rfl (Nat.le_of_ble_eq_true rfl) (fun p e s m args below meth c Q A C hE => aw_sub [0] rfl (T_X12_word_0 C hE s0 h))
/-! AwardLineModel.next()V -/
def rm_X12_next : Room := { frames := 5, cells := 0, slots := 0, locals := 108 }
def F_X12_next_18 (k0 : St → Option (St)) (s0 : St) : Option (St) :=
  oL (sI s0 9 ((s0.1 9) + (1 : Int32))) fun s1 =>
  k0 s1
set_option maxHeartbeats 4000000 in
set_option maxRecDepth 100000 in
theorem T_X12_next_18 {z1 : St} {k0 : St → Option (St)} (C : Cx p rm_X12_next s m args c D A cX12_next 2 RX12 rm_X12_next N) (hE : En p l e rm_X12_next s m args below meth c Q D A cX12_next .return_ (wR N z1) []) (hk0 : ∀ (s0 : St), k0 s0 = some z1 → Aw p l e rm_X12_next s m args below meth c Q D A 2 (wR N s0) 0 [(0, .ref (N.1 0))] []) (s0 : St) (h : F_X12_next_18 k0 s0 = some z1) : Aw p l e rm_X12_next s m args below meth c Q D A 2 (wR N s0) 18 [(0, .ref (N.1 0))] [] := by
  unfold F_X12_next_18 at h
  refine aw_aload_n C 0 dX12_next_18 rfl ?_
  refine aw_dup C dX12_next_19 rfl ?_
  refine rg_md_at C lw_17_18 dX12_next_20 ?_
  refine aw_iconst (v := 1) C dX12_next_23 (by decide) ?_
  refine aw_iadd C dX12_next_24 ?_
  refine rp_md_at C lw_17_18 dX12_next_25 ?_
  refine ra_name (fun s1 es1 => ?_)
  have h := oL_e es1 h
  refine aw_goto (tgt := 0) C dX12_next_28 (by decide) ?_
  refine aw_sub (lv' := [(0, .ref (N.1 0))]) [0] rfl ?_
  exact hk0 s1 h
def F_X12_next_366 (s0 : St) : Option (St) :=
  some s0
set_option maxHeartbeats 4000000 in
set_option maxRecDepth 100000 in
theorem T_X12_next_366 {z1 : St} (C : Cx p rm_X12_next s m args c D A cX12_next 2 RX12 rm_X12_next N) (hE : En p l e rm_X12_next s m args below meth c Q D A cX12_next .return_ (wR N z1) [])  (s0 : St) (h : F_X12_next_366 s0 = some z1) : Aw p l e rm_X12_next s m args below meth c Q D A 2 (wR N s0) 366 [] [] := by
  unfold F_X12_next_366 at h
  cases h
  exact aw_ret hE dX12_next_366
def F_X12_next_280 (s0 : St) (x1 : Int32) : Option (St) :=
  if (s0.1 12) = x1 then (
    if x1 = (59 : Int32) then (
      F_X12_next_366 s0)
    else (
      if x1 = (45 : Int32) then (
        F_X12_next_366 s0)
      else (
        if x1 = (43 : Int32) then (
          F_X12_next_366 s0)
        else (
          if x1 = (42 : Int32) then (
            F_X12_next_366 s0)
          else (
            if x1 = (47 : Int32) then (
              F_X12_next_366 s0)
            else (
              if x1 = (40 : Int32) then (
                F_X12_next_366 s0)
              else (
                if x1 = (41 : Int32) then (
                  F_X12_next_366 s0)
                else (
                  if x1 = (60 : Int32) then (
                    F_X12_next_366 s0)
                  else (
                    if x1 = (61 : Int32) then (
                      F_X12_next_366 s0)
                    else (
                      if x1 = (62 : Int32) then (
                        F_X12_next_366 s0)
                      else (
                        oL (sI s0 11 (4 : Int32)) fun s1 =>
                        F_X12_next_366 s1)))))))))))
  else (
    oL (sI s0 9 ((s0.1 9) + (1 : Int32))) fun s2 =>
    F_X12_next_366 s2)
set_option maxHeartbeats 4000000 in
set_option maxRecDepth 100000 in
theorem T_X12_next_280 {z1 : St} (C : Cx p rm_X12_next s m args c D A cX12_next 2 RX12 rm_X12_next N) (hE : En p l e rm_X12_next s m args below meth c Q D A cX12_next .return_ (wR N z1) [])  (s0 : St) (x1 : Int32) (h : F_X12_next_280 s0 x1 = some z1) : Aw p l e rm_X12_next s m args below meth c Q D A 2 (wR N s0) 280 [(0, .ref (N.1 0)), (1, .int x1)] [] := by
  unfold F_X12_next_280 at h
  refine aw_aload_n C 0 dX12_next_280 rfl ?_
  refine rg_md_value C lw_18_11 dX12_next_281 ?_
  refine aw_iload_n C 1 dX12_next_284 rfl ?_
  refine aw_icmp_eq (tgt := 301) C dX12_next_285 (by decide) (fun q => ?_) (fun q => ?_)
  · have h := bq_t q h
    refine aw_iload_n C 1 dX12_next_301 rfl ?_
    refine aw_bipush (v := 59) C dX12_next_302 (by decide) ?_
    refine aw_icmp_eq (tgt := 366) C dX12_next_304 (by decide) (fun q => ?_) (fun q => ?_)
    · have h := bq_t q h
      refine aw_sub (lv' := []) [] rfl ?_
      exact T_X12_next_366 C hE s0 h
    · have h := bq_f q h
      refine aw_iload_n C 1 dX12_next_307 rfl ?_
      refine aw_bipush (v := 45) C dX12_next_308 (by decide) ?_
      refine aw_icmp_eq (tgt := 366) C dX12_next_310 (by decide) (fun q => ?_) (fun q => ?_)
      · have h := bq_t q h
        refine aw_sub (lv' := []) [] rfl ?_
        exact T_X12_next_366 C hE s0 h
      · have h := bq_f q h
        refine aw_iload_n C 1 dX12_next_313 rfl ?_
        refine aw_bipush (v := 43) C dX12_next_314 (by decide) ?_
        refine aw_icmp_eq (tgt := 366) C dX12_next_316 (by decide) (fun q => ?_) (fun q => ?_)
        · have h := bq_t q h
          refine aw_sub (lv' := []) [] rfl ?_
          exact T_X12_next_366 C hE s0 h
        · have h := bq_f q h
          refine aw_iload_n C 1 dX12_next_319 rfl ?_
          refine aw_bipush (v := 42) C dX12_next_320 (by decide) ?_
          refine aw_icmp_eq (tgt := 366) C dX12_next_322 (by decide) (fun q => ?_) (fun q => ?_)
          · have h := bq_t q h
            refine aw_sub (lv' := []) [] rfl ?_
            exact T_X12_next_366 C hE s0 h
          · have h := bq_f q h
            refine aw_iload_n C 1 dX12_next_325 rfl ?_
            refine aw_bipush (v := 47) C dX12_next_326 (by decide) ?_
            refine aw_icmp_eq (tgt := 366) C dX12_next_328 (by decide) (fun q => ?_) (fun q => ?_)
            · have h := bq_t q h
              refine aw_sub (lv' := []) [] rfl ?_
              exact T_X12_next_366 C hE s0 h
            · have h := bq_f q h
              refine aw_iload_n C 1 dX12_next_331 rfl ?_
              refine aw_bipush (v := 40) C dX12_next_332 (by decide) ?_
              refine aw_icmp_eq (tgt := 366) C dX12_next_334 (by decide) (fun q => ?_) (fun q => ?_)
              · have h := bq_t q h
                refine aw_sub (lv' := []) [] rfl ?_
                exact T_X12_next_366 C hE s0 h
              · have h := bq_f q h
                refine aw_iload_n C 1 dX12_next_337 rfl ?_
                refine aw_bipush (v := 41) C dX12_next_338 (by decide) ?_
                refine aw_icmp_eq (tgt := 366) C dX12_next_340 (by decide) (fun q => ?_) (fun q => ?_)
                · have h := bq_t q h
                  refine aw_sub (lv' := []) [] rfl ?_
                  exact T_X12_next_366 C hE s0 h
                · have h := bq_f q h
                  refine aw_iload_n C 1 dX12_next_343 rfl ?_
                  refine aw_bipush (v := 60) C dX12_next_344 (by decide) ?_
                  refine aw_icmp_eq (tgt := 366) C dX12_next_346 (by decide) (fun q => ?_) (fun q => ?_)
                  · have h := bq_t q h
                    refine aw_sub (lv' := []) [] rfl ?_
                    exact T_X12_next_366 C hE s0 h
                  · have h := bq_f q h
                    refine aw_iload_n C 1 dX12_next_349 rfl ?_
                    refine aw_bipush (v := 61) C dX12_next_350 (by decide) ?_
                    refine aw_icmp_eq (tgt := 366) C dX12_next_352 (by decide) (fun q => ?_) (fun q => ?_)
                    · have h := bq_t q h
                      refine aw_sub (lv' := []) [] rfl ?_
                      exact T_X12_next_366 C hE s0 h
                    · have h := bq_f q h
                      refine aw_iload_n C 1 dX12_next_355 rfl ?_
                      refine aw_bipush (v := 62) C dX12_next_356 (by decide) ?_
                      refine aw_icmp_eq (tgt := 366) C dX12_next_358 (by decide) (fun q => ?_) (fun q => ?_)
                      · have h := bq_t q h
                        refine aw_sub (lv' := []) [] rfl ?_
                        exact T_X12_next_366 C hE s0 h
                      · have h := bq_f q h
                        refine aw_aload_n C 0 dX12_next_361 rfl ?_
                        refine aw_iconst (v := 4) C dX12_next_362 (by decide) ?_
                        refine rp_md_sort C lw_18_1 dX12_next_363 ?_
                        refine ra_name (fun s1 es1 => ?_)
                        have h := oL_e es1 h
                        refine aw_sub (lv' := []) [] rfl ?_
                        exact T_X12_next_366 C hE s1 h
  · have h := bq_f q h
    refine aw_aload_n C 0 dX12_next_288 rfl ?_
    refine aw_dup C dX12_next_289 rfl ?_
    refine rg_md_at C lw_17_18 dX12_next_290 ?_
    refine aw_iconst (v := 1) C dX12_next_293 (by decide) ?_
    refine aw_iadd C dX12_next_294 ?_
    refine rp_md_at C lw_17_18 dX12_next_295 ?_
    refine ra_name (fun s2 es2 => ?_)
    have h := oL_e es2 h
    refine aw_goto (tgt := 366) C dX12_next_298 (by decide) ?_
    refine aw_sub (lv' := []) [] rfl ?_
    exact T_X12_next_366 C hE s2 h
def F_X12_next_258 (s0 : St) (x1 : Int32) : Option (St) :=
  if x1 = (62 : Int32) then (
    oC (f_X12_here s0) fun w3 =>
    oL w3.1 fun v1 => oL w3.2 fun s2 =>
    if v1 = (61 : Int32) then (
      oL (sI s2 12 (258 : Int32)) fun s4 =>
      F_X12_next_280 s4 x1)
    else (
      F_X12_next_280 s2 x1))
  else (
    F_X12_next_280 s0 x1)
set_option maxHeartbeats 4000000 in
set_option maxRecDepth 100000 in
theorem T_X12_next_258 {z1 : St} (C : Cx p rm_X12_next s m args c D A cX12_next 2 RX12 rm_X12_next N) (hE : En p l e rm_X12_next s m args below meth c Q D A cX12_next .return_ (wR N z1) [])  (s0 : St) (x1 : Int32) (h : F_X12_next_258 s0 x1 = some z1) : Aw p l e rm_X12_next s m args below meth c Q D A 2 (wR N s0) 258 [(0, .ref (N.1 0)), (1, .int x1)] [] := by
  unfold F_X12_next_258 at h
  refine aw_iload_n C 1 dX12_next_258 rfl ?_
  refine aw_bipush (v := 62) C dX12_next_259 (by decide) ?_
  refine aw_icmp_ne (tgt := 280) C dX12_next_261 (by decide) (fun q => ?_) (fun q => ?_)
  · have h := bq_f q h
    refine aw_sub (lv' := [(0, .ref (N.1 0)), (1, .int x1)]) [0, 1] rfl ?_
    exact T_X12_next_280 C hE s0 x1 h
  · have h := bq_t q h
    refine aw_aload_n C 0 dX12_next_264 rfl ?_
    obtain ⟨⟨v1, s2⟩, cw3, h⟩ := oC_e h
    have h := oL_e (x := s2) rfl (oL_e (x := v1) rfl h)
    refine aw_callVi (n := 0) (As := []) (rest := []) (q0 := 0) C (c_X12_here l D N s0 s2 v1 cw3) lw_18_12 lw_18_13 lw_18_14 lw_1_5 lw_18_15 rfl rfl (by decide +kernel) ⟨Nat.le_of_ble_eq_true rfl, Nat.le_of_ble_eq_true rfl⟩ rfl rfl rfl rfl rfl (Nat.le_of_ble_eq_true rfl) dX12_next_265 ?_
    refine aw_bipush (v := 61) C dX12_next_268 (by decide) ?_
    refine aw_icmp_ne (tgt := 280) C dX12_next_270 (by decide) (fun q => ?_) (fun q => ?_)
    · have h := bq_f q h
      refine aw_sub (lv' := [(0, .ref (N.1 0)), (1, .int x1)]) [0, 1] rfl ?_
      exact T_X12_next_280 C hE s2 x1 h
    · have h := bq_t q h
      refine aw_aload_n C 0 dX12_next_273 rfl ?_
      refine aw_sipush (v := 258) C dX12_next_274 (by decide) ?_
      refine rp_md_value C lw_18_11 dX12_next_277 ?_
      refine ra_name (fun s4 es4 => ?_)
      have h := oL_e es4 h
      refine aw_sub (lv' := [(0, .ref (N.1 0)), (1, .int x1)]) [0, 1] rfl ?_
      exact T_X12_next_280 C hE s4 x1 h
def F_X12_next_233 (s0 : St) (x1 : Int32) : Option (St) :=
  if x1 = (60 : Int32) then (
    oC (f_X12_here s0) fun w3 =>
    oL w3.1 fun v1 => oL w3.2 fun s2 =>
    if v1 = (62 : Int32) then (
      oL (sI s2 12 (257 : Int32)) fun s4 =>
      F_X12_next_280 s4 x1)
    else (
      F_X12_next_258 s2 x1))
  else (
    F_X12_next_258 s0 x1)
set_option maxHeartbeats 4000000 in
set_option maxRecDepth 100000 in
theorem T_X12_next_233 {z1 : St} (C : Cx p rm_X12_next s m args c D A cX12_next 2 RX12 rm_X12_next N) (hE : En p l e rm_X12_next s m args below meth c Q D A cX12_next .return_ (wR N z1) [])  (s0 : St) (x1 : Int32) (h : F_X12_next_233 s0 x1 = some z1) : Aw p l e rm_X12_next s m args below meth c Q D A 2 (wR N s0) 233 [(0, .ref (N.1 0)), (1, .int x1)] [] := by
  unfold F_X12_next_233 at h
  refine aw_iload_n C 1 dX12_next_233 rfl ?_
  refine aw_bipush (v := 60) C dX12_next_234 (by decide) ?_
  refine aw_icmp_ne (tgt := 258) C dX12_next_236 (by decide) (fun q => ?_) (fun q => ?_)
  · have h := bq_f q h
    refine aw_sub (lv' := [(0, .ref (N.1 0)), (1, .int x1)]) [0, 1] rfl ?_
    exact T_X12_next_258 C hE s0 x1 h
  · have h := bq_t q h
    refine aw_aload_n C 0 dX12_next_239 rfl ?_
    obtain ⟨⟨v1, s2⟩, cw3, h⟩ := oC_e h
    have h := oL_e (x := s2) rfl (oL_e (x := v1) rfl h)
    refine aw_callVi (n := 0) (As := []) (rest := []) (q0 := 0) C (c_X12_here l D N s0 s2 v1 cw3) lw_18_12 lw_18_13 lw_18_14 lw_1_5 lw_18_15 rfl rfl (by decide +kernel) ⟨Nat.le_of_ble_eq_true rfl, Nat.le_of_ble_eq_true rfl⟩ rfl rfl rfl rfl rfl (Nat.le_of_ble_eq_true rfl) dX12_next_240 ?_
    refine aw_bipush (v := 62) C dX12_next_243 (by decide) ?_
    refine aw_icmp_ne (tgt := 258) C dX12_next_245 (by decide) (fun q => ?_) (fun q => ?_)
    · have h := bq_f q h
      refine aw_sub (lv' := [(0, .ref (N.1 0)), (1, .int x1)]) [0, 1] rfl ?_
      exact T_X12_next_258 C hE s2 x1 h
    · have h := bq_t q h
      refine aw_aload_n C 0 dX12_next_248 rfl ?_
      refine aw_sipush (v := 257) C dX12_next_249 (by decide) ?_
      refine rp_md_value C lw_18_11 dX12_next_252 ?_
      refine ra_name (fun s4 es4 => ?_)
      have h := oL_e es4 h
      refine aw_goto (tgt := 280) C dX12_next_255 (by decide) ?_
      refine aw_sub (lv' := [(0, .ref (N.1 0)), (1, .int x1)]) [0, 1] rfl ?_
      exact T_X12_next_280 C hE s4 x1 h
def F_X12_next_171 (k128 : St → Option (St)) (s0 : St) (t0 : Int32) : Option (St) :=
  oL (sI s0 12 t0) fun s1 =>
  oL (sI s1 9 ((s1.1 9) + (1 : Int32))) fun s2 =>
  k128 s2
set_option maxHeartbeats 4000000 in
set_option maxRecDepth 100000 in
theorem T_X12_next_171 {z1 : St} {k128 : St → Option (St)} (C : Cx p rm_X12_next s m args c D A cX12_next 2 RX12 rm_X12_next N) (hE : En p l e rm_X12_next s m args below meth c Q D A cX12_next .return_ (wR N z1) []) (hk128 : ∀ (s0 : St), k128 s0 = some z1 → Aw p l e rm_X12_next s m args below meth c Q D A 2 (wR N s0) 128 [(0, .ref (N.1 0))] []) (s0 : St) (t0 : Int32) (h : F_X12_next_171 k128 s0 t0 = some z1) : Aw p l e rm_X12_next s m args below meth c Q D A 2 (wR N s0) 171 [(0, .ref (N.1 0))] [.int t0, .ref (N.1 0)] := by
  unfold F_X12_next_171 at h
  refine rp_md_value C lw_18_11 dX12_next_171 ?_
  refine ra_name (fun s1 es1 => ?_)
  have h := oL_e es1 h
  refine aw_aload_n C 0 dX12_next_174 rfl ?_
  refine aw_dup C dX12_next_175 rfl ?_
  refine rg_md_at C lw_17_18 dX12_next_176 ?_
  refine aw_iconst (v := 1) C dX12_next_179 (by decide) ?_
  refine aw_iadd C dX12_next_180 ?_
  refine rp_md_at C lw_17_18 dX12_next_181 ?_
  refine ra_name (fun s2 es2 => ?_)
  have h := oL_e es2 h
  refine aw_goto (tgt := 128) C dX12_next_184 (by decide) ?_
  refine aw_sub (lv' := [(0, .ref (N.1 0))]) [0] rfl ?_
  exact hk128 s2 h
def F_X12_next_128_b (k128 : St → Option (St)) (s0 : St) : Option (St) :=
  oC (f_X12_here s0) fun w3 =>
  oL w3.1 fun v1 => oL w3.2 fun s2 =>
  oC (f_X12_isDigit s2 v1) fun w6 =>
  oL w6.1 fun v4 => oL w6.2 fun s5 =>
  if v4 = 0 then (
    some s5)
  else (
    if (s5.1 12) ≤ (9999 : Int32) then (
      oC (f_X12_here s5) fun w9 =>
      oL w9.1 fun v7 => oL w9.2 fun s8 =>
      F_X12_next_171 k128 s8 ((((10 : Int32) * (s5.1 12)) + v7) - (48 : Int32)))
    else (
      F_X12_next_171 k128 s5 (s5.1 12)))
set_option maxHeartbeats 4000000 in
set_option maxRecDepth 100000 in
theorem T_X12_next_128_b {z1 : St} {k128 : St → Option (St)} (C : Cx p rm_X12_next s m args c D A cX12_next 2 RX12 rm_X12_next N) (hE : En p l e rm_X12_next s m args below meth c Q D A cX12_next .return_ (wR N z1) []) (hk128 : ∀ (s0 : St), k128 s0 = some z1 → Aw p l e rm_X12_next s m args below meth c Q D A 2 (wR N s0) 128 [(0, .ref (N.1 0))] []) (s0 : St) (h : F_X12_next_128_b k128 s0 = some z1) : Aw p l e rm_X12_next s m args below meth c Q D A 2 (wR N s0) 128 [(0, .ref (N.1 0))] [] := by
  unfold F_X12_next_128_b at h
  refine aw_aload_n C 0 dX12_next_128 rfl ?_
  obtain ⟨⟨v1, s2⟩, cw3, h⟩ := oC_e h
  have h := oL_e (x := s2) rfl (oL_e (x := v1) rfl h)
  refine aw_callVi (n := 0) (As := []) (rest := []) (q0 := 0) C (c_X12_here l D N s0 s2 v1 cw3) lw_18_12 lw_18_13 lw_18_14 lw_1_5 lw_18_15 rfl rfl (by decide +kernel) ⟨Nat.le_of_ble_eq_true rfl, Nat.le_of_ble_eq_true rfl⟩ rfl rfl rfl rfl rfl (Nat.le_of_ble_eq_true rfl) dX12_next_129 ?_
  obtain ⟨⟨v4, s5⟩, cw6, h⟩ := oC_e h
  have h := oL_e (x := s5) rfl (oL_e (x := v4) rfl h)
  refine aw_callSi (n := 1) (As := [.int v1]) (rest := []) C (c_X12_isDigit l D N s2 s5 v1 v4 cw6) lw_19_1 lw_19_2 lw_1_5 lw_19_3 rfl rfl (by decide +kernel) ⟨Nat.le_of_ble_eq_true rfl, Nat.le_of_ble_eq_true rfl⟩ rfl rfl (Nat.le_of_ble_eq_true rfl) dX12_next_132 ?_
  refine aw_if_eq (tgt := 187) C dX12_next_135 (by decide) (fun q => ?_) (fun q => ?_)
  · have h := bq_t q h
    cases h
    exact aw_ret hE dX12_next_187
  · have h := bq_f q h
    refine aw_aload_n C 0 dX12_next_138 rfl ?_
    refine aw_aload_n C 0 dX12_next_139 rfl ?_
    refine rg_md_value C lw_18_11 dX12_next_140 ?_
    refine aw_sipush (v := 9999) C dX12_next_143 (by decide) ?_
    refine aw_icmp_le (tgt := 156) C dX12_next_146 (by decide) (fun q => ?_) (fun q => ?_)
    · have h := bq_t q h
      refine aw_bipush (v := 10) C dX12_next_156 (by decide) ?_
      refine aw_aload_n C 0 dX12_next_158 rfl ?_
      refine rg_md_value C lw_18_11 dX12_next_159 ?_
      refine aw_imul C dX12_next_162 ?_
      refine aw_aload_n C 0 dX12_next_163 rfl ?_
      obtain ⟨⟨v7, s8⟩, cw9, h⟩ := oC_e h
      have h := oL_e (x := s8) rfl (oL_e (x := v7) rfl h)
      refine aw_callVi (n := 0) (As := []) (rest := [.int ((10 : Int32) * (s5.1 12)), .ref (N.1 0)]) (q0 := 0) C (c_X12_here l D N s5 s8 v7 cw9) lw_18_12 lw_18_13 lw_18_14 lw_1_5 lw_18_15 rfl rfl (by decide +kernel) ⟨Nat.le_of_ble_eq_true rfl, Nat.le_of_ble_eq_true rfl⟩ rfl rfl rfl rfl rfl (Nat.le_of_ble_eq_true rfl) dX12_next_164 ?_
      refine aw_iadd C dX12_next_167 ?_
      refine aw_bipush (v := 48) C dX12_next_168 (by decide) ?_
      refine aw_isub C dX12_next_170 ?_
      refine aw_sub (lv' := [(0, .ref (N.1 0))]) [0] rfl ?_
      exact T_X12_next_171 C hE hk128 s8 ((((10 : Int32) * (s5.1 12)) + v7) - (48 : Int32)) h
    · have h := bq_f q h
      refine aw_aload_n C 0 dX12_next_149 rfl ?_
      refine rg_md_value C lw_18_11 dX12_next_150 ?_
      refine aw_goto (tgt := 171) C dX12_next_153 (by decide) ?_
      refine aw_sub (lv' := [(0, .ref (N.1 0))]) [0] rfl ?_
      exact T_X12_next_171 C hE hk128 s5 (s5.1 12) h
def F_X12_next_128 : Nat → St → Option (St)
  | 0 => fun _ => none
  | n + 1 => F_X12_next_128_b (F_X12_next_128 n)
theorem T_X12_next_128 {z1 : St} (C : Cx p rm_X12_next s m args c D A cX12_next 2 RX12 rm_X12_next N) (hE : En p l e rm_X12_next s m args below meth c Q D A cX12_next .return_ (wR N z1) [])  : ∀ (n : Nat) (s0 : St), F_X12_next_128 n s0 = some z1 → Aw p l e rm_X12_next s m args below meth c Q D A 2 (wR N s0) 128 [(0, .ref (N.1 0))] [] := by
  intro n
  induction n with
  | zero => intro s0 h; cases h
  | succ n ih => intro s0 h; exact T_X12_next_128_b C hE ih s0 h
def F_X12_next_107 (s0 : St) (t0 : Int32) : Option (St) :=
  oL (sI s0 11 t0) fun s1 =>
  some s1
set_option maxHeartbeats 4000000 in
set_option maxRecDepth 100000 in
theorem T_X12_next_107 {z1 : St} (C : Cx p rm_X12_next s m args c D A cX12_next 2 RX12 rm_X12_next N) (hE : En p l e rm_X12_next s m args below meth c Q D A cX12_next .return_ (wR N z1) [])  (s0 : St) (t0 : Int32) (h : F_X12_next_107 s0 t0 = some z1) : Aw p l e rm_X12_next s m args below meth c Q D A 2 (wR N s0) 107 [] [.int t0, .ref (N.1 0)] := by
  unfold F_X12_next_107 at h
  refine rp_md_sort C lw_18_1 dX12_next_107 ?_
  refine ra_name (fun s1 es1 => ?_)
  have h := oL_e es1 h
  cases h
  exact aw_ret hE dX12_next_110
def F_X12_next_62_b (k62 : St → Option (St)) (s0 : St) : Option (St) :=
  oC (f_X12_here s0) fun w3 =>
  oL w3.1 fun v1 => oL w3.2 fun s2 =>
  oC (f_X12_isSmall s2 v1) fun w6 =>
  oL w6.1 fun v4 => oL w6.2 fun s5 =>
  if v4 = 0 then (
    oC (f_X12_word s5) fun w9 =>
    oL w9.1 fun v7 => oL w9.2 fun s8 =>
    oL (sI s8 12 v7) fun s10 =>
    if (s10.1 12) = (-1 : Int32) then (
      F_X12_next_107 s10 (4 : Int32))
    else (
      F_X12_next_107 s10 (0 : Int32)))
  else (
    oL (sI s5 9 ((s5.1 9) + (1 : Int32))) fun s11 =>
    k62 s11)
set_option maxHeartbeats 4000000 in
set_option maxRecDepth 100000 in
theorem T_X12_next_62_b {z1 : St} {k62 : St → Option (St)} (C : Cx p rm_X12_next s m args c D A cX12_next 2 RX12 rm_X12_next N) (hE : En p l e rm_X12_next s m args below meth c Q D A cX12_next .return_ (wR N z1) []) (hk62 : ∀ (s0 : St), k62 s0 = some z1 → Aw p l e rm_X12_next s m args below meth c Q D A 2 (wR N s0) 62 [(0, .ref (N.1 0))] []) (s0 : St) (h : F_X12_next_62_b k62 s0 = some z1) : Aw p l e rm_X12_next s m args below meth c Q D A 2 (wR N s0) 62 [(0, .ref (N.1 0))] [] := by
  unfold F_X12_next_62_b at h
  refine aw_aload_n C 0 dX12_next_62 rfl ?_
  obtain ⟨⟨v1, s2⟩, cw3, h⟩ := oC_e h
  have h := oL_e (x := s2) rfl (oL_e (x := v1) rfl h)
  refine aw_callVi (n := 0) (As := []) (rest := []) (q0 := 0) C (c_X12_here l D N s0 s2 v1 cw3) lw_18_12 lw_18_13 lw_18_14 lw_1_5 lw_18_15 rfl rfl (by decide +kernel) ⟨Nat.le_of_ble_eq_true rfl, Nat.le_of_ble_eq_true rfl⟩ rfl rfl rfl rfl rfl (Nat.le_of_ble_eq_true rfl) dX12_next_63 ?_
  obtain ⟨⟨v4, s5⟩, cw6, h⟩ := oC_e h
  have h := oL_e (x := s5) rfl (oL_e (x := v4) rfl h)
  refine aw_callSi (n := 1) (As := [.int v1]) (rest := []) C (c_X12_isSmall l D N s2 s5 v1 v4 cw6) lw_18_16 lw_18_17 lw_1_5 lw_18_18 rfl rfl (by decide +kernel) ⟨Nat.le_of_ble_eq_true rfl, Nat.le_of_ble_eq_true rfl⟩ rfl rfl (Nat.le_of_ble_eq_true rfl) dX12_next_66 ?_
  refine aw_if_eq (tgt := 85) C dX12_next_69 (by decide) (fun q => ?_) (fun q => ?_)
  · have h := bq_t q h
    refine aw_aload_n C 0 dX12_next_85 rfl ?_
    refine aw_aload_n C 0 dX12_next_86 rfl ?_
    obtain ⟨⟨v7, s8⟩, cw9, h⟩ := oC_e h
    have h := oL_e (x := s8) rfl (oL_e (x := v7) rfl h)
    refine aw_callVi (n := 0) (As := []) (rest := [.ref (N.1 0)]) (q0 := 0) C (c_X12_word l D N s5 s8 v7 cw9) lw_18_19 lw_18_20 lw_18_21 lw_1_5 lw_18_22 rfl rfl (by decide +kernel) ⟨Nat.le_of_ble_eq_true rfl, Nat.le_of_ble_eq_true rfl⟩ rfl rfl rfl rfl rfl (Nat.le_of_ble_eq_true rfl) dX12_next_87 ?_
    refine rp_md_value C lw_18_11 dX12_next_90 ?_
    refine ra_name (fun s10 es10 => ?_)
    have h := oL_e es10 h
    refine aw_aload_n C 0 dX12_next_93 rfl ?_
    refine aw_aload_n C 0 dX12_next_94 rfl ?_
    refine rg_md_value C lw_18_11 dX12_next_95 ?_
    refine aw_iconst (v := -1) C dX12_next_98 (by decide) ?_
    refine aw_icmp_ne (tgt := 106) C dX12_next_99 (by decide) (fun q => ?_) (fun q => ?_)
    · have h := bq_f q h
      refine aw_iconst (v := 0) C dX12_next_106 (by decide) ?_
      refine aw_sub (lv' := []) [] rfl ?_
      exact T_X12_next_107 C hE s10 (0 : Int32) h
    · have h := bq_t q h
      refine aw_iconst (v := 4) C dX12_next_102 (by decide) ?_
      refine aw_goto (tgt := 107) C dX12_next_103 (by decide) ?_
      refine aw_sub (lv' := []) [] rfl ?_
      exact T_X12_next_107 C hE s10 (4 : Int32) h
  · have h := bq_f q h
    refine aw_aload_n C 0 dX12_next_72 rfl ?_
    refine aw_dup C dX12_next_73 rfl ?_
    refine rg_md_at C lw_17_18 dX12_next_74 ?_
    refine aw_iconst (v := 1) C dX12_next_77 (by decide) ?_
    refine aw_iadd C dX12_next_78 ?_
    refine rp_md_at C lw_17_18 dX12_next_79 ?_
    refine ra_name (fun s11 es11 => ?_)
    have h := oL_e es11 h
    refine aw_goto (tgt := 62) C dX12_next_82 (by decide) ?_
    refine aw_sub (lv' := [(0, .ref (N.1 0))]) [0] rfl ?_
    exact hk62 s11 h
def F_X12_next_62 : Nat → St → Option (St)
  | 0 => fun _ => none
  | n + 1 => F_X12_next_62_b (F_X12_next_62 n)
theorem T_X12_next_62 {z1 : St} (C : Cx p rm_X12_next s m args c D A cX12_next 2 RX12 rm_X12_next N) (hE : En p l e rm_X12_next s m args below meth c Q D A cX12_next .return_ (wR N z1) [])  : ∀ (n : Nat) (s0 : St), F_X12_next_62 n s0 = some z1 → Aw p l e rm_X12_next s m args below meth c Q D A 2 (wR N s0) 62 [(0, .ref (N.1 0))] [] := by
  intro n
  induction n with
  | zero => intro s0 h; cases h
  | succ n ih => intro s0 h; exact T_X12_next_62_b C hE ih s0 h
def F_X12_next_0_b (k0 : St → Option (St)) (s0 : St) : Option (St) :=
  oC (f_X12_here s0) fun w3 =>
  oL w3.1 fun v1 => oL w3.2 fun s2 =>
  if v1 = (10 : Int32) then (
    F_X12_next_18 k0 s2)
  else (
    oC (f_X12_here s2) fun w6 =>
    oL w6.1 fun v4 => oL w6.2 fun s5 =>
    if v4 = (32 : Int32) then (
      F_X12_next_18 k0 s5)
    else (
      oL (sI s5 10 (s5.1 9)) fun s7 =>
      oC (f_X12_here s7) fun w10 =>
      oL w10.1 fun v8 => oL w10.2 fun s9 =>
      if v8 = (-1 : Int32) then (
        oL (sI s9 11 (3 : Int32)) fun s26 =>
        some s26)
      else (
        oC (f_X12_isSmall s9 v8) fun w13 =>
        oL w13.1 fun v11 => oL w13.2 fun s12 =>
        if v11 = 0 then (
          oC (f_X12_isDigit s12 v8) fun w16 =>
          oL w16.1 fun v14 => oL w16.2 fun s15 =>
          if v14 = 0 then (
            oL (sI s15 9 ((s15.1 9) + (1 : Int32))) fun s17 =>
            oL (sI s17 11 (2 : Int32)) fun s18 =>
            oL (sI s18 12 v8) fun s19 =>
            if v8 = (60 : Int32) then (
              oC (f_X12_here s19) fun w22 =>
              oL w22.1 fun v20 => oL w22.2 fun s21 =>
              if v20 = (61 : Int32) then (
                oL (sI s21 12 (256 : Int32)) fun s23 =>
                F_X12_next_280 s23 v8)
              else (
                F_X12_next_233 s21 v8))
            else (
              F_X12_next_233 s19 v8))
          else (
            oL (sI s15 11 (1 : Int32)) fun s24 =>
            oL (sI s24 12 (0 : Int32)) fun s25 =>
            F_X12_next_128 100000 s25))
        else (
          F_X12_next_62 100000 s12))))
set_option maxHeartbeats 4000000 in
set_option maxRecDepth 100000 in
theorem T_X12_next_0_b {z1 : St} {k0 : St → Option (St)} (C : Cx p rm_X12_next s m args c D A cX12_next 2 RX12 rm_X12_next N) (hE : En p l e rm_X12_next s m args below meth c Q D A cX12_next .return_ (wR N z1) []) (hk0 : ∀ (s0 : St), k0 s0 = some z1 → Aw p l e rm_X12_next s m args below meth c Q D A 2 (wR N s0) 0 [(0, .ref (N.1 0))] []) (s0 : St) (h : F_X12_next_0_b k0 s0 = some z1) : Aw p l e rm_X12_next s m args below meth c Q D A 2 (wR N s0) 0 [(0, .ref (N.1 0))] [] := by
  unfold F_X12_next_0_b at h
  refine aw_aload_n C 0 dX12_next_0 rfl ?_
  obtain ⟨⟨v1, s2⟩, cw3, h⟩ := oC_e h
  have h := oL_e (x := s2) rfl (oL_e (x := v1) rfl h)
  refine aw_callVi (n := 0) (As := []) (rest := []) (q0 := 0) C (c_X12_here l D N s0 s2 v1 cw3) lw_18_12 lw_18_13 lw_18_14 lw_1_5 lw_18_15 rfl rfl (by decide +kernel) ⟨Nat.le_of_ble_eq_true rfl, Nat.le_of_ble_eq_true rfl⟩ rfl rfl rfl rfl rfl (Nat.le_of_ble_eq_true rfl) dX12_next_1 ?_
  refine aw_bipush (v := 10) C dX12_next_4 (by decide) ?_
  refine aw_icmp_eq (tgt := 18) C dX12_next_6 (by decide) (fun q => ?_) (fun q => ?_)
  · have h := bq_t q h
    refine aw_sub (lv' := [(0, .ref (N.1 0))]) [0] rfl ?_
    exact T_X12_next_18 C hE hk0 s2 h
  · have h := bq_f q h
    refine aw_aload_n C 0 dX12_next_9 rfl ?_
    obtain ⟨⟨v4, s5⟩, cw6, h⟩ := oC_e h
    have h := oL_e (x := s5) rfl (oL_e (x := v4) rfl h)
    refine aw_callVi (n := 0) (As := []) (rest := []) (q0 := 0) C (c_X12_here l D N s2 s5 v4 cw6) lw_18_12 lw_18_13 lw_18_14 lw_1_5 lw_18_15 rfl rfl (by decide +kernel) ⟨Nat.le_of_ble_eq_true rfl, Nat.le_of_ble_eq_true rfl⟩ rfl rfl rfl rfl rfl (Nat.le_of_ble_eq_true rfl) dX12_next_10 ?_
    refine aw_bipush (v := 32) C dX12_next_13 (by decide) ?_
    refine aw_icmp_ne (tgt := 31) C dX12_next_15 (by decide) (fun q => ?_) (fun q => ?_)
    · have h := bq_f q h
      refine aw_aload_n C 0 dX12_next_31 rfl ?_
      refine aw_aload_n C 0 dX12_next_32 rfl ?_
      refine rg_md_at C lw_17_18 dX12_next_33 ?_
      refine rp_md_place C lw_18_10 dX12_next_36 ?_
      refine ra_name (fun s7 es7 => ?_)
      have h := oL_e es7 h
      refine aw_aload_n C 0 dX12_next_39 rfl ?_
      obtain ⟨⟨v8, s9⟩, cw10, h⟩ := oC_e h
      have h := oL_e (x := s9) rfl (oL_e (x := v8) rfl h)
      refine aw_callVi (n := 0) (As := []) (rest := []) (q0 := 0) C (c_X12_here l D N s7 s9 v8 cw10) lw_18_12 lw_18_13 lw_18_14 lw_1_5 lw_18_15 rfl rfl (by decide +kernel) ⟨Nat.le_of_ble_eq_true rfl, Nat.le_of_ble_eq_true rfl⟩ rfl rfl rfl rfl rfl (Nat.le_of_ble_eq_true rfl) dX12_next_40 ?_
      refine aw_istore_n (lv' := [(0, .ref (N.1 0)), (1, .int v8)]) C [1, 0] dX12_next_43 rfl (by decide) rfl ?_
      refine aw_iload_n C 1 dX12_next_44 rfl ?_
      refine aw_iconst (v := -1) C dX12_next_45 (by decide) ?_
      refine aw_icmp_ne (tgt := 55) C dX12_next_46 (by decide) (fun q => ?_) (fun q => ?_)
      · have h := bq_f q h
        refine aw_iload_n C 1 dX12_next_55 rfl ?_
        obtain ⟨⟨v11, s12⟩, cw13, h⟩ := oC_e h
        have h := oL_e (x := s12) rfl (oL_e (x := v11) rfl h)
        refine aw_callSi (n := 1) (As := [.int v8]) (rest := []) C (c_X12_isSmall l D N s9 s12 v8 v11 cw13) lw_18_16 lw_18_17 lw_1_5 lw_18_18 rfl rfl (by decide +kernel) ⟨Nat.le_of_ble_eq_true rfl, Nat.le_of_ble_eq_true rfl⟩ rfl rfl (Nat.le_of_ble_eq_true rfl) dX12_next_56 ?_
        refine aw_if_eq (tgt := 111) C dX12_next_59 (by decide) (fun q => ?_) (fun q => ?_)
        · have h := bq_t q h
          refine aw_iload_n C 1 dX12_next_111 rfl ?_
          obtain ⟨⟨v14, s15⟩, cw16, h⟩ := oC_e h
          have h := oL_e (x := s15) rfl (oL_e (x := v14) rfl h)
          refine aw_callSi (n := 1) (As := [.int v8]) (rest := []) C (c_X12_isDigit l D N s12 s15 v8 v14 cw16) lw_19_1 lw_19_2 lw_1_5 lw_19_3 rfl rfl (by decide +kernel) ⟨Nat.le_of_ble_eq_true rfl, Nat.le_of_ble_eq_true rfl⟩ rfl rfl (Nat.le_of_ble_eq_true rfl) dX12_next_112 ?_
          refine aw_if_eq (tgt := 188) C dX12_next_115 (by decide) (fun q => ?_) (fun q => ?_)
          · have h := bq_t q h
            refine aw_aload_n C 0 dX12_next_188 rfl ?_
            refine aw_dup C dX12_next_189 rfl ?_
            refine rg_md_at C lw_17_18 dX12_next_190 ?_
            refine aw_iconst (v := 1) C dX12_next_193 (by decide) ?_
            refine aw_iadd C dX12_next_194 ?_
            refine rp_md_at C lw_17_18 dX12_next_195 ?_
            refine ra_name (fun s17 es17 => ?_)
            have h := oL_e es17 h
            refine aw_aload_n C 0 dX12_next_198 rfl ?_
            refine aw_iconst (v := 2) C dX12_next_199 (by decide) ?_
            refine rp_md_sort C lw_18_1 dX12_next_200 ?_
            refine ra_name (fun s18 es18 => ?_)
            have h := oL_e es18 h
            refine aw_aload_n C 0 dX12_next_203 rfl ?_
            refine aw_iload_n C 1 dX12_next_204 rfl ?_
            refine rp_md_value C lw_18_11 dX12_next_205 ?_
            refine ra_name (fun s19 es19 => ?_)
            have h := oL_e es19 h
            refine aw_iload_n C 1 dX12_next_208 rfl ?_
            refine aw_bipush (v := 60) C dX12_next_209 (by decide) ?_
            refine aw_icmp_ne (tgt := 233) C dX12_next_211 (by decide) (fun q => ?_) (fun q => ?_)
            · have h := bq_f q h
              refine aw_sub (lv' := [(0, .ref (N.1 0)), (1, .int v8)]) [0, 1] rfl ?_
              exact T_X12_next_233 C hE s19 v8 h
            · have h := bq_t q h
              refine aw_aload_n C 0 dX12_next_214 rfl ?_
              obtain ⟨⟨v20, s21⟩, cw22, h⟩ := oC_e h
              have h := oL_e (x := s21) rfl (oL_e (x := v20) rfl h)
              refine aw_callVi (n := 0) (As := []) (rest := []) (q0 := 0) C (c_X12_here l D N s19 s21 v20 cw22) lw_18_12 lw_18_13 lw_18_14 lw_1_5 lw_18_15 rfl rfl (by decide +kernel) ⟨Nat.le_of_ble_eq_true rfl, Nat.le_of_ble_eq_true rfl⟩ rfl rfl rfl rfl rfl (Nat.le_of_ble_eq_true rfl) dX12_next_215 ?_
              refine aw_bipush (v := 61) C dX12_next_218 (by decide) ?_
              refine aw_icmp_ne (tgt := 233) C dX12_next_220 (by decide) (fun q => ?_) (fun q => ?_)
              · have h := bq_f q h
                refine aw_sub (lv' := [(0, .ref (N.1 0)), (1, .int v8)]) [0, 1] rfl ?_
                exact T_X12_next_233 C hE s21 v8 h
              · have h := bq_t q h
                refine aw_aload_n C 0 dX12_next_223 rfl ?_
                refine aw_sipush (v := 256) C dX12_next_224 (by decide) ?_
                refine rp_md_value C lw_18_11 dX12_next_227 ?_
                refine ra_name (fun s23 es23 => ?_)
                have h := oL_e es23 h
                refine aw_goto (tgt := 280) C dX12_next_230 (by decide) ?_
                refine aw_sub (lv' := [(0, .ref (N.1 0)), (1, .int v8)]) [0, 1] rfl ?_
                exact T_X12_next_280 C hE s23 v8 h
          · have h := bq_f q h
            refine aw_aload_n C 0 dX12_next_118 rfl ?_
            refine aw_iconst (v := 1) C dX12_next_119 (by decide) ?_
            refine rp_md_sort C lw_18_1 dX12_next_120 ?_
            refine ra_name (fun s24 es24 => ?_)
            have h := oL_e es24 h
            refine aw_aload_n C 0 dX12_next_123 rfl ?_
            refine aw_iconst (v := 0) C dX12_next_124 (by decide) ?_
            refine rp_md_value C lw_18_11 dX12_next_125 ?_
            refine ra_name (fun s25 es25 => ?_)
            have h := oL_e es25 h
            refine aw_sub (lv' := [(0, .ref (N.1 0))]) [0] rfl ?_
            exact T_X12_next_128 C hE 100000 s25 h
        · have h := bq_f q h
          refine aw_sub (lv' := [(0, .ref (N.1 0))]) [0] rfl ?_
          exact T_X12_next_62 C hE 100000 s12 h
      · have h := bq_t q h
        refine aw_aload_n C 0 dX12_next_49 rfl ?_
        refine aw_iconst (v := 3) C dX12_next_50 (by decide) ?_
        refine rp_md_sort C lw_18_1 dX12_next_51 ?_
        refine ra_name (fun s26 es26 => ?_)
        have h := oL_e es26 h
        cases h
        exact aw_ret hE dX12_next_54
    · have h := bq_t q h
      refine aw_sub (lv' := [(0, .ref (N.1 0))]) [0] rfl ?_
      exact T_X12_next_18 C hE hk0 s5 h
def F_X12_next_0 : Nat → St → Option (St)
  | 0 => fun _ => none
  | n + 1 => F_X12_next_0_b (F_X12_next_0 n)
theorem T_X12_next_0 {z1 : St} (C : Cx p rm_X12_next s m args c D A cX12_next 2 RX12 rm_X12_next N) (hE : En p l e rm_X12_next s m args below meth c Q D A cX12_next .return_ (wR N z1) [])  : ∀ (n : Nat) (s0 : St), F_X12_next_0 n s0 = some z1 → Aw p l e rm_X12_next s m args below meth c Q D A 2 (wR N s0) 0 [(0, .ref (N.1 0))] [] := by
  intro n
  induction n with
  | zero => intro s0 h; cases h
  | succ n ih => intro s0 h; exact T_X12_next_0_b C hE ih s0 h
def f_X12_next (s0 : St) : Option (St) := F_X12_next_0 100000 s0
theorem c_X12_next (l : Launch) (D : va_G) (N : Nm) (s0 z1 : St) (h : f_X12_next s0 = some z1) : Metv l yX12_next (tsU yX12_next cX12_next 2 none) rm_X12_next D N [.ref (N.1 0)] (wR N s0) (wR N z1) :=
  met_v (cc := cX12_next) (nL := 2) (own := RX12) (by decide) rfl (Nat.le_of_ble_eq_true rfl) (fun p e s m args below meth c Q A C hE => aw_sub [0] rfl (T_X12_next_0 C hE 100000 s0 h))
/-! AwardLineModel.wrong(I)V -/
def rm_X12_wrong : Room := { frames := 0, cells := 0, slots := 0, locals := 0 }
def F_X12_wrong_0 (s0 : St) (x1 : Int32) : Option (St) :=
  if (s0.1 13) = 0 then (
    oL (sI s0 13 x1) fun s1 =>
    oL (sI s1 14 (s1.1 10)) fun s2 =>
    some s2)
  else (
    some s0)
set_option maxHeartbeats 4000000 in
set_option maxRecDepth 100000 in
theorem T_X12_wrong_0 {z1 : St} (C : Cx p rm_X12_wrong s m args c D A cX12_wrong 2 RX12 rm_X12_wrong N) (hE : En p l e rm_X12_wrong s m args below meth c Q D A cX12_wrong .return_ (wR N z1) [])  (s0 : St) (x1 : Int32) (h : F_X12_wrong_0 s0 x1 = some z1) : Aw p l e rm_X12_wrong s m args below meth c Q D A 2 (wR N s0) 0 [(0, .ref (N.1 0)), (1, .int x1)] [] := by
  unfold F_X12_wrong_0 at h
  refine aw_aload_n C 0 dX12_wrong_0 rfl ?_
  refine rg_md_fault C lw_17_19 dX12_wrong_1 ?_
  refine aw_if_eq (tgt := 8) C dX12_wrong_4 (by decide) (fun q => ?_) (fun q => ?_)
  · have h := bq_t q h
    refine aw_aload_n C 0 dX12_wrong_8 rfl ?_
    refine aw_iload_n C 1 dX12_wrong_9 rfl ?_
    refine rp_md_fault C lw_17_19 dX12_wrong_10 ?_
    refine ra_name (fun s1 es1 => ?_)
    have h := oL_e es1 h
    refine aw_aload_n C 0 dX12_wrong_13 rfl ?_
    refine aw_aload_n C 0 dX12_wrong_14 rfl ?_
    refine rg_md_place C lw_18_10 dX12_wrong_15 ?_
    refine rp_md_faultPlace C lw_17_20 dX12_wrong_18 ?_
    refine ra_name (fun s2 es2 => ?_)
    have h := oL_e es2 h
    cases h
    exact aw_ret hE dX12_wrong_21
  · have h := bq_f q h
    cases h
    exact aw_ret hE dX12_wrong_7
def f_X12_wrong (s0 : St) (x1 : Int32) : Option (St) := F_X12_wrong_0 s0 x1
theorem c_X12_wrong (l : Launch) (D : va_G) (N : Nm) (s0 z1 : St) (x1 : Int32) (h : f_X12_wrong s0 x1 = some z1) : Metv l yX12_wrong (tsU yX12_wrong cX12_wrong 2 none) rm_X12_wrong D N [.ref (N.1 0), .int x1] (wR N s0) (wR N z1) :=
  met_v (cc := cX12_wrong) (nL := 2) (own := RX12) (by decide) rfl (Nat.le_of_ble_eq_true rfl) (fun p e s m args below meth c Q A C hE => aw_sub [0, 1] rfl (T_X12_wrong_0 C hE s0 x1 h))
/-! AwardLineModel.isSign(I)Z -/
def rm_X12_isSign : Room := { frames := 0, cells := 0, slots := 0, locals := 0 }
def F_X12_isSign_21 (s0 : St) (t0 : Int32) : Option (Int32 × St) :=
  some (t0, s0)
set_option maxHeartbeats 4000000 in
set_option maxRecDepth 100000 in
theorem T_X12_isSign_21 {r : Int32} {z1 : St} (C : Cx p rm_X12_isSign s m args c D A cX12_isSign 2 RX12 rm_X12_isSign N) (hE : En p l e rm_X12_isSign s m args below meth c Q D A cX12_isSign .ireturn (wR N z1) [.int r])  (s0 : St) (t0 : Int32) (h : F_X12_isSign_21 s0 t0 = some (r, z1)) : Aw p l e rm_X12_isSign s m args below meth c Q D A 2 (wR N s0) 21 [] [.int t0] := by
  unfold F_X12_isSign_21 at h
  cases h
  exact aw_ret hE dX12_isSign_21
def F_X12_isSign_20 (s0 : St) : Option (Int32 × St) :=
  F_X12_isSign_21 s0 (0 : Int32)
set_option maxHeartbeats 4000000 in
set_option maxRecDepth 100000 in
theorem T_X12_isSign_20 {r : Int32} {z1 : St} (C : Cx p rm_X12_isSign s m args c D A cX12_isSign 2 RX12 rm_X12_isSign N) (hE : En p l e rm_X12_isSign s m args below meth c Q D A cX12_isSign .ireturn (wR N z1) [.int r])  (s0 : St) (h : F_X12_isSign_20 s0 = some (r, z1)) : Aw p l e rm_X12_isSign s m args below meth c Q D A 2 (wR N s0) 20 [] [] := by
  unfold F_X12_isSign_20 at h
  refine aw_iconst (v := 0) C dX12_isSign_20 (by decide) ?_
  refine aw_sub (lv' := []) [] rfl ?_
  exact T_X12_isSign_21 C hE s0 (0 : Int32) h
def F_X12_isSign_0 (s0 : St) (x1 : Int32) : Option (Int32 × St) :=
  if (s0.1 11) = (2 : Int32) then (
    if (s0.1 12) = x1 then (
      F_X12_isSign_21 s0 (1 : Int32))
    else (
      F_X12_isSign_20 s0))
  else (
    F_X12_isSign_20 s0)
set_option maxHeartbeats 4000000 in
set_option maxRecDepth 100000 in
theorem T_X12_isSign_0 {r : Int32} {z1 : St} (C : Cx p rm_X12_isSign s m args c D A cX12_isSign 2 RX12 rm_X12_isSign N) (hE : En p l e rm_X12_isSign s m args below meth c Q D A cX12_isSign .ireturn (wR N z1) [.int r])  (s0 : St) (x1 : Int32) (h : F_X12_isSign_0 s0 x1 = some (r, z1)) : Aw p l e rm_X12_isSign s m args below meth c Q D A 2 (wR N s0) 0 [(0, .ref (N.1 0)), (1, .int x1)] [] := by
  unfold F_X12_isSign_0 at h
  refine aw_aload_n C 0 dX12_isSign_0 rfl ?_
  refine rg_md_sort C lw_18_1 dX12_isSign_1 ?_
  refine aw_iconst (v := 2) C dX12_isSign_4 (by decide) ?_
  refine aw_icmp_ne (tgt := 20) C dX12_isSign_5 (by decide) (fun q => ?_) (fun q => ?_)
  · have h := bq_f q h
    refine aw_sub (lv' := []) [] rfl ?_
    exact T_X12_isSign_20 C hE s0 h
  · have h := bq_t q h
    refine aw_aload_n C 0 dX12_isSign_8 rfl ?_
    refine rg_md_value C lw_18_11 dX12_isSign_9 ?_
    refine aw_iload_n C 1 dX12_isSign_12 rfl ?_
    refine aw_icmp_ne (tgt := 20) C dX12_isSign_13 (by decide) (fun q => ?_) (fun q => ?_)
    · have h := bq_f q h
      refine aw_sub (lv' := []) [] rfl ?_
      exact T_X12_isSign_20 C hE s0 h
    · have h := bq_t q h
      refine aw_iconst (v := 1) C dX12_isSign_16 (by decide) ?_
      refine aw_goto (tgt := 21) C dX12_isSign_17 (by decide) ?_
      refine aw_sub (lv' := []) [] rfl ?_
      exact T_X12_isSign_21 C hE s0 (1 : Int32) h
def f_X12_isSign (s0 : St) (x1 : Int32) : Option (Int32 × St) := oC (F_X12_isSign_0 s0 x1) fun w => oZ w.1 (some w)
theorem c_X12_isSign (l : Launch) (D : va_G) (N : Nm) (s0 z1 : St) (x1 : Int32) (r : Int32) (h : f_X12_isSign s0 x1 = some (r, z1)) : Meti l yX12_isSign (tsU yX12_isSign cX12_isSign 2 (some .boolean)) rm_X12_isSign D N [.ref (N.1 0), .int x1] (wR N s0) r (wR N z1) := by
  obtain ⟨w, h1, h2⟩ := oC_e h
  obtain ⟨hz, h2⟩ := oZ_e h2
  cases h2
  exact met_z (cc := cX12_isSign) (nL := 2) (own := RX12) (by decide) rfl (Nat.le_of_ble_eq_true rfl) (zN hz) (fun p e s m args below meth c Q A C hE => aw_sub [0, 1] rfl (T_X12_isSign_0 C hE s0 x1 h1))
/-! AwardLineModel.number(II)V -/
def rm_X12_number : Room := { frames := 6, cells := 0, slots := 0, locals := 129 }
def F_X12_number_37 (s0 : St) (x1 : Int32) : Option (St) :=
  if (s0.1 13) = 0 then (
    oA ((6 : Int32) + x1) 12 <|
    oL (sA s0 3 (upd (s0.2.1 3) (Int32.toNatClampNeg ((6 : Int32) + x1)) (s0.1 12))) fun s2 =>
    oC (f_X12_next s2) fun w5 =>
    oL w5 fun s4 =>
    some s4)
  else (
    some s0)
set_option maxHeartbeats 4000000 in
set_option maxRecDepth 100000 in
theorem T_X12_number_37 {z1 : St} (C : Cx p rm_X12_number s m args c D A cX12_number 3 RX12 rm_X12_number N) (hE : En p l e rm_X12_number s m args below meth c Q D A cX12_number .return_ (wR N z1) [])  (s0 : St) (x1 : Int32) (h : F_X12_number_37 s0 x1 = some z1) : Aw p l e rm_X12_number s m args below meth c Q D A 3 (wR N s0) 37 [(0, .ref (N.1 0)), (1, .int x1)] [] := by
  unfold F_X12_number_37 at h
  refine aw_aload_n C 0 dX12_number_37 rfl ?_
  refine rg_md_fault C lw_17_19 dX12_number_38 ?_
  refine aw_if_eq (tgt := 45) C dX12_number_41 (by decide) (fun q => ?_) (fun q => ?_)
  · have h := bq_t q h
    refine aw_aload_n C 0 dX12_number_45 rfl ?_
    refine rg_md_rule C lw_8_3 dX12_number_46 ?_
    refine aw_bipush (v := 6) C dX12_number_49 (by decide) ?_
    refine aw_iload_n C 1 dX12_number_51 rfl ?_
    refine aw_iadd C dX12_number_52 ?_
    refine aw_aload_n C 0 dX12_number_53 rfl ?_
    refine rg_md_value C lw_18_11 dX12_number_54 ?_
    obtain ⟨q1, h⟩ := oA_e h
    refine ra_iast (k := 3) C (by decide) rfl q1 dX12_number_57 ?_
    refine ra_name (fun s2 es2 => ?_)
    have h := oL_e es2 h
    refine aw_aload_n C 0 dX12_number_58 rfl ?_
    obtain ⟨s4, cw5, h⟩ := oC_e h
    have h := oL_e (x := s4) rfl h
    refine aw_callVv (n := 0) (As := []) (rest := []) (q0 := 0) C (c_X12_next l D N s2 s4 cw5) lw_18_6 lw_18_7 lw_18_8 lw_1_5 lw_18_9 rfl rfl (by decide +kernel) ⟨Nat.le_of_ble_eq_true rfl, Nat.le_of_ble_eq_true rfl⟩ rfl rfl rfl rfl rfl (Nat.le_of_ble_eq_true rfl) dX12_number_59 ?_
    cases h
    exact aw_ret hE dX12_number_62
  · have h := bq_f q h
    cases h
    exact aw_ret hE dX12_number_44
def F_X12_number_0 (s0 : St) (x1 : Int32) (x2 : Int32) : Option (St) :=
  if (s0.1 13) = 0 then (
    if (s0.1 11) = (1 : Int32) then (
      if (s0.1 12) ≤ x2 then (
        F_X12_number_37 s0 x1)
      else (
        oC (f_X12_wrong s0 (2 : Int32)) fun w3 =>
        oL w3 fun s2 =>
        F_X12_number_37 s2 x1))
    else (
      oC (f_X12_wrong s0 (1 : Int32)) fun w6 =>
      oL w6 fun s5 =>
      F_X12_number_37 s5 x1))
  else (
    some s0)
set_option maxHeartbeats 4000000 in
set_option maxRecDepth 100000 in
theorem T_X12_number_0 {z1 : St} (C : Cx p rm_X12_number s m args c D A cX12_number 3 RX12 rm_X12_number N) (hE : En p l e rm_X12_number s m args below meth c Q D A cX12_number .return_ (wR N z1) [])  (s0 : St) (x1 : Int32) (x2 : Int32) (h : F_X12_number_0 s0 x1 x2 = some z1) : Aw p l e rm_X12_number s m args below meth c Q D A 3 (wR N s0) 0 [(0, .ref (N.1 0)), (1, .int x1), (2, .int x2)] [] := by
  unfold F_X12_number_0 at h
  refine aw_aload_n C 0 dX12_number_0 rfl ?_
  refine rg_md_fault C lw_17_19 dX12_number_1 ?_
  refine aw_if_eq (tgt := 8) C dX12_number_4 (by decide) (fun q => ?_) (fun q => ?_)
  · have h := bq_t q h
    refine aw_aload_n C 0 dX12_number_8 rfl ?_
    refine rg_md_sort C lw_18_1 dX12_number_9 ?_
    refine aw_iconst (v := 1) C dX12_number_12 (by decide) ?_
    refine aw_icmp_eq (tgt := 24) C dX12_number_13 (by decide) (fun q => ?_) (fun q => ?_)
    · have h := bq_t q h
      refine aw_aload_n C 0 dX12_number_24 rfl ?_
      refine rg_md_value C lw_18_11 dX12_number_25 ?_
      refine aw_iload_n C 2 dX12_number_28 rfl ?_
      refine aw_icmp_le (tgt := 37) C dX12_number_29 (by decide) (fun q => ?_) (fun q => ?_)
      · have h := bq_t q h
        refine aw_sub (lv' := [(0, .ref (N.1 0)), (1, .int x1)]) [0, 1] rfl ?_
        exact T_X12_number_37 C hE s0 x1 h
      · have h := bq_f q h
        refine aw_aload_n C 0 dX12_number_32 rfl ?_
        refine aw_iconst (v := 2) C dX12_number_33 (by decide) ?_
        obtain ⟨s2, cw3, h⟩ := oC_e h
        have h := oL_e (x := s2) rfl h
        refine aw_callVv (n := 1) (As := [.int (2 : Int32)]) (rest := []) (q0 := 0) C (c_X12_wrong l D N s0 s2 (2 : Int32) cw3) lw_19_8 lw_19_9 lw_19_10 lw_1_5 lw_19_11 rfl rfl (by decide +kernel) ⟨Nat.le_of_ble_eq_true rfl, Nat.le_of_ble_eq_true rfl⟩ rfl rfl rfl rfl rfl (Nat.le_of_ble_eq_true rfl) dX12_number_34 ?_
        refine aw_sub (lv' := [(0, .ref (N.1 0)), (1, .int x1)]) [0, 1] rfl ?_
        exact T_X12_number_37 C hE s2 x1 h
    · have h := bq_f q h
      refine aw_aload_n C 0 dX12_number_16 rfl ?_
      refine aw_iconst (v := 1) C dX12_number_17 (by decide) ?_
      obtain ⟨s5, cw6, h⟩ := oC_e h
      have h := oL_e (x := s5) rfl h
      refine aw_callVv (n := 1) (As := [.int (1 : Int32)]) (rest := []) (q0 := 0) C (c_X12_wrong l D N s0 s5 (1 : Int32) cw6) lw_19_8 lw_19_9 lw_19_10 lw_1_5 lw_19_11 rfl rfl (by decide +kernel) ⟨Nat.le_of_ble_eq_true rfl, Nat.le_of_ble_eq_true rfl⟩ rfl rfl rfl rfl rfl (Nat.le_of_ble_eq_true rfl) dX12_number_18 ?_
      refine aw_goto (tgt := 37) C dX12_number_21 (by decide) ?_
      refine aw_sub (lv' := [(0, .ref (N.1 0)), (1, .int x1)]) [0, 1] rfl ?_
      exact T_X12_number_37 C hE s5 x1 h
  · have h := bq_f q h
    cases h
    exact aw_ret hE dX12_number_7
def f_X12_number (s0 : St) (x1 : Int32) (x2 : Int32) : Option (St) := F_X12_number_0 s0 x1 x2
theorem c_X12_number (l : Launch) (D : va_G) (N : Nm) (s0 z1 : St) (x1 : Int32) (x2 : Int32) (h : f_X12_number s0 x1 x2 = some z1) : Metv l yX12_number (tsU yX12_number cX12_number 3 none) rm_X12_number D N [.ref (N.1 0), .int x1, .int x2] (wR N s0) (wR N z1) :=
  met_v (cc := cX12_number) (nL := 3) (own := RX12) (by decide) rfl (Nat.le_of_ble_eq_true rfl) (fun p e s m args below meth c Q A C hE => aw_sub [0, 1, 2] rfl (T_X12_number_0 C hE s0 x1 x2 h))
/-! AwardLineModel.once(II)Z -/
def rm_X12_once : Room := { frames := 1, cells := 0, slots := 0, locals := 21 }
def F_X12_once_51 (s0 : St) : Option (Int32 × St) :=
  if (s0.1 13) = 0 then (
    oL (sI s0 7 ((s0.1 7) ||| ((1 : Int32) <<< ((s0.1 12) &&& 31)))) fun s1 =>
    some ((1 : Int32), s1))
  else (
    some ((0 : Int32), s0))
set_option maxHeartbeats 4000000 in
set_option maxRecDepth 100000 in
theorem T_X12_once_51 {r : Int32} {z1 : St} (C : Cx p rm_X12_once s m args c D A cX12_once 3 RX12 rm_X12_once N) (hE : En p l e rm_X12_once s m args below meth c Q D A cX12_once .ireturn (wR N z1) [.int r])  (s0 : St) (h : F_X12_once_51 s0 = some (r, z1)) : Aw p l e rm_X12_once s m args below meth c Q D A 3 (wR N s0) 51 [(0, .ref (N.1 0))] [] := by
  unfold F_X12_once_51 at h
  refine aw_aload_n C 0 dX12_once_51 rfl ?_
  refine rg_md_fault C lw_17_19 dX12_once_52 ?_
  refine aw_if_eq (tgt := 60) C dX12_once_55 (by decide) (fun q => ?_) (fun q => ?_)
  · have h := bq_t q h
    refine aw_aload_n C 0 dX12_once_60 rfl ?_
    refine aw_dup C dX12_once_61 rfl ?_
    refine rg_md_told C lw_18_0 dX12_once_62 ?_
    refine aw_iconst (v := 1) C dX12_once_65 (by decide) ?_
    refine aw_aload_n C 0 dX12_once_66 rfl ?_
    refine rg_md_value C lw_18_11 dX12_once_67 ?_
    refine aw_ishl C dX12_once_70 ?_
    refine aw_ior C dX12_once_71 ?_
    refine rp_md_told C lw_18_0 dX12_once_72 ?_
    refine ra_name (fun s1 es1 => ?_)
    have h := oL_e es1 h
    refine aw_iconst (v := 1) C dX12_once_75 (by decide) ?_
    cases h
    exact aw_ret hE dX12_once_76
  · have h := bq_f q h
    refine aw_iconst (v := 0) C dX12_once_58 (by decide) ?_
    cases h
    exact aw_ret hE dX12_once_59
def F_X12_once_23 (s0 : St) : Option (Int32 × St) :=
  oC (f_X12_wrong s0 (1 : Int32)) fun w3 =>
  oL w3 fun s2 =>
  F_X12_once_51 s2
set_option maxHeartbeats 4000000 in
set_option maxRecDepth 100000 in
theorem T_X12_once_23 {r : Int32} {z1 : St} (C : Cx p rm_X12_once s m args c D A cX12_once 3 RX12 rm_X12_once N) (hE : En p l e rm_X12_once s m args below meth c Q D A cX12_once .ireturn (wR N z1) [.int r])  (s0 : St) (h : F_X12_once_23 s0 = some (r, z1)) : Aw p l e rm_X12_once s m args below meth c Q D A 3 (wR N s0) 23 [(0, .ref (N.1 0))] [] := by
  unfold F_X12_once_23 at h
  refine aw_aload_n C 0 dX12_once_23 rfl ?_
  refine aw_iconst (v := 1) C dX12_once_24 (by decide) ?_
  obtain ⟨s2, cw3, h⟩ := oC_e h
  have h := oL_e (x := s2) rfl h
  refine aw_callVv (n := 1) (As := [.int (1 : Int32)]) (rest := []) (q0 := 0) C (c_X12_wrong l D N s0 s2 (1 : Int32) cw3) lw_19_8 lw_19_9 lw_19_10 lw_1_5 lw_19_11 rfl rfl (by decide +kernel) ⟨Nat.le_of_ble_eq_true rfl, Nat.le_of_ble_eq_true rfl⟩ rfl rfl rfl rfl rfl (Nat.le_of_ble_eq_true rfl) dX12_once_25 ?_
  refine aw_goto (tgt := 51) C dX12_once_28 (by decide) ?_
  refine aw_sub (lv' := [(0, .ref (N.1 0))]) [0] rfl ?_
  exact T_X12_once_51 C hE s2 h
def F_X12_once_0 (s0 : St) (x1 : Int32) (x2 : Int32) : Option (Int32 × St) :=
  if (s0.1 11) = 0 then (
    if (s0.1 12) < x1 then (
      F_X12_once_23 s0)
    else (
      if (s0.1 12) ≤ x2 then (
        if ((s0.1 7) >>> ((s0.1 12) &&& 31)) &&& (1 : Int32) = (1 : Int32) then (
          oC (f_X12_wrong s0 (3 : Int32)) fun w3 =>
          oL w3 fun s2 =>
          F_X12_once_51 s2)
        else (
          F_X12_once_51 s0))
      else (
        F_X12_once_23 s0)))
  else (
    F_X12_once_23 s0)
set_option maxHeartbeats 4000000 in
set_option maxRecDepth 100000 in
theorem T_X12_once_0 {r : Int32} {z1 : St} (C : Cx p rm_X12_once s m args c D A cX12_once 3 RX12 rm_X12_once N) (hE : En p l e rm_X12_once s m args below meth c Q D A cX12_once .ireturn (wR N z1) [.int r])  (s0 : St) (x1 : Int32) (x2 : Int32) (h : F_X12_once_0 s0 x1 x2 = some (r, z1)) : Aw p l e rm_X12_once s m args below meth c Q D A 3 (wR N s0) 0 [(0, .ref (N.1 0)), (1, .int x1), (2, .int x2)] [] := by
  unfold F_X12_once_0 at h
  refine aw_aload_n C 0 dX12_once_0 rfl ?_
  refine rg_md_sort C lw_18_1 dX12_once_1 ?_
  refine aw_if_ne (tgt := 23) C dX12_once_4 (by decide) (fun q => ?_) (fun q => ?_)
  · have h := bq_f q h
    refine aw_sub (lv' := [(0, .ref (N.1 0))]) [0] rfl ?_
    exact T_X12_once_23 C hE s0 h
  · have h := bq_t q h
    refine aw_aload_n C 0 dX12_once_7 rfl ?_
    refine rg_md_value C lw_18_11 dX12_once_8 ?_
    refine aw_iload_n C 1 dX12_once_11 rfl ?_
    refine aw_icmp_lt (tgt := 23) C dX12_once_12 (by decide) (fun q => ?_) (fun q => ?_)
    · have h := bq_t q h
      refine aw_sub (lv' := [(0, .ref (N.1 0))]) [0] rfl ?_
      exact T_X12_once_23 C hE s0 h
    · have h := bq_f q h
      refine aw_aload_n C 0 dX12_once_15 rfl ?_
      refine rg_md_value C lw_18_11 dX12_once_16 ?_
      refine aw_iload_n C 2 dX12_once_19 rfl ?_
      refine aw_icmp_le (tgt := 31) C dX12_once_20 (by decide) (fun q => ?_) (fun q => ?_)
      · have h := bq_t q h
        refine aw_aload_n C 0 dX12_once_31 rfl ?_
        refine rg_md_told C lw_18_0 dX12_once_32 ?_
        refine aw_aload_n C 0 dX12_once_35 rfl ?_
        refine rg_md_value C lw_18_11 dX12_once_36 ?_
        refine aw_ishr C dX12_once_39 ?_
        refine aw_iconst (v := 1) C dX12_once_40 (by decide) ?_
        refine aw_iand C dX12_once_41 ?_
        refine aw_iconst (v := 1) C dX12_once_42 (by decide) ?_
        refine aw_icmp_ne (tgt := 51) C dX12_once_43 (by decide) (fun q => ?_) (fun q => ?_)
        · have h := bq_f q h
          refine aw_sub (lv' := [(0, .ref (N.1 0))]) [0] rfl ?_
          exact T_X12_once_51 C hE s0 h
        · have h := bq_t q h
          refine aw_aload_n C 0 dX12_once_46 rfl ?_
          refine aw_iconst (v := 3) C dX12_once_47 (by decide) ?_
          obtain ⟨s2, cw3, h⟩ := oC_e h
          have h := oL_e (x := s2) rfl h
          refine aw_callVv (n := 1) (As := [.int (3 : Int32)]) (rest := []) (q0 := 0) C (c_X12_wrong l D N s0 s2 (3 : Int32) cw3) lw_19_8 lw_19_9 lw_19_10 lw_1_5 lw_19_11 rfl rfl (by decide +kernel) ⟨Nat.le_of_ble_eq_true rfl, Nat.le_of_ble_eq_true rfl⟩ rfl rfl rfl rfl rfl (Nat.le_of_ble_eq_true rfl) dX12_once_48 ?_
          refine aw_sub (lv' := [(0, .ref (N.1 0))]) [0] rfl ?_
          exact T_X12_once_51 C hE s2 h
      · have h := bq_f q h
        refine aw_sub (lv' := [(0, .ref (N.1 0))]) [0] rfl ?_
        exact T_X12_once_23 C hE s0 h
def f_X12_once (s0 : St) (x1 : Int32) (x2 : Int32) : Option (Int32 × St) := oC (F_X12_once_0 s0 x1 x2) fun w => oZ w.1 (some w)
theorem c_X12_once (l : Launch) (D : va_G) (N : Nm) (s0 z1 : St) (x1 : Int32) (x2 : Int32) (r : Int32) (h : f_X12_once s0 x1 x2 = some (r, z1)) : Meti l yX12_once (tsU yX12_once cX12_once 3 (some .boolean)) rm_X12_once D N [.ref (N.1 0), .int x1, .int x2] (wR N s0) r (wR N z1) := by
  obtain ⟨w, h1, h2⟩ := oC_e h
  obtain ⟨hz, h2⟩ := oZ_e h2
  cases h2
  exact met_z (cc := cX12_once) (nL := 3) (own := RX12) (by decide) rfl (Nat.le_of_ble_eq_true rfl) (zN hz) (fun p e s m args below meth c Q A C hE => aw_sub [0, 1, 2] rfl (T_X12_once_0 C hE s0 x1 x2 h1))
/-! AwardLineModel.unit()V -/
def rm_X12_unit : Room := { frames := 6, cells := 0, slots := 0, locals := 129 }
def F_X12_unit_24 (s0 : St) : Option (St) :=
  oC (f_X12_wrong s0 (1 : Int32)) fun w3 =>
  oL w3 fun s2 =>
  some s2
set_option maxHeartbeats 4000000 in
set_option maxRecDepth 100000 in
theorem T_X12_unit_24 {z1 : St} (C : Cx p rm_X12_unit s m args c D A cX12_unit 1 RX12 rm_X12_unit N) (hE : En p l e rm_X12_unit s m args below meth c Q D A cX12_unit .return_ (wR N z1) [])  (s0 : St) (h : F_X12_unit_24 s0 = some z1) : Aw p l e rm_X12_unit s m args below meth c Q D A 1 (wR N s0) 24 [(0, .ref (N.1 0))] [] := by
  unfold F_X12_unit_24 at h
  refine aw_aload_n C 0 dX12_unit_24 rfl ?_
  refine aw_iconst (v := 1) C dX12_unit_25 (by decide) ?_
  obtain ⟨s2, cw3, h⟩ := oC_e h
  have h := oL_e (x := s2) rfl h
  refine aw_callVv (n := 1) (As := [.int (1 : Int32)]) (rest := []) (q0 := 0) C (c_X12_wrong l D N s0 s2 (1 : Int32) cw3) lw_19_8 lw_19_9 lw_19_10 lw_1_5 lw_19_11 rfl rfl (by decide +kernel) ⟨Nat.le_of_ble_eq_true rfl, Nat.le_of_ble_eq_true rfl⟩ rfl rfl rfl rfl rfl (Nat.le_of_ble_eq_true rfl) dX12_unit_26 ?_
  cases h
  exact aw_ret hE dX12_unit_29
def F_X12_unit_0 (s0 : St) : Option (St) :=
  if (s0.1 11) = 0 then (
    if (s0.1 12) < (5 : Int32) then (
      F_X12_unit_24 s0)
    else (
      if (s0.1 12) ≤ (7 : Int32) then (
        oA (6 : Int32) 12 <|
        oL (sA s0 3 (upd (s0.2.1 3) (Int32.toNatClampNeg (6 : Int32)) ((s0.1 12) - (5 : Int32)))) fun s2 =>
        oC (f_X12_next s2) fun w5 =>
        oL w5 fun s4 =>
        some s4)
      else (
        F_X12_unit_24 s0)))
  else (
    F_X12_unit_24 s0)
set_option maxHeartbeats 4000000 in
set_option maxRecDepth 100000 in
theorem T_X12_unit_0 {z1 : St} (C : Cx p rm_X12_unit s m args c D A cX12_unit 1 RX12 rm_X12_unit N) (hE : En p l e rm_X12_unit s m args below meth c Q D A cX12_unit .return_ (wR N z1) [])  (s0 : St) (h : F_X12_unit_0 s0 = some z1) : Aw p l e rm_X12_unit s m args below meth c Q D A 1 (wR N s0) 0 [(0, .ref (N.1 0))] [] := by
  unfold F_X12_unit_0 at h
  refine aw_aload_n C 0 dX12_unit_0 rfl ?_
  refine rg_md_sort C lw_18_1 dX12_unit_1 ?_
  refine aw_if_ne (tgt := 24) C dX12_unit_4 (by decide) (fun q => ?_) (fun q => ?_)
  · have h := bq_f q h
    refine aw_sub (lv' := [(0, .ref (N.1 0))]) [0] rfl ?_
    exact T_X12_unit_24 C hE s0 h
  · have h := bq_t q h
    refine aw_aload_n C 0 dX12_unit_7 rfl ?_
    refine rg_md_value C lw_18_11 dX12_unit_8 ?_
    refine aw_iconst (v := 5) C dX12_unit_11 (by decide) ?_
    refine aw_icmp_lt (tgt := 24) C dX12_unit_12 (by decide) (fun q => ?_) (fun q => ?_)
    · have h := bq_t q h
      refine aw_sub (lv' := [(0, .ref (N.1 0))]) [0] rfl ?_
      exact T_X12_unit_24 C hE s0 h
    · have h := bq_f q h
      refine aw_aload_n C 0 dX12_unit_15 rfl ?_
      refine rg_md_value C lw_18_11 dX12_unit_16 ?_
      refine aw_bipush (v := 7) C dX12_unit_19 (by decide) ?_
      refine aw_icmp_le (tgt := 30) C dX12_unit_21 (by decide) (fun q => ?_) (fun q => ?_)
      · have h := bq_t q h
        refine aw_aload_n C 0 dX12_unit_30 rfl ?_
        refine rg_md_rule C lw_8_3 dX12_unit_31 ?_
        refine aw_bipush (v := 6) C dX12_unit_34 (by decide) ?_
        refine aw_aload_n C 0 dX12_unit_36 rfl ?_
        refine rg_md_value C lw_18_11 dX12_unit_37 ?_
        refine aw_iconst (v := 5) C dX12_unit_40 (by decide) ?_
        refine aw_isub C dX12_unit_41 ?_
        obtain ⟨q1, h⟩ := oA_e h
        refine ra_iast (k := 3) C (by decide) rfl q1 dX12_unit_42 ?_
        refine ra_name (fun s2 es2 => ?_)
        have h := oL_e es2 h
        refine aw_aload_n C 0 dX12_unit_43 rfl ?_
        obtain ⟨s4, cw5, h⟩ := oC_e h
        have h := oL_e (x := s4) rfl h
        refine aw_callVv (n := 0) (As := []) (rest := []) (q0 := 0) C (c_X12_next l D N s2 s4 cw5) lw_18_6 lw_18_7 lw_18_8 lw_1_5 lw_18_9 rfl rfl (by decide +kernel) ⟨Nat.le_of_ble_eq_true rfl, Nat.le_of_ble_eq_true rfl⟩ rfl rfl rfl rfl rfl (Nat.le_of_ble_eq_true rfl) dX12_unit_44 ?_
        cases h
        exact aw_ret hE dX12_unit_47
      · have h := bq_f q h
        refine aw_sub (lv' := [(0, .ref (N.1 0))]) [0] rfl ?_
        exact T_X12_unit_24 C hE s0 h
def f_X12_unit (s0 : St) : Option (St) := F_X12_unit_0 s0
theorem c_X12_unit (l : Launch) (D : va_G) (N : Nm) (s0 z1 : St) (h : f_X12_unit s0 = some z1) : Metv l yX12_unit (tsU yX12_unit cX12_unit 1 none) rm_X12_unit D N [.ref (N.1 0)] (wR N s0) (wR N z1) :=
  met_v (cc := cX12_unit) (nL := 1) (own := RX12) (by decide) rfl (Nat.le_of_ble_eq_true rfl) (fun p e s m args below meth c Q A C hE => aw_sub [0] rfl (T_X12_unit_0 C hE s0 h))
/-! AwardLineModel.bind(I)I -/
def rm_X12_bind : Room := { frames := 0, cells := 0, slots := 0, locals := 0 }
def F_X12_bind_126 (s0 : St) : Option (Int32 × St) :=
  some ((6 : Int32), s0)
set_option maxHeartbeats 4000000 in
set_option maxRecDepth 100000 in
theorem T_X12_bind_126 {r : Int32} {z1 : St} (C : Cx p rm_X12_bind s m args c D A cX12_bind 1 RX12 rm_X12_bind N) (hE : En p l e rm_X12_bind s m args below meth c Q D A cX12_bind .ireturn (wR N z1) [.int r])  (s0 : St) (h : F_X12_bind_126 s0 = some (r, z1)) : Aw p l e rm_X12_bind s m args below meth c Q D A 1 (wR N s0) 126 [] [] := by
  unfold F_X12_bind_126 at h
  refine aw_bipush (v := 6) C dX12_bind_126 (by decide) ?_
  cases h
  exact aw_ret hE dX12_bind_128
def F_X12_bind_124 (s0 : St) : Option (Int32 × St) :=
  some ((5 : Int32), s0)
set_option maxHeartbeats 4000000 in
set_option maxRecDepth 100000 in
theorem T_X12_bind_124 {r : Int32} {z1 : St} (C : Cx p rm_X12_bind s m args c D A cX12_bind 1 RX12 rm_X12_bind N) (hE : En p l e rm_X12_bind s m args below meth c Q D A cX12_bind .ireturn (wR N z1) [.int r])  (s0 : St) (h : F_X12_bind_124 s0 = some (r, z1)) : Aw p l e rm_X12_bind s m args below meth c Q D A 1 (wR N s0) 124 [] [] := by
  unfold F_X12_bind_124 at h
  refine aw_iconst (v := 5) C dX12_bind_124 (by decide) ?_
  cases h
  exact aw_ret hE dX12_bind_125
def F_X12_bind_122 (s0 : St) : Option (Int32 × St) :=
  some ((4 : Int32), s0)
set_option maxHeartbeats 4000000 in
set_option maxRecDepth 100000 in
theorem T_X12_bind_122 {r : Int32} {z1 : St} (C : Cx p rm_X12_bind s m args c D A cX12_bind 1 RX12 rm_X12_bind N) (hE : En p l e rm_X12_bind s m args below meth c Q D A cX12_bind .ireturn (wR N z1) [.int r])  (s0 : St) (h : F_X12_bind_122 s0 = some (r, z1)) : Aw p l e rm_X12_bind s m args below meth c Q D A 1 (wR N s0) 122 [] [] := by
  unfold F_X12_bind_122 at h
  refine aw_iconst (v := 4) C dX12_bind_122 (by decide) ?_
  cases h
  exact aw_ret hE dX12_bind_123
def F_X12_bind_0 (s0 : St) (x0 : Int32) : Option (Int32 × St) :=
  if x0 = 42 then (
    F_X12_bind_126 s0)
  else (
  if x0 = 43 then (
    F_X12_bind_124 s0)
  else (
  if x0 = 45 then (
    F_X12_bind_124 s0)
  else (
  if x0 = 47 then (
    F_X12_bind_126 s0)
  else (
  if x0 = 60 then (
    F_X12_bind_122 s0)
  else (
  if x0 = 61 then (
    F_X12_bind_122 s0)
  else (
  if x0 = 62 then (
    F_X12_bind_122 s0)
  else (
  if x0 = 256 then (
    F_X12_bind_122 s0)
  else (
  if x0 = 257 then (
    F_X12_bind_122 s0)
  else (
  if x0 = 258 then (
    F_X12_bind_122 s0)
  else (
  if x0 = 260 then (
    some ((3 : Int32), s0))
  else (
  if x0 = 261 then (
    some ((2 : Int32), s0))
  else (
  if x0 = 262 then (
    some ((1 : Int32), s0))
  else (
    some ((0 : Int32), s0))))))))))))))
set_option maxHeartbeats 4000000 in
set_option maxRecDepth 100000 in
theorem T_X12_bind_0 {r : Int32} {z1 : St} (C : Cx p rm_X12_bind s m args c D A cX12_bind 1 RX12 rm_X12_bind N) (hE : En p l e rm_X12_bind s m args below meth c Q D A cX12_bind .ireturn (wR N z1) [.int r])  (s0 : St) (x0 : Int32) (h : F_X12_bind_0 s0 x0 = some (r, z1)) : Aw p l e rm_X12_bind s m args below meth c Q D A 1 (wR N s0) 0 [(0, .int x0)] [] := by
  unfold F_X12_bind_0 at h
  refine aw_iload_n C 0 dX12_bind_0 rfl ?_
  by_cases q0 : x0 = (42 : Int32)
  · have h := bq_t q0 h
    refine aw_lookup (tgt := 126) C 125 dX12_bind_1 (by decide) (by rw [q0]; decide) (by decide) ?_
    refine aw_sub (lv' := []) [] rfl ?_
    exact T_X12_bind_126 C hE s0 h
  have h := bq_f q0 h
  by_cases q1 : x0 = (43 : Int32)
  · have h := bq_t q1 h
    refine aw_lookup (tgt := 124) C 123 dX12_bind_1 (by decide) (by rw [q1]; decide) (by decide) ?_
    refine aw_sub (lv' := []) [] rfl ?_
    exact T_X12_bind_124 C hE s0 h
  have h := bq_f q1 h
  by_cases q2 : x0 = (45 : Int32)
  · have h := bq_t q2 h
    refine aw_lookup (tgt := 124) C 123 dX12_bind_1 (by decide) (by rw [q2]; decide) (by decide) ?_
    refine aw_sub (lv' := []) [] rfl ?_
    exact T_X12_bind_124 C hE s0 h
  have h := bq_f q2 h
  by_cases q3 : x0 = (47 : Int32)
  · have h := bq_t q3 h
    refine aw_lookup (tgt := 126) C 125 dX12_bind_1 (by decide) (by rw [q3]; decide) (by decide) ?_
    refine aw_sub (lv' := []) [] rfl ?_
    exact T_X12_bind_126 C hE s0 h
  have h := bq_f q3 h
  by_cases q4 : x0 = (60 : Int32)
  · have h := bq_t q4 h
    refine aw_lookup (tgt := 122) C 121 dX12_bind_1 (by decide) (by rw [q4]; decide) (by decide) ?_
    refine aw_sub (lv' := []) [] rfl ?_
    exact T_X12_bind_122 C hE s0 h
  have h := bq_f q4 h
  by_cases q5 : x0 = (61 : Int32)
  · have h := bq_t q5 h
    refine aw_lookup (tgt := 122) C 121 dX12_bind_1 (by decide) (by rw [q5]; decide) (by decide) ?_
    refine aw_sub (lv' := []) [] rfl ?_
    exact T_X12_bind_122 C hE s0 h
  have h := bq_f q5 h
  by_cases q6 : x0 = (62 : Int32)
  · have h := bq_t q6 h
    refine aw_lookup (tgt := 122) C 121 dX12_bind_1 (by decide) (by rw [q6]; decide) (by decide) ?_
    refine aw_sub (lv' := []) [] rfl ?_
    exact T_X12_bind_122 C hE s0 h
  have h := bq_f q6 h
  by_cases q7 : x0 = (256 : Int32)
  · have h := bq_t q7 h
    refine aw_lookup (tgt := 122) C 121 dX12_bind_1 (by decide) (by rw [q7]; decide) (by decide) ?_
    refine aw_sub (lv' := []) [] rfl ?_
    exact T_X12_bind_122 C hE s0 h
  have h := bq_f q7 h
  by_cases q8 : x0 = (257 : Int32)
  · have h := bq_t q8 h
    refine aw_lookup (tgt := 122) C 121 dX12_bind_1 (by decide) (by rw [q8]; decide) (by decide) ?_
    refine aw_sub (lv' := []) [] rfl ?_
    exact T_X12_bind_122 C hE s0 h
  have h := bq_f q8 h
  by_cases q9 : x0 = (258 : Int32)
  · have h := bq_t q9 h
    refine aw_lookup (tgt := 122) C 121 dX12_bind_1 (by decide) (by rw [q9]; decide) (by decide) ?_
    refine aw_sub (lv' := []) [] rfl ?_
    exact T_X12_bind_122 C hE s0 h
  have h := bq_f q9 h
  by_cases q10 : x0 = (260 : Int32)
  · have h := bq_t q10 h
    refine aw_lookup (tgt := 120) C 119 dX12_bind_1 (by decide) (by rw [q10]; decide) (by decide) ?_
    refine aw_iconst (v := 3) C dX12_bind_120 (by decide) ?_
    cases h
    exact aw_ret hE dX12_bind_121
  have h := bq_f q10 h
  by_cases q11 : x0 = (261 : Int32)
  · have h := bq_t q11 h
    refine aw_lookup (tgt := 118) C 117 dX12_bind_1 (by decide) (by rw [q11]; decide) (by decide) ?_
    refine aw_iconst (v := 2) C dX12_bind_118 (by decide) ?_
    cases h
    exact aw_ret hE dX12_bind_119
  have h := bq_f q11 h
  by_cases q12 : x0 = (262 : Int32)
  · have h := bq_t q12 h
    refine aw_lookup (tgt := 116) C 115 dX12_bind_1 (by decide) (by rw [q12]; decide) (by decide) ?_
    refine aw_iconst (v := 1) C dX12_bind_116 (by decide) ?_
    cases h
    exact aw_ret hE dX12_bind_117
  have h := bq_f q12 h
  refine aw_lookup (tgt := 129) C 128 dX12_bind_1 (by decide) (by have n0 := sw_ne (k := 42) (by decide) q0; have n1 := sw_ne (k := 43) (by decide) q1; have n2 := sw_ne (k := 45) (by decide) q2; have n3 := sw_ne (k := 47) (by decide) q3; have n4 := sw_ne (k := 60) (by decide) q4; have n5 := sw_ne (k := 61) (by decide) q5; have n6 := sw_ne (k := 62) (by decide) q6; have n7 := sw_ne (k := 256) (by decide) q7; have n8 := sw_ne (k := 257) (by decide) q8; have n9 := sw_ne (k := 258) (by decide) q9; have n10 := sw_ne (k := 260) (by decide) q10; have n11 := sw_ne (k := 261) (by decide) q11; have n12 := sw_ne (k := 262) (by decide) q12; simp only [Op.lookupswitch.offset]; rw [if_neg (fun e => n0 e.symm)]; rw [if_neg (fun e => n1 e.symm)]; rw [if_neg (fun e => n2 e.symm)]; rw [if_neg (fun e => n3 e.symm)]; rw [if_neg (fun e => n4 e.symm)]; rw [if_neg (fun e => n5 e.symm)]; rw [if_neg (fun e => n6 e.symm)]; rw [if_neg (fun e => n7 e.symm)]; rw [if_neg (fun e => n8 e.symm)]; rw [if_neg (fun e => n9 e.symm)]; rw [if_neg (fun e => n10 e.symm)]; rw [if_neg (fun e => n11 e.symm)]; rw [if_neg (fun e => n12 e.symm)]) (by decide) ?_
  refine aw_iconst (v := 0) C dX12_bind_129 (by decide) ?_
  cases h
  exact aw_ret hE dX12_bind_130
def f_X12_bind (s0 : St) (x0 : Int32) : Option (Int32 × St) := F_X12_bind_0 s0 x0
theorem c_X12_bind (l : Launch) (D : va_G) (N : Nm) (s0 z1 : St) (x0 : Int32) (r : Int32) (h : f_X12_bind s0 x0 = some (r, z1)) : Meti l yX12_bind (tsU yX12_bind cX12_bind 1 (some .int)) rm_X12_bind D N [.int x0] (wR N s0) r (wR N z1) :=
  met_i (cc := cX12_bind) (nL := 1) (own := RX12) (by decide) rfl (Nat.le_of_ble_eq_true rfl) (fun p e s m args below meth c Q A C hE => aw_sub [0] rfl (T_X12_bind_0 C hE s0 x0 h))
/-! AwardLineModel.knot()V -/
def rm_X12_knot : Room := { frames := 1, cells := 0, slots := 0, locals := 21 }
def F_X12_knot_27 (s0 : St) : Option (St) :=
  some s0
set_option maxHeartbeats 4000000 in
set_option maxRecDepth 100000 in
theorem T_X12_knot_27 {z1 : St} (C : Cx p rm_X12_knot s m args c D A cX12_knot 1 RX12 rm_X12_knot N) (hE : En p l e rm_X12_knot s m args below meth c Q D A cX12_knot .return_ (wR N z1) [])  (s0 : St) (h : F_X12_knot_27 s0 = some z1) : Aw p l e rm_X12_knot s m args below meth c Q D A 1 (wR N s0) 27 [] [] := by
  unfold F_X12_knot_27 at h
  cases h
  exact aw_ret hE dX12_knot_27
def F_X12_knot_0 (s0 : St) : Option (St) :=
  if (s0.1 5) = (64 : Int32) then (
    oC (f_X12_wrong s0 (2 : Int32)) fun w4 =>
    oL w4 fun s3 =>
    F_X12_knot_27 s3)
  else (
    oL (sI s0 5 ((s0.1 5) + (1 : Int32))) fun s1 =>
    F_X12_knot_27 s1)
set_option maxHeartbeats 4000000 in
set_option maxRecDepth 100000 in
theorem T_X12_knot_0 {z1 : St} (C : Cx p rm_X12_knot s m args c D A cX12_knot 1 RX12 rm_X12_knot N) (hE : En p l e rm_X12_knot s m args below meth c Q D A cX12_knot .return_ (wR N z1) [])  (s0 : St) (h : F_X12_knot_0 s0 = some z1) : Aw p l e rm_X12_knot s m args below meth c Q D A 1 (wR N s0) 0 [(0, .ref (N.1 0))] [] := by
  unfold F_X12_knot_0 at h
  refine aw_aload_n C 0 dX12_knot_0 rfl ?_
  refine rg_md_counted C lw_17_21 dX12_knot_1 ?_
  refine aw_bipush (v := 64) C dX12_knot_4 (by decide) ?_
  refine aw_icmp_ne (tgt := 17) C dX12_knot_6 (by decide) (fun q => ?_) (fun q => ?_)
  · have h := bq_f q h
    refine aw_aload_n C 0 dX12_knot_17 rfl ?_
    refine aw_dup C dX12_knot_18 rfl ?_
    refine rg_md_counted C lw_17_21 dX12_knot_19 ?_
    refine aw_iconst (v := 1) C dX12_knot_22 (by decide) ?_
    refine aw_iadd C dX12_knot_23 ?_
    refine rp_md_counted C lw_17_21 dX12_knot_24 ?_
    refine ra_name (fun s1 es1 => ?_)
    have h := oL_e es1 h
    refine aw_sub (lv' := []) [] rfl ?_
    exact T_X12_knot_27 C hE s1 h
  · have h := bq_t q h
    refine aw_aload_n C 0 dX12_knot_9 rfl ?_
    refine aw_iconst (v := 2) C dX12_knot_10 (by decide) ?_
    obtain ⟨s3, cw4, h⟩ := oC_e h
    have h := oL_e (x := s3) rfl h
    refine aw_callVv (n := 1) (As := [.int (2 : Int32)]) (rest := []) (q0 := 0) C (c_X12_wrong l D N s0 s3 (2 : Int32) cw4) lw_19_8 lw_19_9 lw_19_10 lw_1_5 lw_19_11 rfl rfl (by decide +kernel) ⟨Nat.le_of_ble_eq_true rfl, Nat.le_of_ble_eq_true rfl⟩ rfl rfl rfl rfl rfl (Nat.le_of_ble_eq_true rfl) dX12_knot_11 ?_
    refine aw_goto (tgt := 27) C dX12_knot_14 (by decide) ?_
    refine aw_sub (lv' := []) [] rfl ?_
    exact T_X12_knot_27 C hE s3 h
def f_X12_knot (s0 : St) : Option (St) := F_X12_knot_0 s0
theorem c_X12_knot (l : Launch) (D : va_G) (N : Nm) (s0 z1 : St) (h : f_X12_knot s0 = some z1) : Metv l yX12_knot (tsU yX12_knot cX12_knot 1 none) rm_X12_knot D N [.ref (N.1 0)] (wR N s0) (wR N z1) :=
  met_v (cc := cX12_knot) (nL := 1) (own := RX12) (by decide) rfl (Nat.le_of_ble_eq_true rfl) (fun p e s m args below meth c Q A C hE => aw_sub [0] rfl (T_X12_knot_0 C hE s0 h))
/-! AwardLineModel.out(II)V -/
def rm_X12_out : Room := { frames := 0, cells := 0, slots := 0, locals := 0 }
def F_X12_out_0 (s0 : St) (x1 : Int32) (x2 : Int32) : Option (St) :=
  oA ((64 : Int32) + (s0.1 3)) 128 <|
  oL (sA s0 1 (upd (s0.2.1 1) (Int32.toNatClampNeg ((64 : Int32) + (s0.1 3))) x1)) fun s2 =>
  oA ((64 : Int32) + (s2.1 3)) 128 <|
  oL (sA s2 2 (upd (s2.2.1 2) (Int32.toNatClampNeg ((64 : Int32) + (s2.1 3))) x2)) fun s4 =>
  oL (sI s4 3 ((s4.1 3) + (1 : Int32))) fun s5 =>
  some s5
set_option maxHeartbeats 4000000 in
set_option maxRecDepth 100000 in
theorem T_X12_out_0 {z1 : St} (C : Cx p rm_X12_out s m args c D A cX12_out 3 RX12 rm_X12_out N) (hE : En p l e rm_X12_out s m args below meth c Q D A cX12_out .return_ (wR N z1) [])  (s0 : St) (x1 : Int32) (x2 : Int32) (h : F_X12_out_0 s0 x1 x2 = some z1) : Aw p l e rm_X12_out s m args below meth c Q D A 3 (wR N s0) 0 [(0, .ref (N.1 0)), (1, .int x1), (2, .int x2)] [] := by
  unfold F_X12_out_0 at h
  refine aw_aload_n C 0 dX12_out_0 rfl ?_
  refine rg_md_knotSort C lw_8_1 dX12_out_1 ?_
  refine aw_bipush (v := 64) C dX12_out_4 (by decide) ?_
  refine aw_aload_n C 0 dX12_out_6 rfl ?_
  refine rg_md_knotNew C lw_17_22 dX12_out_7 ?_
  refine aw_iadd C dX12_out_10 ?_
  refine aw_iload_n C 1 dX12_out_11 rfl ?_
  obtain ⟨q1, h⟩ := oA_e h
  refine ra_iast (k := 1) C (by decide) rfl q1 dX12_out_12 ?_
  refine ra_name (fun s2 es2 => ?_)
  have h := oL_e es2 h
  refine aw_aload_n C 0 dX12_out_13 rfl ?_
  refine rg_md_knotValue C lw_8_2 dX12_out_14 ?_
  refine aw_bipush (v := 64) C dX12_out_17 (by decide) ?_
  refine aw_aload_n C 0 dX12_out_19 rfl ?_
  refine rg_md_knotNew C lw_17_22 dX12_out_20 ?_
  refine aw_iadd C dX12_out_23 ?_
  refine aw_iload_n C 2 dX12_out_24 rfl ?_
  obtain ⟨q3, h⟩ := oA_e h
  refine ra_iast (k := 2) C (by decide) rfl q3 dX12_out_25 ?_
  refine ra_name (fun s4 es4 => ?_)
  have h := oL_e es4 h
  refine aw_aload_n C 0 dX12_out_26 rfl ?_
  refine aw_dup C dX12_out_27 rfl ?_
  refine rg_md_knotNew C lw_17_22 dX12_out_28 ?_
  refine aw_iconst (v := 1) C dX12_out_31 (by decide) ?_
  refine aw_iadd C dX12_out_32 ?_
  refine rp_md_knotNew C lw_17_22 dX12_out_33 ?_
  refine ra_name (fun s5 es5 => ?_)
  have h := oL_e es5 h
  cases h
  exact aw_ret hE dX12_out_36
def f_X12_out (s0 : St) (x1 : Int32) (x2 : Int32) : Option (St) := F_X12_out_0 s0 x1 x2
theorem c_X12_out (l : Launch) (D : va_G) (N : Nm) (s0 z1 : St) (x1 : Int32) (x2 : Int32) (h : f_X12_out s0 x1 x2 = some z1) : Metv l yX12_out (tsU yX12_out cX12_out 3 none) rm_X12_out D N [.ref (N.1 0), .int x1, .int x2] (wR N s0) (wR N z1) :=
  met_v (cc := cX12_out) (nL := 3) (own := RX12) (by decide) rfl (Nat.le_of_ble_eq_true rfl) (fun p e s m args below meth c Q A C hE => aw_sub [0, 1, 2] rfl (T_X12_out_0 C hE s0 x1 x2 h))
/-! AwardLineModel.pour(I)V -/
def rm_X12_pour : Room := { frames := 1, cells := 0, slots := 0, locals := 22 }
def F_X12_pour_52 (s0 : St) : Option (St) :=
  some s0
set_option maxHeartbeats 4000000 in
set_option maxRecDepth 100000 in
theorem T_X12_pour_52 {z1 : St} (C : Cx p rm_X12_pour s m args c D A cX12_pour 2 RX12 rm_X12_pour N) (hE : En p l e rm_X12_pour s m args below meth c Q D A cX12_pour .return_ (wR N z1) [])  (s0 : St) (h : F_X12_pour_52 s0 = some z1) : Aw p l e rm_X12_pour s m args below meth c Q D A 2 (wR N s0) 52 [] [] := by
  unfold F_X12_pour_52 at h
  cases h
  exact aw_ret hE dX12_pour_52
def F_X12_pour_0_b (k0 : St → Int32 → Option (St)) (s0 : St) (x1 : Int32) : Option (St) :=
  if (s0.1 17) ≤ 0 then (
    F_X12_pour_52 s0)
  else (
    oA ((s0.1 17) - (1 : Int32)) 96 <|
    oC (f_X12_bind s0 (s0.2.1 4 (Int32.toNatClampNeg ((s0.1 17) - (1 : Int32))))) fun w4 =>
    oL w4.1 fun v2 => oL w4.2 fun s3 =>
    if v2 < x1 then (
      F_X12_pour_52 s3)
    else (
      oL (sI s3 17 ((s3.1 17) - (1 : Int32))) fun s5 =>
      oA (s5.1 17) 96 <|
      oC (f_X12_out s5 (2 : Int32) (s5.2.1 4 (Int32.toNatClampNeg (s5.1 17)))) fun w9 =>
      oL w9 fun s8 =>
      k0 s8 x1))
set_option maxHeartbeats 4000000 in
set_option maxRecDepth 100000 in
theorem T_X12_pour_0_b {z1 : St} {k0 : St → Int32 → Option (St)} (C : Cx p rm_X12_pour s m args c D A cX12_pour 2 RX12 rm_X12_pour N) (hE : En p l e rm_X12_pour s m args below meth c Q D A cX12_pour .return_ (wR N z1) []) (hk0 : ∀ (s0 : St) (x1 : Int32), k0 s0 x1 = some z1 → Aw p l e rm_X12_pour s m args below meth c Q D A 2 (wR N s0) 0 [(0, .ref (N.1 0)), (1, .int x1)] []) (s0 : St) (x1 : Int32) (h : F_X12_pour_0_b k0 s0 x1 = some z1) : Aw p l e rm_X12_pour s m args below meth c Q D A 2 (wR N s0) 0 [(0, .ref (N.1 0)), (1, .int x1)] [] := by
  unfold F_X12_pour_0_b at h
  refine aw_aload_n C 0 dX12_pour_0 rfl ?_
  refine rg_md_piled C lw_20_4 dX12_pour_1 ?_
  refine aw_if_le (tgt := 52) C dX12_pour_4 (by decide) (fun q => ?_) (fun q => ?_)
  · have h := bq_t q h
    refine aw_sub (lv' := []) [] rfl ?_
    exact T_X12_pour_52 C hE s0 h
  · have h := bq_f q h
    refine aw_aload_n C 0 dX12_pour_7 rfl ?_
    refine rg_md_pile C lw_8_5 dX12_pour_8 ?_
    refine aw_aload_n C 0 dX12_pour_11 rfl ?_
    refine rg_md_piled C lw_20_4 dX12_pour_12 ?_
    refine aw_iconst (v := 1) C dX12_pour_15 (by decide) ?_
    refine aw_isub C dX12_pour_16 ?_
    obtain ⟨q1, h⟩ := oA_e h
    refine ra_iald (k := 4) C (by decide) rfl q1 dX12_pour_17 ?_
    obtain ⟨⟨v2, s3⟩, cw4, h⟩ := oC_e h
    have h := oL_e (x := s3) rfl (oL_e (x := v2) rfl h)
    refine aw_callSi (n := 1) (As := [.int (s0.2.1 4 (Int32.toNatClampNeg ((s0.1 17) - (1 : Int32))))]) (rest := []) C (c_X12_bind l D N s0 s3 (s0.2.1 4 (Int32.toNatClampNeg ((s0.1 17) - (1 : Int32)))) v2 cw4) lw_21_2 lw_21_3 lw_1_5 lw_21_4 rfl rfl (by decide +kernel) ⟨Nat.le_of_ble_eq_true rfl, Nat.le_of_ble_eq_true rfl⟩ rfl rfl (Nat.le_of_ble_eq_true rfl) dX12_pour_18 ?_
    refine aw_iload_n C 1 dX12_pour_21 rfl ?_
    refine aw_icmp_lt (tgt := 52) C dX12_pour_22 (by decide) (fun q => ?_) (fun q => ?_)
    · have h := bq_t q h
      refine aw_sub (lv' := []) [] rfl ?_
      exact T_X12_pour_52 C hE s3 h
    · have h := bq_f q h
      refine aw_aload_n C 0 dX12_pour_25 rfl ?_
      refine aw_dup C dX12_pour_26 rfl ?_
      refine rg_md_piled C lw_20_4 dX12_pour_27 ?_
      refine aw_iconst (v := 1) C dX12_pour_30 (by decide) ?_
      refine aw_isub C dX12_pour_31 ?_
      refine rp_md_piled C lw_20_4 dX12_pour_32 ?_
      refine ra_name (fun s5 es5 => ?_)
      have h := oL_e es5 h
      refine aw_aload_n C 0 dX12_pour_35 rfl ?_
      refine aw_iconst (v := 2) C dX12_pour_36 (by decide) ?_
      refine aw_aload_n C 0 dX12_pour_37 rfl ?_
      refine rg_md_pile C lw_8_5 dX12_pour_38 ?_
      refine aw_aload_n C 0 dX12_pour_41 rfl ?_
      refine rg_md_piled C lw_20_4 dX12_pour_42 ?_
      obtain ⟨q6, h⟩ := oA_e h
      refine ra_iald (k := 4) C (by decide) rfl q6 dX12_pour_45 ?_
      obtain ⟨s8, cw9, h⟩ := oC_e h
      have h := oL_e (x := s8) rfl h
      refine aw_callVv (n := 2) (As := [.int (2 : Int32), .int (s5.2.1 4 (Int32.toNatClampNeg (s5.1 17)))]) (rest := []) (q0 := 0) C (c_X12_out l D N s5 s8 (2 : Int32) (s5.2.1 4 (Int32.toNatClampNeg (s5.1 17))) cw9) lw_20_14 lw_20_15 lw_20_16 lw_1_5 lw_20_17 rfl rfl (by decide +kernel) ⟨Nat.le_of_ble_eq_true rfl, Nat.le_of_ble_eq_true rfl⟩ rfl rfl rfl rfl rfl (Nat.le_of_ble_eq_true rfl) dX12_pour_46 ?_
      refine aw_goto (tgt := 0) C dX12_pour_49 (by decide) ?_
      refine aw_sub (lv' := [(0, .ref (N.1 0)), (1, .int x1)]) [0, 1] rfl ?_
      exact hk0 s8 x1 h
def F_X12_pour_0 : Nat → St → Int32 → Option (St)
  | 0 => fun _ _ => none
  | n + 1 => F_X12_pour_0_b (F_X12_pour_0 n)
theorem T_X12_pour_0 {z1 : St} (C : Cx p rm_X12_pour s m args c D A cX12_pour 2 RX12 rm_X12_pour N) (hE : En p l e rm_X12_pour s m args below meth c Q D A cX12_pour .return_ (wR N z1) [])  : ∀ (n : Nat) (s0 : St) (x1 : Int32), F_X12_pour_0 n s0 x1 = some z1 → Aw p l e rm_X12_pour s m args below meth c Q D A 2 (wR N s0) 0 [(0, .ref (N.1 0)), (1, .int x1)] [] := by
  intro n
  induction n with
  | zero => intro s0 x1 h; cases h
  | succ n ih => intro s0 x1 h; exact T_X12_pour_0_b C hE ih s0 x1 h
def f_X12_pour (s0 : St) (x1 : Int32) : Option (St) := F_X12_pour_0 100000 s0 x1
theorem c_X12_pour (l : Launch) (D : va_G) (N : Nm) (s0 z1 : St) (x1 : Int32) (h : f_X12_pour s0 x1 = some z1) : Metv l yX12_pour (tsU yX12_pour cX12_pour 2 none) rm_X12_pour D N [.ref (N.1 0), .int x1] (wR N s0) (wR N z1) :=
  met_v (cc := cX12_pour) (nL := 2) (own := RX12) (by decide) rfl (Nat.le_of_ble_eq_true rfl) (fun p e s m args below meth c Q A C hE => aw_sub [0, 1] rfl (T_X12_pour_0 C hE 100000 s0 x1 h))
/-! AwardLineModel.waits(I)V -/
def rm_X12_waits : Room := { frames := 6, cells := 0, slots := 0, locals := 129 }
def F_X12_waits_0 (s0 : St) (x1 : Int32) : Option (St) :=
  oA (s0.1 17) 96 <|
  oL (sA s0 4 (upd (s0.2.1 4) (Int32.toNatClampNeg (s0.1 17)) x1)) fun s2 =>
  oL (sI s2 17 ((s2.1 17) + (1 : Int32))) fun s3 =>
  oC (f_X12_next s3) fun w6 =>
  oL w6 fun s5 =>
  some s5
set_option maxHeartbeats 4000000 in
set_option maxRecDepth 100000 in
theorem T_X12_waits_0 {z1 : St} (C : Cx p rm_X12_waits s m args c D A cX12_waits 2 RX12 rm_X12_waits N) (hE : En p l e rm_X12_waits s m args below meth c Q D A cX12_waits .return_ (wR N z1) [])  (s0 : St) (x1 : Int32) (h : F_X12_waits_0 s0 x1 = some z1) : Aw p l e rm_X12_waits s m args below meth c Q D A 2 (wR N s0) 0 [(0, .ref (N.1 0)), (1, .int x1)] [] := by
  unfold F_X12_waits_0 at h
  refine aw_aload_n C 0 dX12_waits_0 rfl ?_
  refine rg_md_pile C lw_8_5 dX12_waits_1 ?_
  refine aw_aload_n C 0 dX12_waits_4 rfl ?_
  refine rg_md_piled C lw_20_4 dX12_waits_5 ?_
  refine aw_iload_n C 1 dX12_waits_8 rfl ?_
  obtain ⟨q1, h⟩ := oA_e h
  refine ra_iast (k := 4) C (by decide) rfl q1 dX12_waits_9 ?_
  refine ra_name (fun s2 es2 => ?_)
  have h := oL_e es2 h
  refine aw_aload_n C 0 dX12_waits_10 rfl ?_
  refine aw_dup C dX12_waits_11 rfl ?_
  refine rg_md_piled C lw_20_4 dX12_waits_12 ?_
  refine aw_iconst (v := 1) C dX12_waits_15 (by decide) ?_
  refine aw_iadd C dX12_waits_16 ?_
  refine rp_md_piled C lw_20_4 dX12_waits_17 ?_
  refine ra_name (fun s3 es3 => ?_)
  have h := oL_e es3 h
  refine aw_aload_n C 0 dX12_waits_20 rfl ?_
  obtain ⟨s5, cw6, h⟩ := oC_e h
  have h := oL_e (x := s5) rfl h
  refine aw_callVv (n := 0) (As := []) (rest := []) (q0 := 0) C (c_X12_next l D N s3 s5 cw6) lw_18_6 lw_18_7 lw_18_8 lw_1_5 lw_18_9 rfl rfl (by decide +kernel) ⟨Nat.le_of_ble_eq_true rfl, Nat.le_of_ble_eq_true rfl⟩ rfl rfl rfl rfl rfl (Nat.le_of_ble_eq_true rfl) dX12_waits_21 ?_
  cases h
  exact aw_ret hE dX12_waits_24
def f_X12_waits (s0 : St) (x1 : Int32) : Option (St) := F_X12_waits_0 s0 x1
theorem c_X12_waits (l : Launch) (D : va_G) (N : Nm) (s0 z1 : St) (x1 : Int32) (h : f_X12_waits s0 x1 = some z1) : Metv l yX12_waits (tsU yX12_waits cX12_waits 2 none) rm_X12_waits D N [.ref (N.1 0), .int x1] (wR N s0) (wR N z1) :=
  met_v (cc := cX12_waits) (nL := 2) (own := RX12) (by decide) rfl (Nat.le_of_ble_eq_true rfl) (fun p e s m args below meth c Q A C hE => aw_sub [0, 1] rfl (T_X12_waits_0 C hE s0 x1 h))
/-! AwardLineModel.between()I -/
def rm_X12_between : Room := { frames := 1, cells := 0, slots := 0, locals := 20 }
def F_X12_between_83 (s0 : St) (t0 : Int32) : Option (Int32 × St) :=
  some (t0, s0)
set_option maxHeartbeats 4000000 in
set_option maxRecDepth 100000 in
theorem T_X12_between_83 {r : Int32} {z1 : St} (C : Cx p rm_X12_between s m args c D A cX12_between 1 RX12 rm_X12_between N) (hE : En p l e rm_X12_between s m args below meth c Q D A cX12_between .ireturn (wR N z1) [.int r])  (s0 : St) (t0 : Int32) (h : F_X12_between_83 s0 t0 = some (r, z1)) : Aw p l e rm_X12_between s m args below meth c Q D A 1 (wR N s0) 83 [] [.int t0] := by
  unfold F_X12_between_83 at h
  cases h
  exact aw_ret hE dX12_between_83
def F_X12_between_82 (s0 : St) : Option (Int32 × St) :=
  F_X12_between_83 s0 (0 : Int32)
set_option maxHeartbeats 4000000 in
set_option maxRecDepth 100000 in
theorem T_X12_between_82 {r : Int32} {z1 : St} (C : Cx p rm_X12_between s m args c D A cX12_between 1 RX12 rm_X12_between N) (hE : En p l e rm_X12_between s m args below meth c Q D A cX12_between .ireturn (wR N z1) [.int r])  (s0 : St) (h : F_X12_between_82 s0 = some (r, z1)) : Aw p l e rm_X12_between s m args below meth c Q D A 1 (wR N s0) 82 [] [] := by
  unfold F_X12_between_82 at h
  refine aw_iconst (v := 0) C dX12_between_82 (by decide) ?_
  refine aw_sub (lv' := []) [] rfl ?_
  exact T_X12_between_83 C hE s0 (0 : Int32) h
def F_X12_between_38 (s0 : St) (t0 : Int32) : Option (Int32 × St) :=
  some (t0, s0)
set_option maxHeartbeats 4000000 in
set_option maxRecDepth 100000 in
theorem T_X12_between_38 {r : Int32} {z1 : St} (C : Cx p rm_X12_between s m args c D A cX12_between 1 RX12 rm_X12_between N) (hE : En p l e rm_X12_between s m args below meth c Q D A cX12_between .ireturn (wR N z1) [.int r])  (s0 : St) (t0 : Int32) (h : F_X12_between_38 s0 t0 = some (r, z1)) : Aw p l e rm_X12_between s m args below meth c Q D A 1 (wR N s0) 38 [] [.int t0] := by
  unfold F_X12_between_38 at h
  cases h
  exact aw_ret hE dX12_between_38
def F_X12_between_0 (s0 : St) : Option (Int32 × St) :=
  if (s0.1 11) = 0 then (
    if (s0.1 12) = (11 : Int32) then (
      F_X12_between_38 s0 (262 : Int32))
    else (
      if (s0.1 12) = (12 : Int32) then (
        F_X12_between_38 s0 (261 : Int32))
      else (
        F_X12_between_38 s0 (0 : Int32))))
  else (
    if (s0.1 11) = (2 : Int32) then (
      if (s0.1 12) = (40 : Int32) then (
        F_X12_between_82 s0)
      else (
        if (s0.1 12) = (41 : Int32) then (
          F_X12_between_82 s0)
        else (
          oC (f_X12_bind s0 (s0.1 12)) fun w3 =>
          oL w3.1 fun v1 => oL w3.2 fun s2 =>
          if v1 ≤ 0 then (
            F_X12_between_82 s2)
          else (
            F_X12_between_83 s2 (s2.1 12)))))
    else (
      F_X12_between_82 s0))
set_option maxHeartbeats 4000000 in
set_option maxRecDepth 100000 in
theorem T_X12_between_0 {r : Int32} {z1 : St} (C : Cx p rm_X12_between s m args c D A cX12_between 1 RX12 rm_X12_between N) (hE : En p l e rm_X12_between s m args below meth c Q D A cX12_between .ireturn (wR N z1) [.int r])  (s0 : St) (h : F_X12_between_0 s0 = some (r, z1)) : Aw p l e rm_X12_between s m args below meth c Q D A 1 (wR N s0) 0 [(0, .ref (N.1 0))] [] := by
  unfold F_X12_between_0 at h
  refine aw_aload_n C 0 dX12_between_0 rfl ?_
  refine rg_md_sort C lw_18_1 dX12_between_1 ?_
  refine aw_if_ne (tgt := 39) C dX12_between_4 (by decide) (fun q => ?_) (fun q => ?_)
  · have h := bq_f q h
    refine aw_aload_n C 0 dX12_between_39 rfl ?_
    refine rg_md_sort C lw_18_1 dX12_between_40 ?_
    refine aw_iconst (v := 2) C dX12_between_43 (by decide) ?_
    refine aw_icmp_ne (tgt := 82) C dX12_between_44 (by decide) (fun q => ?_) (fun q => ?_)
    · have h := bq_f q h
      refine aw_sub (lv' := []) [] rfl ?_
      exact T_X12_between_82 C hE s0 h
    · have h := bq_t q h
      refine aw_aload_n C 0 dX12_between_47 rfl ?_
      refine rg_md_value C lw_18_11 dX12_between_48 ?_
      refine aw_bipush (v := 40) C dX12_between_51 (by decide) ?_
      refine aw_icmp_eq (tgt := 82) C dX12_between_53 (by decide) (fun q => ?_) (fun q => ?_)
      · have h := bq_t q h
        refine aw_sub (lv' := []) [] rfl ?_
        exact T_X12_between_82 C hE s0 h
      · have h := bq_f q h
        refine aw_aload_n C 0 dX12_between_56 rfl ?_
        refine rg_md_value C lw_18_11 dX12_between_57 ?_
        refine aw_bipush (v := 41) C dX12_between_60 (by decide) ?_
        refine aw_icmp_eq (tgt := 82) C dX12_between_62 (by decide) (fun q => ?_) (fun q => ?_)
        · have h := bq_t q h
          refine aw_sub (lv' := []) [] rfl ?_
          exact T_X12_between_82 C hE s0 h
        · have h := bq_f q h
          refine aw_aload_n C 0 dX12_between_65 rfl ?_
          refine rg_md_value C lw_18_11 dX12_between_66 ?_
          obtain ⟨⟨v1, s2⟩, cw3, h⟩ := oC_e h
          have h := oL_e (x := s2) rfl (oL_e (x := v1) rfl h)
          refine aw_callSi (n := 1) (As := [.int (s0.1 12)]) (rest := []) C (c_X12_bind l D N s0 s2 (s0.1 12) v1 cw3) lw_21_2 lw_21_3 lw_1_5 lw_21_4 rfl rfl (by decide +kernel) ⟨Nat.le_of_ble_eq_true rfl, Nat.le_of_ble_eq_true rfl⟩ rfl rfl (Nat.le_of_ble_eq_true rfl) dX12_between_69 ?_
          refine aw_if_le (tgt := 82) C dX12_between_72 (by decide) (fun q => ?_) (fun q => ?_)
          · have h := bq_t q h
            refine aw_sub (lv' := []) [] rfl ?_
            exact T_X12_between_82 C hE s2 h
          · have h := bq_f q h
            refine aw_aload_n C 0 dX12_between_75 rfl ?_
            refine rg_md_value C lw_18_11 dX12_between_76 ?_
            refine aw_goto (tgt := 83) C dX12_between_79 (by decide) ?_
            refine aw_sub (lv' := []) [] rfl ?_
            exact T_X12_between_83 C hE s2 (s2.1 12) h
  · have h := bq_t q h
    refine aw_aload_n C 0 dX12_between_7 rfl ?_
    refine rg_md_value C lw_18_11 dX12_between_8 ?_
    refine aw_bipush (v := 11) C dX12_between_11 (by decide) ?_
    refine aw_icmp_ne (tgt := 22) C dX12_between_13 (by decide) (fun q => ?_) (fun q => ?_)
    · have h := bq_f q h
      refine aw_aload_n C 0 dX12_between_22 rfl ?_
      refine rg_md_value C lw_18_11 dX12_between_23 ?_
      refine aw_bipush (v := 12) C dX12_between_26 (by decide) ?_
      refine aw_icmp_ne (tgt := 37) C dX12_between_28 (by decide) (fun q => ?_) (fun q => ?_)
      · have h := bq_f q h
        refine aw_iconst (v := 0) C dX12_between_37 (by decide) ?_
        refine aw_sub (lv' := []) [] rfl ?_
        exact T_X12_between_38 C hE s0 (0 : Int32) h
      · have h := bq_t q h
        refine aw_sipush (v := 261) C dX12_between_31 (by decide) ?_
        refine aw_goto (tgt := 38) C dX12_between_34 (by decide) ?_
        refine aw_sub (lv' := []) [] rfl ?_
        exact T_X12_between_38 C hE s0 (261 : Int32) h
    · have h := bq_t q h
      refine aw_sipush (v := 262) C dX12_between_16 (by decide) ?_
      refine aw_goto (tgt := 38) C dX12_between_19 (by decide) ?_
      refine aw_sub (lv' := []) [] rfl ?_
      exact T_X12_between_38 C hE s0 (262 : Int32) h
def f_X12_between (s0 : St) : Option (Int32 × St) := F_X12_between_0 s0
theorem c_X12_between (l : Launch) (D : va_G) (N : Nm) (s0 z1 : St) (r : Int32) (h : f_X12_between s0 = some (r, z1)) : Meti l yX12_between (tsU yX12_between cX12_between 1 (some .int)) rm_X12_between D N [.ref (N.1 0)] (wR N s0) r (wR N z1) :=
  met_i (cc := cX12_between) (nL := 1) (own := RX12) (by decide) rfl (Nat.le_of_ble_eq_true rfl) (fun p e s m args below meth c Q A C hE => aw_sub [0] rfl (T_X12_between_0 C hE s0 h))
/-! AwardLineModel.sign(I)V -/
def rm_X12_sign : Room := { frames := 7, cells := 0, slots := 0, locals := 150 }
def F_X12_sign_77 (s0 : St) : Option (St) :=
  some s0
set_option maxHeartbeats 4000000 in
set_option maxRecDepth 100000 in
theorem T_X12_sign_77 {z1 : St} (C : Cx p rm_X12_sign s m args c D A cX12_sign 2 RX12 rm_X12_sign N) (hE : En p l e rm_X12_sign s m args below meth c Q D A cX12_sign .return_ (wR N z1) [])  (s0 : St) (h : F_X12_sign_77 s0 = some z1) : Aw p l e rm_X12_sign s m args below meth c Q D A 2 (wR N s0) 77 [] [] := by
  unfold F_X12_sign_77 at h
  cases h
  exact aw_ret hE dX12_sign_77
def F_X12_sign_65 (s0 : St) (x1 : Int32) : Option (St) :=
  if (s0.1 13) = 0 then (
    oC (f_X12_waits s0 x1) fun w3 =>
    oL w3 fun s2 =>
    F_X12_sign_77 s2)
  else (
    F_X12_sign_77 s0)
set_option maxHeartbeats 4000000 in
set_option maxRecDepth 100000 in
theorem T_X12_sign_65 {z1 : St} (C : Cx p rm_X12_sign s m args c D A cX12_sign 2 RX12 rm_X12_sign N) (hE : En p l e rm_X12_sign s m args below meth c Q D A cX12_sign .return_ (wR N z1) [])  (s0 : St) (x1 : Int32) (h : F_X12_sign_65 s0 x1 = some z1) : Aw p l e rm_X12_sign s m args below meth c Q D A 2 (wR N s0) 65 [(0, .ref (N.1 0)), (1, .int x1)] [] := by
  unfold F_X12_sign_65 at h
  refine aw_aload_n C 0 dX12_sign_65 rfl ?_
  refine rg_md_fault C lw_17_19 dX12_sign_66 ?_
  refine aw_if_ne (tgt := 77) C dX12_sign_69 (by decide) (fun q => ?_) (fun q => ?_)
  · have h := bq_f q h
    refine aw_sub (lv' := []) [] rfl ?_
    exact T_X12_sign_77 C hE s0 h
  · have h := bq_t q h
    refine aw_aload_n C 0 dX12_sign_72 rfl ?_
    refine aw_iload_n C 1 dX12_sign_73 rfl ?_
    obtain ⟨s2, cw3, h⟩ := oC_e h
    have h := oL_e (x := s2) rfl h
    refine aw_callVv (n := 1) (As := [.int x1]) (rest := []) (q0 := 0) C (c_X12_waits l D N s0 s2 x1 cw3) lw_20_22 lw_20_23 lw_21_0 lw_1_5 lw_21_1 rfl rfl (by decide +kernel) ⟨Nat.le_of_ble_eq_true rfl, Nat.le_of_ble_eq_true rfl⟩ rfl rfl rfl rfl rfl (Nat.le_of_ble_eq_true rfl) dX12_sign_74 ?_
    refine aw_sub (lv' := []) [] rfl ?_
    exact T_X12_sign_77 C hE s2 h
def F_X12_sign_54 (s0 : St) (x1 : Int32) : Option (St) :=
  if (s0.1 13) = 0 then (
    oC (f_X12_knot s0) fun w3 =>
    oL w3 fun s2 =>
    F_X12_sign_65 s2 x1)
  else (
    F_X12_sign_65 s0 x1)
set_option maxHeartbeats 4000000 in
set_option maxRecDepth 100000 in
theorem T_X12_sign_54 {z1 : St} (C : Cx p rm_X12_sign s m args c D A cX12_sign 2 RX12 rm_X12_sign N) (hE : En p l e rm_X12_sign s m args below meth c Q D A cX12_sign .return_ (wR N z1) [])  (s0 : St) (x1 : Int32) (h : F_X12_sign_54 s0 x1 = some z1) : Aw p l e rm_X12_sign s m args below meth c Q D A 2 (wR N s0) 54 [(0, .ref (N.1 0)), (1, .int x1)] [] := by
  unfold F_X12_sign_54 at h
  refine aw_aload_n C 0 dX12_sign_54 rfl ?_
  refine rg_md_fault C lw_17_19 dX12_sign_55 ?_
  refine aw_if_ne (tgt := 65) C dX12_sign_58 (by decide) (fun q => ?_) (fun q => ?_)
  · have h := bq_f q h
    refine aw_sub (lv' := [(0, .ref (N.1 0)), (1, .int x1)]) [0, 1] rfl ?_
    exact T_X12_sign_65 C hE s0 x1 h
  · have h := bq_t q h
    refine aw_aload_n C 0 dX12_sign_61 rfl ?_
    obtain ⟨s2, cw3, h⟩ := oC_e h
    have h := oL_e (x := s2) rfl h
    refine aw_callVv (n := 0) (As := []) (rest := []) (q0 := 0) C (c_X12_knot l D N s0 s2 cw3) lw_20_10 lw_20_11 lw_20_12 lw_1_5 lw_20_13 rfl rfl (by decide +kernel) ⟨Nat.le_of_ble_eq_true rfl, Nat.le_of_ble_eq_true rfl⟩ rfl rfl rfl rfl rfl (Nat.le_of_ble_eq_true rfl) dX12_sign_62 ?_
    refine aw_sub (lv' := [(0, .ref (N.1 0)), (1, .int x1)]) [0, 1] rfl ?_
    exact T_X12_sign_65 C hE s2 x1 h
def F_X12_sign_0 (s0 : St) (x1 : Int32) : Option (St) :=
  oC (f_X12_bind s0 x1) fun w3 =>
  oL w3.1 fun v1 => oL w3.2 fun s2 =>
  if v1 = (4 : Int32) then (
    oC (f_X12_pour s2 (5 : Int32)) fun w12 =>
    oL w12 fun s11 =>
    if (s11.1 17) ≤ 0 then (
      F_X12_sign_54 s11 x1)
    else (
      oA ((s11.1 17) - (1 : Int32)) 96 <|
      oC (f_X12_bind s11 (s11.2.1 4 (Int32.toNatClampNeg ((s11.1 17) - (1 : Int32))))) fun w16 =>
      oL w16.1 fun v14 => oL w16.2 fun s15 =>
      if v14 = (4 : Int32) then (
        oC (f_X12_wrong s15 (1 : Int32)) fun w19 =>
        oL w19 fun s18 =>
        F_X12_sign_54 s18 x1)
      else (
        F_X12_sign_54 s15 x1)))
  else (
    oC (f_X12_bind s2 x1) fun w6 =>
    oL w6.1 fun v4 => oL w6.2 fun s5 =>
    oC (f_X12_pour s5 v4) fun w9 =>
    oL w9 fun s8 =>
    F_X12_sign_54 s8 x1)
set_option maxHeartbeats 4000000 in
set_option maxRecDepth 100000 in
theorem T_X12_sign_0 {z1 : St} (C : Cx p rm_X12_sign s m args c D A cX12_sign 2 RX12 rm_X12_sign N) (hE : En p l e rm_X12_sign s m args below meth c Q D A cX12_sign .return_ (wR N z1) [])  (s0 : St) (x1 : Int32) (h : F_X12_sign_0 s0 x1 = some z1) : Aw p l e rm_X12_sign s m args below meth c Q D A 2 (wR N s0) 0 [(0, .ref (N.1 0)), (1, .int x1)] [] := by
  unfold F_X12_sign_0 at h
  refine aw_iload_n C 1 dX12_sign_0 rfl ?_
  obtain ⟨⟨v1, s2⟩, cw3, h⟩ := oC_e h
  have h := oL_e (x := s2) rfl (oL_e (x := v1) rfl h)
  refine aw_callSi (n := 1) (As := [.int x1]) (rest := []) C (c_X12_bind l D N s0 s2 x1 v1 cw3) lw_21_2 lw_21_3 lw_1_5 lw_21_4 rfl rfl (by decide +kernel) ⟨Nat.le_of_ble_eq_true rfl, Nat.le_of_ble_eq_true rfl⟩ rfl rfl (Nat.le_of_ble_eq_true rfl) dX12_sign_1 ?_
  refine aw_iconst (v := 4) C dX12_sign_4 (by decide) ?_
  refine aw_icmp_ne (tgt := 46) C dX12_sign_5 (by decide) (fun q => ?_) (fun q => ?_)
  · have h := bq_f q h
    refine aw_aload_n C 0 dX12_sign_46 rfl ?_
    refine aw_iload_n C 1 dX12_sign_47 rfl ?_
    obtain ⟨⟨v4, s5⟩, cw6, h⟩ := oC_e h
    have h := oL_e (x := s5) rfl (oL_e (x := v4) rfl h)
    refine aw_callSi (n := 1) (As := [.int x1]) (rest := [.ref (N.1 0)]) C (c_X12_bind l D N s2 s5 x1 v4 cw6) lw_21_2 lw_21_3 lw_1_5 lw_21_4 rfl rfl (by decide +kernel) ⟨Nat.le_of_ble_eq_true rfl, Nat.le_of_ble_eq_true rfl⟩ rfl rfl (Nat.le_of_ble_eq_true rfl) dX12_sign_48 ?_
    obtain ⟨s8, cw9, h⟩ := oC_e h
    have h := oL_e (x := s8) rfl h
    refine aw_callVv (n := 1) (As := [.int v4]) (rest := []) (q0 := 0) C (c_X12_pour l D N s5 s8 v4 cw9) lw_21_13 lw_21_14 lw_21_15 lw_1_5 lw_21_16 rfl rfl (by decide +kernel) ⟨Nat.le_of_ble_eq_true rfl, Nat.le_of_ble_eq_true rfl⟩ rfl rfl rfl rfl rfl (Nat.le_of_ble_eq_true rfl) dX12_sign_51 ?_
    refine aw_sub (lv' := [(0, .ref (N.1 0)), (1, .int x1)]) [0, 1] rfl ?_
    exact T_X12_sign_54 C hE s8 x1 h
  · have h := bq_t q h
    refine aw_aload_n C 0 dX12_sign_8 rfl ?_
    refine aw_iconst (v := 5) C dX12_sign_9 (by decide) ?_
    obtain ⟨s11, cw12, h⟩ := oC_e h
    have h := oL_e (x := s11) rfl h
    refine aw_callVv (n := 1) (As := [.int (5 : Int32)]) (rest := []) (q0 := 0) C (c_X12_pour l D N s2 s11 (5 : Int32) cw12) lw_21_13 lw_21_14 lw_21_15 lw_1_5 lw_21_16 rfl rfl (by decide +kernel) ⟨Nat.le_of_ble_eq_true rfl, Nat.le_of_ble_eq_true rfl⟩ rfl rfl rfl rfl rfl (Nat.le_of_ble_eq_true rfl) dX12_sign_10 ?_
    refine aw_aload_n C 0 dX12_sign_13 rfl ?_
    refine rg_md_piled C lw_20_4 dX12_sign_14 ?_
    refine aw_if_le (tgt := 54) C dX12_sign_17 (by decide) (fun q => ?_) (fun q => ?_)
    · have h := bq_t q h
      refine aw_sub (lv' := [(0, .ref (N.1 0)), (1, .int x1)]) [0, 1] rfl ?_
      exact T_X12_sign_54 C hE s11 x1 h
    · have h := bq_f q h
      refine aw_aload_n C 0 dX12_sign_20 rfl ?_
      refine rg_md_pile C lw_8_5 dX12_sign_21 ?_
      refine aw_aload_n C 0 dX12_sign_24 rfl ?_
      refine rg_md_piled C lw_20_4 dX12_sign_25 ?_
      refine aw_iconst (v := 1) C dX12_sign_28 (by decide) ?_
      refine aw_isub C dX12_sign_29 ?_
      obtain ⟨q13, h⟩ := oA_e h
      refine ra_iald (k := 4) C (by decide) rfl q13 dX12_sign_30 ?_
      obtain ⟨⟨v14, s15⟩, cw16, h⟩ := oC_e h
      have h := oL_e (x := s15) rfl (oL_e (x := v14) rfl h)
      refine aw_callSi (n := 1) (As := [.int (s11.2.1 4 (Int32.toNatClampNeg ((s11.1 17) - (1 : Int32))))]) (rest := []) C (c_X12_bind l D N s11 s15 (s11.2.1 4 (Int32.toNatClampNeg ((s11.1 17) - (1 : Int32)))) v14 cw16) lw_21_2 lw_21_3 lw_1_5 lw_21_4 rfl rfl (by decide +kernel) ⟨Nat.le_of_ble_eq_true rfl, Nat.le_of_ble_eq_true rfl⟩ rfl rfl (Nat.le_of_ble_eq_true rfl) dX12_sign_31 ?_
      refine aw_iconst (v := 4) C dX12_sign_34 (by decide) ?_
      refine aw_icmp_ne (tgt := 54) C dX12_sign_35 (by decide) (fun q => ?_) (fun q => ?_)
      · have h := bq_f q h
        refine aw_sub (lv' := [(0, .ref (N.1 0)), (1, .int x1)]) [0, 1] rfl ?_
        exact T_X12_sign_54 C hE s15 x1 h
      · have h := bq_t q h
        refine aw_aload_n C 0 dX12_sign_38 rfl ?_
        refine aw_iconst (v := 1) C dX12_sign_39 (by decide) ?_
        obtain ⟨s18, cw19, h⟩ := oC_e h
        have h := oL_e (x := s18) rfl h
        refine aw_callVv (n := 1) (As := [.int (1 : Int32)]) (rest := []) (q0 := 0) C (c_X12_wrong l D N s15 s18 (1 : Int32) cw19) lw_19_8 lw_19_9 lw_19_10 lw_1_5 lw_19_11 rfl rfl (by decide +kernel) ⟨Nat.le_of_ble_eq_true rfl, Nat.le_of_ble_eq_true rfl⟩ rfl rfl rfl rfl rfl (Nat.le_of_ble_eq_true rfl) dX12_sign_40 ?_
        refine aw_goto (tgt := 54) C dX12_sign_43 (by decide) ?_
        refine aw_sub (lv' := [(0, .ref (N.1 0)), (1, .int x1)]) [0, 1] rfl ?_
        exact T_X12_sign_54 C hE s18 x1 h
def f_X12_sign (s0 : St) (x1 : Int32) : Option (St) := F_X12_sign_0 s0 x1
theorem c_X12_sign (l : Launch) (D : va_G) (N : Nm) (s0 z1 : St) (x1 : Int32) (h : f_X12_sign s0 x1 = some z1) : Metv l yX12_sign (tsU yX12_sign cX12_sign 2 none) rm_X12_sign D N [.ref (N.1 0), .int x1] (wR N s0) (wR N z1) :=
  met_v (cc := cX12_sign) (nL := 2) (own := RX12) (by decide) rfl (Nat.le_of_ble_eq_true rfl) (fun p e s m args below meth c Q A C hE => aw_sub [0, 1] rfl (T_X12_sign_0 C hE s0 x1 h))
/-! AwardLineModel.operand()Z -/
def rm_X12_operand : Room := { frames := 7, cells := 0, slots := 0, locals := 150 }
def F_X12_operand_206 (s0 : St) : Option (Int32 × St) :=
  oC (f_X12_wrong s0 (1 : Int32)) fun w3 =>
  oL w3 fun s2 =>
  some ((0 : Int32), s2)
set_option maxHeartbeats 4000000 in
set_option maxRecDepth 100000 in
theorem T_X12_operand_206 {r : Int32} {z1 : St} (C : Cx p rm_X12_operand s m args c D A cX12_operand 2 RX12 rm_X12_operand N) (hE : En p l e rm_X12_operand s m args below meth c Q D A cX12_operand .ireturn (wR N z1) [.int r])  (s0 : St) (h : F_X12_operand_206 s0 = some (r, z1)) : Aw p l e rm_X12_operand s m args below meth c Q D A 2 (wR N s0) 206 [(0, .ref (N.1 0))] [] := by
  unfold F_X12_operand_206 at h
  refine aw_aload_n C 0 dX12_operand_206 rfl ?_
  refine aw_iconst (v := 1) C dX12_operand_207 (by decide) ?_
  obtain ⟨s2, cw3, h⟩ := oC_e h
  have h := oL_e (x := s2) rfl h
  refine aw_callVv (n := 1) (As := [.int (1 : Int32)]) (rest := []) (q0 := 0) C (c_X12_wrong l D N s0 s2 (1 : Int32) cw3) lw_19_8 lw_19_9 lw_19_10 lw_1_5 lw_19_11 rfl rfl (by decide +kernel) ⟨Nat.le_of_ble_eq_true rfl, Nat.le_of_ble_eq_true rfl⟩ rfl rfl rfl rfl rfl (Nat.le_of_ble_eq_true rfl) dX12_operand_208 ?_
  refine aw_iconst (v := 0) C dX12_operand_211 (by decide) ?_
  cases h
  exact aw_ret hE dX12_operand_212
def F_X12_operand_231 (s0 : St) : Option (Int32 × St) :=
  some ((0 : Int32), s0)
set_option maxHeartbeats 4000000 in
set_option maxRecDepth 100000 in
theorem T_X12_operand_231 {r : Int32} {z1 : St} (C : Cx p rm_X12_operand s m args c D A cX12_operand 2 RX12 rm_X12_operand N) (hE : En p l e rm_X12_operand s m args below meth c Q D A cX12_operand .ireturn (wR N z1) [.int r])  (s0 : St) (h : F_X12_operand_231 s0 = some (r, z1)) : Aw p l e rm_X12_operand s m args below meth c Q D A 2 (wR N s0) 231 [] [] := by
  unfold F_X12_operand_231 at h
  refine aw_iconst (v := 0) C dX12_operand_231 (by decide) ?_
  cases h
  exact aw_ret hE dX12_operand_232
def F_X12_operand_185 (s0 : St) (t0 : Int32) : Option (Int32 × St) :=
  if (s0.1 11) = 0 then (
    if (s0.1 12) = (13 : Int32) then (
      if t0 = 0 then (
        F_X12_operand_206 s0)
      else (
        oC (f_X12_knot s0) fun w3 =>
        oL w3 fun s2 =>
        if (s2.1 13) = 0 then (
          oC (f_X12_waits s2 (260 : Int32)) fun w6 =>
          oL w6 fun s5 =>
          F_X12_operand_231 s5)
        else (
          F_X12_operand_231 s2)))
    else (
      F_X12_operand_206 s0))
  else (
    F_X12_operand_206 s0)
set_option maxHeartbeats 4000000 in
set_option maxRecDepth 100000 in
theorem T_X12_operand_185 {r : Int32} {z1 : St} (C : Cx p rm_X12_operand s m args c D A cX12_operand 2 RX12 rm_X12_operand N) (hE : En p l e rm_X12_operand s m args below meth c Q D A cX12_operand .ireturn (wR N z1) [.int r])  (s0 : St) (t0 : Int32) (h : F_X12_operand_185 s0 t0 = some (r, z1)) : Aw p l e rm_X12_operand s m args below meth c Q D A 2 (wR N s0) 185 [(0, .ref (N.1 0))] [.int t0] := by
  unfold F_X12_operand_185 at h
  refine aw_istore_n (lv' := [(0, .ref (N.1 0)), (1, .int t0)]) C [1, 0] dX12_operand_185 rfl (by decide) rfl ?_
  refine aw_aload_n C 0 dX12_operand_186 rfl ?_
  refine rg_md_sort C lw_18_1 dX12_operand_187 ?_
  refine aw_if_ne (tgt := 206) C dX12_operand_190 (by decide) (fun q => ?_) (fun q => ?_)
  · have h := bq_f q h
    refine aw_sub (lv' := [(0, .ref (N.1 0))]) [0] rfl ?_
    exact T_X12_operand_206 C hE s0 h
  · have h := bq_t q h
    refine aw_aload_n C 0 dX12_operand_193 rfl ?_
    refine rg_md_value C lw_18_11 dX12_operand_194 ?_
    refine aw_bipush (v := 13) C dX12_operand_197 (by decide) ?_
    refine aw_icmp_ne (tgt := 206) C dX12_operand_199 (by decide) (fun q => ?_) (fun q => ?_)
    · have h := bq_f q h
      refine aw_sub (lv' := [(0, .ref (N.1 0))]) [0] rfl ?_
      exact T_X12_operand_206 C hE s0 h
    · have h := bq_t q h
      refine aw_iload_n C 1 dX12_operand_202 rfl ?_
      refine aw_if_ne (tgt := 213) C dX12_operand_203 (by decide) (fun q => ?_) (fun q => ?_)
      · have h := bq_f q h
        refine aw_aload_n C 0 dX12_operand_213 rfl ?_
        obtain ⟨s2, cw3, h⟩ := oC_e h
        have h := oL_e (x := s2) rfl h
        refine aw_callVv (n := 0) (As := []) (rest := []) (q0 := 0) C (c_X12_knot l D N s0 s2 cw3) lw_20_10 lw_20_11 lw_20_12 lw_1_5 lw_20_13 rfl rfl (by decide +kernel) ⟨Nat.le_of_ble_eq_true rfl, Nat.le_of_ble_eq_true rfl⟩ rfl rfl rfl rfl rfl (Nat.le_of_ble_eq_true rfl) dX12_operand_214 ?_
        refine aw_aload_n C 0 dX12_operand_217 rfl ?_
        refine rg_md_fault C lw_17_19 dX12_operand_218 ?_
        refine aw_if_ne (tgt := 231) C dX12_operand_221 (by decide) (fun q => ?_) (fun q => ?_)
        · have h := bq_f q h
          refine aw_sub (lv' := []) [] rfl ?_
          exact T_X12_operand_231 C hE s2 h
        · have h := bq_t q h
          refine aw_aload_n C 0 dX12_operand_224 rfl ?_
          refine aw_sipush (v := 260) C dX12_operand_225 (by decide) ?_
          obtain ⟨s5, cw6, h⟩ := oC_e h
          have h := oL_e (x := s5) rfl h
          refine aw_callVv (n := 1) (As := [.int (260 : Int32)]) (rest := []) (q0 := 0) C (c_X12_waits l D N s2 s5 (260 : Int32) cw6) lw_20_22 lw_20_23 lw_21_0 lw_1_5 lw_21_1 rfl rfl (by decide +kernel) ⟨Nat.le_of_ble_eq_true rfl, Nat.le_of_ble_eq_true rfl⟩ rfl rfl rfl rfl rfl (Nat.le_of_ble_eq_true rfl) dX12_operand_228 ?_
          refine aw_sub (lv' := []) [] rfl ?_
          exact T_X12_operand_231 C hE s5 h
      · have h := bq_t q h
        refine aw_sub (lv' := [(0, .ref (N.1 0))]) [0] rfl ?_
        exact T_X12_operand_206 C hE s0 h
def F_X12_operand_180 (s0 : St) : Option (Int32 × St) :=
  F_X12_operand_185 s0 (1 : Int32)
set_option maxHeartbeats 4000000 in
set_option maxRecDepth 100000 in
theorem T_X12_operand_180 {r : Int32} {z1 : St} (C : Cx p rm_X12_operand s m args c D A cX12_operand 2 RX12 rm_X12_operand N) (hE : En p l e rm_X12_operand s m args below meth c Q D A cX12_operand .ireturn (wR N z1) [.int r])  (s0 : St) (h : F_X12_operand_180 s0 = some (r, z1)) : Aw p l e rm_X12_operand s m args below meth c Q D A 2 (wR N s0) 180 [(0, .ref (N.1 0))] [] := by
  unfold F_X12_operand_180 at h
  refine aw_iconst (v := 1) C dX12_operand_180 (by decide) ?_
  refine aw_goto (tgt := 185) C dX12_operand_181 (by decide) ?_
  refine aw_sub (lv' := [(0, .ref (N.1 0))]) [0] rfl ?_
  exact T_X12_operand_185 C hE s0 (1 : Int32) h
def F_X12_operand_128 (s0 : St) : Option (Int32 × St) :=
  if (s0.1 13) = 0 then (
    oL (sI s0 18 ((s0.1 18) + (1 : Int32))) fun s1 =>
    oC (f_X12_waits s1 (40 : Int32)) fun w4 =>
    oL w4 fun s3 =>
    some ((0 : Int32), s3))
  else (
    some ((0 : Int32), s0))
set_option maxHeartbeats 4000000 in
set_option maxRecDepth 100000 in
theorem T_X12_operand_128 {r : Int32} {z1 : St} (C : Cx p rm_X12_operand s m args c D A cX12_operand 2 RX12 rm_X12_operand N) (hE : En p l e rm_X12_operand s m args below meth c Q D A cX12_operand .ireturn (wR N z1) [.int r])  (s0 : St) (h : F_X12_operand_128 s0 = some (r, z1)) : Aw p l e rm_X12_operand s m args below meth c Q D A 2 (wR N s0) 128 [(0, .ref (N.1 0))] [] := by
  unfold F_X12_operand_128 at h
  refine aw_aload_n C 0 dX12_operand_128 rfl ?_
  refine rg_md_fault C lw_17_19 dX12_operand_129 ?_
  refine aw_if_eq (tgt := 137) C dX12_operand_132 (by decide) (fun q => ?_) (fun q => ?_)
  · have h := bq_t q h
    refine aw_aload_n C 0 dX12_operand_137 rfl ?_
    refine aw_dup C dX12_operand_138 rfl ?_
    refine rg_md_open C lw_20_5 dX12_operand_139 ?_
    refine aw_iconst (v := 1) C dX12_operand_142 (by decide) ?_
    refine aw_iadd C dX12_operand_143 ?_
    refine rp_md_open C lw_20_5 dX12_operand_144 ?_
    refine ra_name (fun s1 es1 => ?_)
    have h := oL_e es1 h
    refine aw_aload_n C 0 dX12_operand_147 rfl ?_
    refine aw_bipush (v := 40) C dX12_operand_148 (by decide) ?_
    obtain ⟨s3, cw4, h⟩ := oC_e h
    have h := oL_e (x := s3) rfl h
    refine aw_callVv (n := 1) (As := [.int (40 : Int32)]) (rest := []) (q0 := 0) C (c_X12_waits l D N s1 s3 (40 : Int32) cw4) lw_20_22 lw_20_23 lw_21_0 lw_1_5 lw_21_1 rfl rfl (by decide +kernel) ⟨Nat.le_of_ble_eq_true rfl, Nat.le_of_ble_eq_true rfl⟩ rfl rfl rfl rfl rfl (Nat.le_of_ble_eq_true rfl) dX12_operand_150 ?_
    refine aw_iconst (v := 0) C dX12_operand_153 (by decide) ?_
    cases h
    exact aw_ret hE dX12_operand_154
  · have h := bq_f q h
    refine aw_iconst (v := 0) C dX12_operand_135 (by decide) ?_
    cases h
    exact aw_ret hE dX12_operand_136
def F_X12_operand_105 (s0 : St) : Option (Int32 × St) :=
  oC (f_X12_isSign s0 (40 : Int32)) fun w3 =>
  oL w3.1 fun v1 => oL w3.2 fun s2 =>
  if v1 = 0 then (
    if (s2.1 17) = 0 then (
      F_X12_operand_180 s2)
    else (
      oA ((s2.1 17) - (1 : Int32)) 96 <|
      oC (f_X12_bind s2 (s2.2.1 4 (Int32.toNatClampNeg ((s2.1 17) - (1 : Int32))))) fun w7 =>
      oL w7.1 fun v5 => oL w7.2 fun s6 =>
      if (4 : Int32) ≤ v5 then (
        F_X12_operand_185 s6 (0 : Int32))
      else (
        F_X12_operand_180 s6)))
  else (
    if (s2.1 18) = (8 : Int32) then (
      oC (f_X12_wrong s2 (2 : Int32)) fun w10 =>
      oL w10 fun s9 =>
      F_X12_operand_128 s9)
    else (
      F_X12_operand_128 s2))
set_option maxHeartbeats 4000000 in
set_option maxRecDepth 100000 in
theorem T_X12_operand_105 {r : Int32} {z1 : St} (C : Cx p rm_X12_operand s m args c D A cX12_operand 2 RX12 rm_X12_operand N) (hE : En p l e rm_X12_operand s m args below meth c Q D A cX12_operand .ireturn (wR N z1) [.int r])  (s0 : St) (h : F_X12_operand_105 s0 = some (r, z1)) : Aw p l e rm_X12_operand s m args below meth c Q D A 2 (wR N s0) 105 [(0, .ref (N.1 0))] [] := by
  unfold F_X12_operand_105 at h
  refine aw_aload_n C 0 dX12_operand_105 rfl ?_
  refine aw_bipush (v := 40) C dX12_operand_106 (by decide) ?_
  obtain ⟨⟨v1, s2⟩, cw3, h⟩ := oC_e h
  have h := oL_e (x := s2) rfl (oL_e (x := v1) rfl h)
  refine aw_callVi (n := 1) (As := [.int (40 : Int32)]) (rest := []) (q0 := 0) C (c_X12_isSign l D N s0 s2 (40 : Int32) v1 cw3) lw_20_18 lw_20_19 lw_20_20 lw_1_5 lw_20_21 rfl rfl (by decide +kernel) ⟨Nat.le_of_ble_eq_true rfl, Nat.le_of_ble_eq_true rfl⟩ rfl rfl rfl rfl rfl (Nat.le_of_ble_eq_true rfl) dX12_operand_108 ?_
  refine aw_if_eq (tgt := 155) C dX12_operand_111 (by decide) (fun q => ?_) (fun q => ?_)
  · have h := bq_t q h
    refine aw_aload_n C 0 dX12_operand_155 rfl ?_
    refine rg_md_piled C lw_20_4 dX12_operand_156 ?_
    refine aw_if_eq (tgt := 180) C dX12_operand_159 (by decide) (fun q => ?_) (fun q => ?_)
    · have h := bq_t q h
      refine aw_sub (lv' := [(0, .ref (N.1 0))]) [0] rfl ?_
      exact T_X12_operand_180 C hE s2 h
    · have h := bq_f q h
      refine aw_aload_n C 0 dX12_operand_162 rfl ?_
      refine rg_md_pile C lw_8_5 dX12_operand_163 ?_
      refine aw_aload_n C 0 dX12_operand_166 rfl ?_
      refine rg_md_piled C lw_20_4 dX12_operand_167 ?_
      refine aw_iconst (v := 1) C dX12_operand_170 (by decide) ?_
      refine aw_isub C dX12_operand_171 ?_
      obtain ⟨q4, h⟩ := oA_e h
      refine ra_iald (k := 4) C (by decide) rfl q4 dX12_operand_172 ?_
      obtain ⟨⟨v5, s6⟩, cw7, h⟩ := oC_e h
      have h := oL_e (x := s6) rfl (oL_e (x := v5) rfl h)
      refine aw_callSi (n := 1) (As := [.int (s2.2.1 4 (Int32.toNatClampNeg ((s2.1 17) - (1 : Int32))))]) (rest := []) C (c_X12_bind l D N s2 s6 (s2.2.1 4 (Int32.toNatClampNeg ((s2.1 17) - (1 : Int32)))) v5 cw7) lw_21_2 lw_21_3 lw_1_5 lw_21_4 rfl rfl (by decide +kernel) ⟨Nat.le_of_ble_eq_true rfl, Nat.le_of_ble_eq_true rfl⟩ rfl rfl (Nat.le_of_ble_eq_true rfl) dX12_operand_173 ?_
      refine aw_iconst (v := 4) C dX12_operand_176 (by decide) ?_
      refine aw_icmp_ge (tgt := 184) C dX12_operand_177 (by decide) (fun q => ?_) (fun q => ?_)
      · have h := bq_t q h
        refine aw_iconst (v := 0) C dX12_operand_184 (by decide) ?_
        refine aw_sub (lv' := [(0, .ref (N.1 0))]) [0] rfl ?_
        exact T_X12_operand_185 C hE s6 (0 : Int32) h
      · have h := bq_f q h
        refine aw_sub (lv' := [(0, .ref (N.1 0))]) [0] rfl ?_
        exact T_X12_operand_180 C hE s6 h
  · have h := bq_f q h
    refine aw_aload_n C 0 dX12_operand_114 rfl ?_
    refine rg_md_open C lw_20_5 dX12_operand_115 ?_
    refine aw_bipush (v := 8) C dX12_operand_118 (by decide) ?_
    refine aw_icmp_ne (tgt := 128) C dX12_operand_120 (by decide) (fun q => ?_) (fun q => ?_)
    · have h := bq_f q h
      refine aw_sub (lv' := [(0, .ref (N.1 0))]) [0] rfl ?_
      exact T_X12_operand_128 C hE s2 h
    · have h := bq_t q h
      refine aw_aload_n C 0 dX12_operand_123 rfl ?_
      refine aw_iconst (v := 2) C dX12_operand_124 (by decide) ?_
      obtain ⟨s9, cw10, h⟩ := oC_e h
      have h := oL_e (x := s9) rfl h
      refine aw_callVv (n := 1) (As := [.int (2 : Int32)]) (rest := []) (q0 := 0) C (c_X12_wrong l D N s2 s9 (2 : Int32) cw10) lw_19_8 lw_19_9 lw_19_10 lw_1_5 lw_19_11 rfl rfl (by decide +kernel) ⟨Nat.le_of_ble_eq_true rfl, Nat.le_of_ble_eq_true rfl⟩ rfl rfl rfl rfl rfl (Nat.le_of_ble_eq_true rfl) dX12_operand_125 ?_
      refine aw_sub (lv' := [(0, .ref (N.1 0))]) [0] rfl ?_
      exact T_X12_operand_128 C hE s9 h
def F_X12_operand_34 (s0 : St) : Option (Int32 × St) :=
  if (s0.1 13) = 0 then (
    oC (f_X12_out s0 (0 : Int32) (s0.1 12)) fun w3 =>
    oL w3 fun s2 =>
    oC (f_X12_next s2) fun w6 =>
    oL w6 fun s5 =>
    some ((1 : Int32), s5))
  else (
    some ((0 : Int32), s0))
set_option maxHeartbeats 4000000 in
set_option maxRecDepth 100000 in
theorem T_X12_operand_34 {r : Int32} {z1 : St} (C : Cx p rm_X12_operand s m args c D A cX12_operand 2 RX12 rm_X12_operand N) (hE : En p l e rm_X12_operand s m args below meth c Q D A cX12_operand .ireturn (wR N z1) [.int r])  (s0 : St) (h : F_X12_operand_34 s0 = some (r, z1)) : Aw p l e rm_X12_operand s m args below meth c Q D A 2 (wR N s0) 34 [(0, .ref (N.1 0))] [] := by
  unfold F_X12_operand_34 at h
  refine aw_aload_n C 0 dX12_operand_34 rfl ?_
  refine rg_md_fault C lw_17_19 dX12_operand_35 ?_
  refine aw_if_eq (tgt := 43) C dX12_operand_38 (by decide) (fun q => ?_) (fun q => ?_)
  · have h := bq_t q h
    refine aw_aload_n C 0 dX12_operand_43 rfl ?_
    refine aw_iconst (v := 0) C dX12_operand_44 (by decide) ?_
    refine aw_aload_n C 0 dX12_operand_45 rfl ?_
    refine rg_md_value C lw_18_11 dX12_operand_46 ?_
    obtain ⟨s2, cw3, h⟩ := oC_e h
    have h := oL_e (x := s2) rfl h
    refine aw_callVv (n := 2) (As := [.int (0 : Int32), .int (s0.1 12)]) (rest := []) (q0 := 0) C (c_X12_out l D N s0 s2 (0 : Int32) (s0.1 12) cw3) lw_20_14 lw_20_15 lw_20_16 lw_1_5 lw_20_17 rfl rfl (by decide +kernel) ⟨Nat.le_of_ble_eq_true rfl, Nat.le_of_ble_eq_true rfl⟩ rfl rfl rfl rfl rfl (Nat.le_of_ble_eq_true rfl) dX12_operand_49 ?_
    refine aw_aload_n C 0 dX12_operand_52 rfl ?_
    obtain ⟨s5, cw6, h⟩ := oC_e h
    have h := oL_e (x := s5) rfl h
    refine aw_callVv (n := 0) (As := []) (rest := []) (q0 := 0) C (c_X12_next l D N s2 s5 cw6) lw_18_6 lw_18_7 lw_18_8 lw_1_5 lw_18_9 rfl rfl (by decide +kernel) ⟨Nat.le_of_ble_eq_true rfl, Nat.le_of_ble_eq_true rfl⟩ rfl rfl rfl rfl rfl (Nat.le_of_ble_eq_true rfl) dX12_operand_53 ?_
    refine aw_iconst (v := 1) C dX12_operand_56 (by decide) ?_
    cases h
    exact aw_ret hE dX12_operand_57
  · have h := bq_f q h
    refine aw_iconst (v := 0) C dX12_operand_41 (by decide) ?_
    cases h
    exact aw_ret hE dX12_operand_42
def F_X12_operand_23 (s0 : St) : Option (Int32 × St) :=
  if (s0.1 13) = 0 then (
    oC (f_X12_knot s0) fun w3 =>
    oL w3 fun s2 =>
    F_X12_operand_34 s2)
  else (
    F_X12_operand_34 s0)
set_option maxHeartbeats 4000000 in
set_option maxRecDepth 100000 in
theorem T_X12_operand_23 {r : Int32} {z1 : St} (C : Cx p rm_X12_operand s m args c D A cX12_operand 2 RX12 rm_X12_operand N) (hE : En p l e rm_X12_operand s m args below meth c Q D A cX12_operand .ireturn (wR N z1) [.int r])  (s0 : St) (h : F_X12_operand_23 s0 = some (r, z1)) : Aw p l e rm_X12_operand s m args below meth c Q D A 2 (wR N s0) 23 [(0, .ref (N.1 0))] [] := by
  unfold F_X12_operand_23 at h
  refine aw_aload_n C 0 dX12_operand_23 rfl ?_
  refine rg_md_fault C lw_17_19 dX12_operand_24 ?_
  refine aw_if_ne (tgt := 34) C dX12_operand_27 (by decide) (fun q => ?_) (fun q => ?_)
  · have h := bq_f q h
    refine aw_sub (lv' := [(0, .ref (N.1 0))]) [0] rfl ?_
    exact T_X12_operand_34 C hE s0 h
  · have h := bq_t q h
    refine aw_aload_n C 0 dX12_operand_30 rfl ?_
    obtain ⟨s2, cw3, h⟩ := oC_e h
    have h := oL_e (x := s2) rfl h
    refine aw_callVv (n := 0) (As := []) (rest := []) (q0 := 0) C (c_X12_knot l D N s0 s2 cw3) lw_20_10 lw_20_11 lw_20_12 lw_1_5 lw_20_13 rfl rfl (by decide +kernel) ⟨Nat.le_of_ble_eq_true rfl, Nat.le_of_ble_eq_true rfl⟩ rfl rfl rfl rfl rfl (Nat.le_of_ble_eq_true rfl) dX12_operand_31 ?_
    refine aw_sub (lv' := [(0, .ref (N.1 0))]) [0] rfl ?_
    exact T_X12_operand_34 C hE s2 h
def F_X12_operand_0 (s0 : St) : Option (Int32 × St) :=
  if (s0.1 11) = (1 : Int32) then (
    if (s0.1 12) ≤ (9999 : Int32) then (
      F_X12_operand_23 s0)
    else (
      oC (f_X12_wrong s0 (2 : Int32)) fun w12 =>
      oL w12 fun s11 =>
      F_X12_operand_23 s11))
  else (
    if (s0.1 11) = 0 then (
      if (s0.1 12) < (14 : Int32) then (
        F_X12_operand_105 s0)
      else (
        oC (f_X12_knot s0) fun w3 =>
        oL w3 fun s2 =>
        if (s2.1 13) = 0 then (
          oC (f_X12_out s2 (1 : Int32) ((s2.1 12) - (14 : Int32))) fun w6 =>
          oL w6 fun s5 =>
          oC (f_X12_next s5) fun w9 =>
          oL w9 fun s8 =>
          some ((1 : Int32), s8))
        else (
          some ((0 : Int32), s2))))
    else (
      F_X12_operand_105 s0))
set_option maxHeartbeats 4000000 in
set_option maxRecDepth 100000 in
theorem T_X12_operand_0 {r : Int32} {z1 : St} (C : Cx p rm_X12_operand s m args c D A cX12_operand 2 RX12 rm_X12_operand N) (hE : En p l e rm_X12_operand s m args below meth c Q D A cX12_operand .ireturn (wR N z1) [.int r])  (s0 : St) (h : F_X12_operand_0 s0 = some (r, z1)) : Aw p l e rm_X12_operand s m args below meth c Q D A 2 (wR N s0) 0 [(0, .ref (N.1 0))] [] := by
  unfold F_X12_operand_0 at h
  refine aw_aload_n C 0 dX12_operand_0 rfl ?_
  refine rg_md_sort C lw_18_1 dX12_operand_1 ?_
  refine aw_iconst (v := 1) C dX12_operand_4 (by decide) ?_
  refine aw_icmp_ne (tgt := 58) C dX12_operand_5 (by decide) (fun q => ?_) (fun q => ?_)
  · have h := bq_f q h
    refine aw_aload_n C 0 dX12_operand_58 rfl ?_
    refine rg_md_sort C lw_18_1 dX12_operand_59 ?_
    refine aw_if_ne (tgt := 105) C dX12_operand_62 (by decide) (fun q => ?_) (fun q => ?_)
    · have h := bq_f q h
      refine aw_sub (lv' := [(0, .ref (N.1 0))]) [0] rfl ?_
      exact T_X12_operand_105 C hE s0 h
    · have h := bq_t q h
      refine aw_aload_n C 0 dX12_operand_65 rfl ?_
      refine rg_md_value C lw_18_11 dX12_operand_66 ?_
      refine aw_bipush (v := 14) C dX12_operand_69 (by decide) ?_
      refine aw_icmp_lt (tgt := 105) C dX12_operand_71 (by decide) (fun q => ?_) (fun q => ?_)
      · have h := bq_t q h
        refine aw_sub (lv' := [(0, .ref (N.1 0))]) [0] rfl ?_
        exact T_X12_operand_105 C hE s0 h
      · have h := bq_f q h
        refine aw_aload_n C 0 dX12_operand_74 rfl ?_
        obtain ⟨s2, cw3, h⟩ := oC_e h
        have h := oL_e (x := s2) rfl h
        refine aw_callVv (n := 0) (As := []) (rest := []) (q0 := 0) C (c_X12_knot l D N s0 s2 cw3) lw_20_10 lw_20_11 lw_20_12 lw_1_5 lw_20_13 rfl rfl (by decide +kernel) ⟨Nat.le_of_ble_eq_true rfl, Nat.le_of_ble_eq_true rfl⟩ rfl rfl rfl rfl rfl (Nat.le_of_ble_eq_true rfl) dX12_operand_75 ?_
        refine aw_aload_n C 0 dX12_operand_78 rfl ?_
        refine rg_md_fault C lw_17_19 dX12_operand_79 ?_
        refine aw_if_eq (tgt := 87) C dX12_operand_82 (by decide) (fun q => ?_) (fun q => ?_)
        · have h := bq_t q h
          refine aw_aload_n C 0 dX12_operand_87 rfl ?_
          refine aw_iconst (v := 1) C dX12_operand_88 (by decide) ?_
          refine aw_aload_n C 0 dX12_operand_89 rfl ?_
          refine rg_md_value C lw_18_11 dX12_operand_90 ?_
          refine aw_bipush (v := 14) C dX12_operand_93 (by decide) ?_
          refine aw_isub C dX12_operand_95 ?_
          obtain ⟨s5, cw6, h⟩ := oC_e h
          have h := oL_e (x := s5) rfl h
          refine aw_callVv (n := 2) (As := [.int (1 : Int32), .int ((s2.1 12) - (14 : Int32))]) (rest := []) (q0 := 0) C (c_X12_out l D N s2 s5 (1 : Int32) ((s2.1 12) - (14 : Int32)) cw6) lw_20_14 lw_20_15 lw_20_16 lw_1_5 lw_20_17 rfl rfl (by decide +kernel) ⟨Nat.le_of_ble_eq_true rfl, Nat.le_of_ble_eq_true rfl⟩ rfl rfl rfl rfl rfl (Nat.le_of_ble_eq_true rfl) dX12_operand_96 ?_
          refine aw_aload_n C 0 dX12_operand_99 rfl ?_
          obtain ⟨s8, cw9, h⟩ := oC_e h
          have h := oL_e (x := s8) rfl h
          refine aw_callVv (n := 0) (As := []) (rest := []) (q0 := 0) C (c_X12_next l D N s5 s8 cw9) lw_18_6 lw_18_7 lw_18_8 lw_1_5 lw_18_9 rfl rfl (by decide +kernel) ⟨Nat.le_of_ble_eq_true rfl, Nat.le_of_ble_eq_true rfl⟩ rfl rfl rfl rfl rfl (Nat.le_of_ble_eq_true rfl) dX12_operand_100 ?_
          refine aw_iconst (v := 1) C dX12_operand_103 (by decide) ?_
          cases h
          exact aw_ret hE dX12_operand_104
        · have h := bq_f q h
          refine aw_iconst (v := 0) C dX12_operand_85 (by decide) ?_
          cases h
          exact aw_ret hE dX12_operand_86
  · have h := bq_t q h
    refine aw_aload_n C 0 dX12_operand_8 rfl ?_
    refine rg_md_value C lw_18_11 dX12_operand_9 ?_
    refine aw_sipush (v := 9999) C dX12_operand_12 (by decide) ?_
    refine aw_icmp_le (tgt := 23) C dX12_operand_15 (by decide) (fun q => ?_) (fun q => ?_)
    · have h := bq_t q h
      refine aw_sub (lv' := [(0, .ref (N.1 0))]) [0] rfl ?_
      exact T_X12_operand_23 C hE s0 h
    · have h := bq_f q h
      refine aw_aload_n C 0 dX12_operand_18 rfl ?_
      refine aw_iconst (v := 2) C dX12_operand_19 (by decide) ?_
      obtain ⟨s11, cw12, h⟩ := oC_e h
      have h := oL_e (x := s11) rfl h
      refine aw_callVv (n := 1) (As := [.int (2 : Int32)]) (rest := []) (q0 := 0) C (c_X12_wrong l D N s0 s11 (2 : Int32) cw12) lw_19_8 lw_19_9 lw_19_10 lw_1_5 lw_19_11 rfl rfl (by decide +kernel) ⟨Nat.le_of_ble_eq_true rfl, Nat.le_of_ble_eq_true rfl⟩ rfl rfl rfl rfl rfl (Nat.le_of_ble_eq_true rfl) dX12_operand_20 ?_
      refine aw_sub (lv' := [(0, .ref (N.1 0))]) [0] rfl ?_
      exact T_X12_operand_23 C hE s11 h
def f_X12_operand (s0 : St) : Option (Int32 × St) := oC (F_X12_operand_0 s0) fun w => oZ w.1 (some w)
theorem c_X12_operand (l : Launch) (D : va_G) (N : Nm) (s0 z1 : St) (r : Int32) (h : f_X12_operand s0 = some (r, z1)) : Meti l yX12_operand (tsU yX12_operand cX12_operand 2 (some .boolean)) rm_X12_operand D N [.ref (N.1 0)] (wR N s0) r (wR N z1) := by
  obtain ⟨w, h1, h2⟩ := oC_e h
  obtain ⟨hz, h2⟩ := oZ_e h2
  cases h2
  exact met_z (cc := cX12_operand) (nL := 2) (own := RX12) (by decide) rfl (Nat.le_of_ble_eq_true rfl) (zN hz) (fun p e s m args below meth c Q A C hE => aw_sub [0] rfl (T_X12_operand_0 C hE s0 h1))
/-! AwardLineModel.expression()V -/
def rm_X12_expression : Room := { frames := 8, cells := 0, slots := 0, locals := 171 }
def F_X12_expression_141 (s0 : St) : Option (St) :=
  some s0
set_option maxHeartbeats 4000000 in
set_option maxRecDepth 100000 in
theorem T_X12_expression_141 {z1 : St} (C : Cx p rm_X12_expression s m args c D A cX12_expression 4 RX12 rm_X12_expression N) (hE : En p l e rm_X12_expression s m args below meth c Q D A cX12_expression .return_ (wR N z1) [])  (s0 : St) (h : F_X12_expression_141 s0 = some z1) : Aw p l e rm_X12_expression s m args below meth c Q D A 4 (wR N s0) 141 [] [] := by
  unfold F_X12_expression_141 at h
  cases h
  exact aw_ret hE dX12_expression_141
def F_X12_expression_129 (s0 : St) : Option (St) :=
  if (s0.1 13) = 0 then (
    oC (f_X12_pour s0 (1 : Int32)) fun w3 =>
    oL w3 fun s2 =>
    F_X12_expression_141 s2)
  else (
    F_X12_expression_141 s0)
set_option maxHeartbeats 4000000 in
set_option maxRecDepth 100000 in
theorem T_X12_expression_129 {z1 : St} (C : Cx p rm_X12_expression s m args c D A cX12_expression 4 RX12 rm_X12_expression N) (hE : En p l e rm_X12_expression s m args below meth c Q D A cX12_expression .return_ (wR N z1) [])  (s0 : St) (h : F_X12_expression_129 s0 = some z1) : Aw p l e rm_X12_expression s m args below meth c Q D A 4 (wR N s0) 129 [(0, .ref (N.1 0))] [] := by
  unfold F_X12_expression_129 at h
  refine aw_aload_n C 0 dX12_expression_129 rfl ?_
  refine rg_md_fault C lw_17_19 dX12_expression_130 ?_
  refine aw_if_ne (tgt := 141) C dX12_expression_133 (by decide) (fun q => ?_) (fun q => ?_)
  · have h := bq_f q h
    refine aw_sub (lv' := []) [] rfl ?_
    exact T_X12_expression_141 C hE s0 h
  · have h := bq_t q h
    refine aw_aload_n C 0 dX12_expression_136 rfl ?_
    refine aw_iconst (v := 1) C dX12_expression_137 (by decide) ?_
    obtain ⟨s2, cw3, h⟩ := oC_e h
    have h := oL_e (x := s2) rfl h
    refine aw_callVv (n := 1) (As := [.int (1 : Int32)]) (rest := []) (q0 := 0) C (c_X12_pour l D N s0 s2 (1 : Int32) cw3) lw_21_13 lw_21_14 lw_21_15 lw_1_5 lw_21_16 rfl rfl (by decide +kernel) ⟨Nat.le_of_ble_eq_true rfl, Nat.le_of_ble_eq_true rfl⟩ rfl rfl rfl rfl rfl (Nat.le_of_ble_eq_true rfl) dX12_expression_138 ?_
    refine aw_sub (lv' := []) [] rfl ?_
    exact T_X12_expression_141 C hE s2 h
def F_X12_expression_109 (s0 : St) : Option (St) :=
  if (s0.1 13) = 0 then (
    if (s0.1 18) ≤ 0 then (
      F_X12_expression_129 s0)
    else (
      oC (f_X12_wrong s0 (1 : Int32)) fun w3 =>
      oL w3 fun s2 =>
      F_X12_expression_129 s2))
  else (
    some s0)
set_option maxHeartbeats 4000000 in
set_option maxRecDepth 100000 in
theorem T_X12_expression_109 {z1 : St} (C : Cx p rm_X12_expression s m args c D A cX12_expression 4 RX12 rm_X12_expression N) (hE : En p l e rm_X12_expression s m args below meth c Q D A cX12_expression .return_ (wR N z1) [])  (s0 : St) (h : F_X12_expression_109 s0 = some z1) : Aw p l e rm_X12_expression s m args below meth c Q D A 4 (wR N s0) 109 [(0, .ref (N.1 0))] [] := by
  unfold F_X12_expression_109 at h
  refine aw_aload_n C 0 dX12_expression_109 rfl ?_
  refine rg_md_fault C lw_17_19 dX12_expression_110 ?_
  refine aw_if_eq (tgt := 117) C dX12_expression_113 (by decide) (fun q => ?_) (fun q => ?_)
  · have h := bq_t q h
    refine aw_aload_n C 0 dX12_expression_117 rfl ?_
    refine rg_md_open C lw_20_5 dX12_expression_118 ?_
    refine aw_if_le (tgt := 129) C dX12_expression_121 (by decide) (fun q => ?_) (fun q => ?_)
    · have h := bq_t q h
      refine aw_sub (lv' := [(0, .ref (N.1 0))]) [0] rfl ?_
      exact T_X12_expression_129 C hE s0 h
    · have h := bq_f q h
      refine aw_aload_n C 0 dX12_expression_124 rfl ?_
      refine aw_iconst (v := 1) C dX12_expression_125 (by decide) ?_
      obtain ⟨s2, cw3, h⟩ := oC_e h
      have h := oL_e (x := s2) rfl h
      refine aw_callVv (n := 1) (As := [.int (1 : Int32)]) (rest := []) (q0 := 0) C (c_X12_wrong l D N s0 s2 (1 : Int32) cw3) lw_19_8 lw_19_9 lw_19_10 lw_1_5 lw_19_11 rfl rfl (by decide +kernel) ⟨Nat.le_of_ble_eq_true rfl, Nat.le_of_ble_eq_true rfl⟩ rfl rfl rfl rfl rfl (Nat.le_of_ble_eq_true rfl) dX12_expression_126 ?_
      refine aw_sub (lv' := [(0, .ref (N.1 0))]) [0] rfl ?_
      exact T_X12_expression_129 C hE s2 h
  · have h := bq_f q h
    cases h
    exact aw_ret hE dX12_expression_116
def F_X12_expression_106 (k14 : St → Int32 → Int32 → Option (St)) (s0 : St) (x1 : Int32) (x2 : Int32) : Option (St) :=
  k14 s0 x1 x2
set_option maxHeartbeats 4000000 in
set_option maxRecDepth 100000 in
theorem T_X12_expression_106 {z1 : St} {k14 : St → Int32 → Int32 → Option (St)} (C : Cx p rm_X12_expression s m args c D A cX12_expression 4 RX12 rm_X12_expression N) (hE : En p l e rm_X12_expression s m args below meth c Q D A cX12_expression .return_ (wR N z1) []) (hk14 : ∀ (s0 : St) (x1 : Int32) (x2 : Int32), k14 s0 x1 x2 = some z1 → Aw p l e rm_X12_expression s m args below meth c Q D A 4 (wR N s0) 14 [(0, .ref (N.1 0)), (1, .int x1), (2, .int x2)] []) (s0 : St) (x1 : Int32) (x2 : Int32) (h : F_X12_expression_106 k14 s0 x1 x2 = some z1) : Aw p l e rm_X12_expression s m args below meth c Q D A 4 (wR N s0) 106 [(0, .ref (N.1 0)), (1, .int x1), (2, .int x2)] [] := by
  unfold F_X12_expression_106 at h
  refine aw_goto (tgt := 14) C dX12_expression_106 (by decide) ?_
  refine aw_sub (lv' := [(0, .ref (N.1 0)), (1, .int x1), (2, .int x2)]) [0, 1, 2] rfl ?_
  exact hk14 s0 x1 x2 h
def F_X12_expression_104 (k14 : St → Int32 → Int32 → Option (St)) (s0 : St) (x1 : Int32) : Option (St) :=
  oL (0 : Int32) fun y1 =>
  F_X12_expression_106 k14 s0 x1 y1
set_option maxHeartbeats 4000000 in
set_option maxRecDepth 100000 in
theorem T_X12_expression_104 {z1 : St} {k14 : St → Int32 → Int32 → Option (St)} (C : Cx p rm_X12_expression s m args c D A cX12_expression 4 RX12 rm_X12_expression N) (hE : En p l e rm_X12_expression s m args below meth c Q D A cX12_expression .return_ (wR N z1) []) (hk14 : ∀ (s0 : St) (x1 : Int32) (x2 : Int32), k14 s0 x1 x2 = some z1 → Aw p l e rm_X12_expression s m args below meth c Q D A 4 (wR N s0) 14 [(0, .ref (N.1 0)), (1, .int x1), (2, .int x2)] []) (s0 : St) (x1 : Int32) (h : F_X12_expression_104 k14 s0 x1 = some z1) : Aw p l e rm_X12_expression s m args below meth c Q D A 4 (wR N s0) 104 [(0, .ref (N.1 0)), (1, .int x1)] [] := by
  unfold F_X12_expression_104 at h
  refine aw_iconst (v := 0) C dX12_expression_104 (by decide) ?_
  refine aw_topi (fun y1 ey1 => ?_)
  have h := oL_e ey1 h
  refine aw_istore_n (lv' := [(0, .ref (N.1 0)), (1, .int x1), (2, .int y1)]) C [1, 2, 0] dX12_expression_105 rfl (by decide) rfl ?_
  refine aw_sub (lv' := [(0, .ref (N.1 0)), (1, .int x1), (2, .int y1)]) [0, 1, 2] rfl ?_
  exact T_X12_expression_106 C hE hk14 s0 x1 y1 h
def F_X12_expression_14_b (k14 : St → Int32 → Int32 → Option (St)) (s0 : St) (x1 : Int32) (x2 : Int32) : Option (St) :=
  if (s0.1 13) = 0 then (
    if x2 = 0 then (
      F_X12_expression_109 s0)
    else (
      if x1 = 0 then (
        oC (f_X12_operand s0) fun w21 =>
        oL w21.1 fun v19 => oL w21.2 fun s20 =>
        k14 s20 v19 x2)
      else (
        oC (f_X12_between s0) fun w3 =>
        oL w3.1 fun v1 => oL w3.2 fun s2 =>
        if v1 = 0 then (
          oC (f_X12_isSign s2 (41 : Int32)) fun w6 =>
          oL w6.1 fun v4 => oL w6.2 fun s5 =>
          if v4 = 0 then (
            F_X12_expression_104 k14 s5 x1)
          else (
            if (s5.1 18) ≤ 0 then (
              F_X12_expression_104 k14 s5 x1)
            else (
              oC (f_X12_pour s5 (1 : Int32)) fun w9 =>
              oL w9 fun s8 =>
              oL (sI s8 17 ((s8.1 17) - (1 : Int32))) fun s10 =>
              oL (sI s10 18 ((s10.1 18) - (1 : Int32))) fun s11 =>
              oC (f_X12_next s11) fun w14 =>
              oL w14 fun s13 =>
              F_X12_expression_106 k14 s13 x1 x2)))
        else (
          oC (f_X12_sign s2 v1) fun w17 =>
          oL w17 fun s16 =>
          oL (0 : Int32) fun y18 =>
          F_X12_expression_106 k14 s16 y18 x2))))
  else (
    F_X12_expression_109 s0)
set_option maxHeartbeats 4000000 in
set_option maxRecDepth 100000 in
theorem T_X12_expression_14_b {z1 : St} {k14 : St → Int32 → Int32 → Option (St)} (C : Cx p rm_X12_expression s m args c D A cX12_expression 4 RX12 rm_X12_expression N) (hE : En p l e rm_X12_expression s m args below meth c Q D A cX12_expression .return_ (wR N z1) []) (hk14 : ∀ (s0 : St) (x1 : Int32) (x2 : Int32), k14 s0 x1 x2 = some z1 → Aw p l e rm_X12_expression s m args below meth c Q D A 4 (wR N s0) 14 [(0, .ref (N.1 0)), (1, .int x1), (2, .int x2)] []) (s0 : St) (x1 : Int32) (x2 : Int32) (h : F_X12_expression_14_b k14 s0 x1 x2 = some z1) : Aw p l e rm_X12_expression s m args below meth c Q D A 4 (wR N s0) 14 [(0, .ref (N.1 0)), (1, .int x1), (2, .int x2)] [] := by
  unfold F_X12_expression_14_b at h
  refine aw_aload_n C 0 dX12_expression_14 rfl ?_
  refine rg_md_fault C lw_17_19 dX12_expression_15 ?_
  refine aw_if_ne (tgt := 109) C dX12_expression_18 (by decide) (fun q => ?_) (fun q => ?_)
  · have h := bq_f q h
    refine aw_sub (lv' := [(0, .ref (N.1 0))]) [0] rfl ?_
    exact T_X12_expression_109 C hE s0 h
  · have h := bq_t q h
    refine aw_iload_n C 2 dX12_expression_21 rfl ?_
    refine aw_if_eq (tgt := 109) C dX12_expression_22 (by decide) (fun q => ?_) (fun q => ?_)
    · have h := bq_t q h
      refine aw_sub (lv' := [(0, .ref (N.1 0))]) [0] rfl ?_
      exact T_X12_expression_109 C hE s0 h
    · have h := bq_f q h
      refine aw_iload_n C 1 dX12_expression_25 rfl ?_
      refine aw_if_ne (tgt := 37) C dX12_expression_26 (by decide) (fun q => ?_) (fun q => ?_)
      · have h := bq_f q h
        refine aw_aload_n C 0 dX12_expression_37 rfl ?_
        obtain ⟨⟨v1, s2⟩, cw3, h⟩ := oC_e h
        have h := oL_e (x := s2) rfl (oL_e (x := v1) rfl h)
        refine aw_callVi (n := 0) (As := []) (rest := []) (q0 := 0) C (c_X12_between l D N s0 s2 v1 cw3) lw_21_5 lw_21_6 lw_21_7 lw_1_5 lw_21_8 rfl rfl (by decide +kernel) ⟨Nat.le_of_ble_eq_true rfl, Nat.le_of_ble_eq_true rfl⟩ rfl rfl rfl rfl rfl (Nat.le_of_ble_eq_true rfl) dX12_expression_38 ?_
        refine aw_istore_n (lv' := [(0, .ref (N.1 0)), (1, .int x1), (2, .int x2), (3, .int v1)]) C [1, 2, 3, 0] dX12_expression_41 rfl (by decide) rfl ?_
        refine aw_iload_n C 3 dX12_expression_42 rfl ?_
        refine aw_if_eq (tgt := 56) C dX12_expression_43 (by decide) (fun q => ?_) (fun q => ?_)
        · have h := bq_t q h
          refine aw_aload_n C 0 dX12_expression_56 rfl ?_
          refine aw_bipush (v := 41) C dX12_expression_57 (by decide) ?_
          obtain ⟨⟨v4, s5⟩, cw6, h⟩ := oC_e h
          have h := oL_e (x := s5) rfl (oL_e (x := v4) rfl h)
          refine aw_callVi (n := 1) (As := [.int (41 : Int32)]) (rest := []) (q0 := 0) C (c_X12_isSign l D N s2 s5 (41 : Int32) v4 cw6) lw_20_18 lw_20_19 lw_20_20 lw_1_5 lw_20_21 rfl rfl (by decide +kernel) ⟨Nat.le_of_ble_eq_true rfl, Nat.le_of_ble_eq_true rfl⟩ rfl rfl rfl rfl rfl (Nat.le_of_ble_eq_true rfl) dX12_expression_59 ?_
          refine aw_if_eq (tgt := 104) C dX12_expression_62 (by decide) (fun q => ?_) (fun q => ?_)
          · have h := bq_t q h
            refine aw_sub (lv' := [(0, .ref (N.1 0)), (1, .int x1)]) [0, 1] rfl ?_
            exact T_X12_expression_104 C hE hk14 s5 x1 h
          · have h := bq_f q h
            refine aw_aload_n C 0 dX12_expression_65 rfl ?_
            refine rg_md_open C lw_20_5 dX12_expression_66 ?_
            refine aw_if_le (tgt := 104) C dX12_expression_69 (by decide) (fun q => ?_) (fun q => ?_)
            · have h := bq_t q h
              refine aw_sub (lv' := [(0, .ref (N.1 0)), (1, .int x1)]) [0, 1] rfl ?_
              exact T_X12_expression_104 C hE hk14 s5 x1 h
            · have h := bq_f q h
              refine aw_aload_n C 0 dX12_expression_72 rfl ?_
              refine aw_iconst (v := 1) C dX12_expression_73 (by decide) ?_
              obtain ⟨s8, cw9, h⟩ := oC_e h
              have h := oL_e (x := s8) rfl h
              refine aw_callVv (n := 1) (As := [.int (1 : Int32)]) (rest := []) (q0 := 0) C (c_X12_pour l D N s5 s8 (1 : Int32) cw9) lw_21_13 lw_21_14 lw_21_15 lw_1_5 lw_21_16 rfl rfl (by decide +kernel) ⟨Nat.le_of_ble_eq_true rfl, Nat.le_of_ble_eq_true rfl⟩ rfl rfl rfl rfl rfl (Nat.le_of_ble_eq_true rfl) dX12_expression_74 ?_
              refine aw_aload_n C 0 dX12_expression_77 rfl ?_
              refine aw_dup C dX12_expression_78 rfl ?_
              refine rg_md_piled C lw_20_4 dX12_expression_79 ?_
              refine aw_iconst (v := 1) C dX12_expression_82 (by decide) ?_
              refine aw_isub C dX12_expression_83 ?_
              refine rp_md_piled C lw_20_4 dX12_expression_84 ?_
              refine ra_name (fun s10 es10 => ?_)
              have h := oL_e es10 h
              refine aw_aload_n C 0 dX12_expression_87 rfl ?_
              refine aw_dup C dX12_expression_88 rfl ?_
              refine rg_md_open C lw_20_5 dX12_expression_89 ?_
              refine aw_iconst (v := 1) C dX12_expression_92 (by decide) ?_
              refine aw_isub C dX12_expression_93 ?_
              refine rp_md_open C lw_20_5 dX12_expression_94 ?_
              refine ra_name (fun s11 es11 => ?_)
              have h := oL_e es11 h
              refine aw_aload_n C 0 dX12_expression_97 rfl ?_
              obtain ⟨s13, cw14, h⟩ := oC_e h
              have h := oL_e (x := s13) rfl h
              refine aw_callVv (n := 0) (As := []) (rest := []) (q0 := 0) C (c_X12_next l D N s11 s13 cw14) lw_18_6 lw_18_7 lw_18_8 lw_1_5 lw_18_9 rfl rfl (by decide +kernel) ⟨Nat.le_of_ble_eq_true rfl, Nat.le_of_ble_eq_true rfl⟩ rfl rfl rfl rfl rfl (Nat.le_of_ble_eq_true rfl) dX12_expression_98 ?_
              refine aw_goto (tgt := 106) C dX12_expression_101 (by decide) ?_
              refine aw_sub (lv' := [(0, .ref (N.1 0)), (1, .int x1), (2, .int x2)]) [0, 1, 2] rfl ?_
              exact T_X12_expression_106 C hE hk14 s13 x1 x2 h
        · have h := bq_f q h
          refine aw_aload_n C 0 dX12_expression_46 rfl ?_
          refine aw_iload_n C 3 dX12_expression_47 rfl ?_
          obtain ⟨s16, cw17, h⟩ := oC_e h
          have h := oL_e (x := s16) rfl h
          refine aw_callVv (n := 1) (As := [.int v1]) (rest := []) (q0 := 0) C (c_X12_sign l D N s2 s16 v1 cw17) lw_21_9 lw_21_10 lw_21_11 lw_1_5 lw_21_12 rfl rfl (by decide +kernel) ⟨Nat.le_of_ble_eq_true rfl, Nat.le_of_ble_eq_true rfl⟩ rfl rfl rfl rfl rfl (Nat.le_of_ble_eq_true rfl) dX12_expression_48 ?_
          refine aw_iconst (v := 0) C dX12_expression_51 (by decide) ?_
          refine aw_topi (fun y18 ey18 => ?_)
          have h := oL_e ey18 h
          refine aw_istore_n (lv' := [(0, .ref (N.1 0)), (1, .int y18), (2, .int x2), (3, .int v1)]) C [1, 0, 2, 3] dX12_expression_52 rfl (by decide) rfl ?_
          refine aw_goto (tgt := 106) C dX12_expression_53 (by decide) ?_
          refine aw_sub (lv' := [(0, .ref (N.1 0)), (1, .int y18), (2, .int x2)]) [0, 1, 2] rfl ?_
          exact T_X12_expression_106 C hE hk14 s16 y18 x2 h
      · have h := bq_t q h
        refine aw_aload_n C 0 dX12_expression_29 rfl ?_
        obtain ⟨⟨v19, s20⟩, cw21, h⟩ := oC_e h
        have h := oL_e (x := s20) rfl (oL_e (x := v19) rfl h)
        refine aw_callVi (n := 0) (As := []) (rest := []) (q0 := 0) C (c_X12_operand l D N s0 s20 v19 cw21) lw_20_6 lw_20_7 lw_20_8 lw_1_5 lw_20_9 rfl rfl (by decide +kernel) ⟨Nat.le_of_ble_eq_true rfl, Nat.le_of_ble_eq_true rfl⟩ rfl rfl rfl rfl rfl (Nat.le_of_ble_eq_true rfl) dX12_expression_30 ?_
        refine aw_istore_n (lv' := [(0, .ref (N.1 0)), (1, .int v19), (2, .int x2)]) C [1, 0, 2] dX12_expression_33 rfl (by decide) rfl ?_
        refine aw_goto (tgt := 14) C dX12_expression_34 (by decide) ?_
        refine aw_sub (lv' := [(0, .ref (N.1 0)), (1, .int v19), (2, .int x2)]) [0, 1, 2] rfl ?_
        exact hk14 s20 v19 x2 h
def F_X12_expression_14 : Nat → St → Int32 → Int32 → Option (St)
  | 0 => fun _ _ _ => none
  | n + 1 => F_X12_expression_14_b (F_X12_expression_14 n)
theorem T_X12_expression_14 {z1 : St} (C : Cx p rm_X12_expression s m args c D A cX12_expression 4 RX12 rm_X12_expression N) (hE : En p l e rm_X12_expression s m args below meth c Q D A cX12_expression .return_ (wR N z1) [])  : ∀ (n : Nat) (s0 : St) (x1 : Int32) (x2 : Int32), F_X12_expression_14 n s0 x1 x2 = some z1 → Aw p l e rm_X12_expression s m args below meth c Q D A 4 (wR N s0) 14 [(0, .ref (N.1 0)), (1, .int x1), (2, .int x2)] [] := by
  intro n
  induction n with
  | zero => intro s0 x1 x2 h; cases h
  | succ n ih => intro s0 x1 x2 h; exact T_X12_expression_14_b C hE ih s0 x1 x2 h
def F_X12_expression_0 (s0 : St) : Option (St) :=
  oL (sI s0 17 (0 : Int32)) fun s1 =>
  oL (sI s1 18 (0 : Int32)) fun s2 =>
  oL (0 : Int32) fun y3 =>
  oL (1 : Int32) fun y4 =>
  F_X12_expression_14 100000 s2 y3 y4
set_option maxHeartbeats 4000000 in
set_option maxRecDepth 100000 in
theorem T_X12_expression_0 {z1 : St} (C : Cx p rm_X12_expression s m args c D A cX12_expression 4 RX12 rm_X12_expression N) (hE : En p l e rm_X12_expression s m args below meth c Q D A cX12_expression .return_ (wR N z1) [])  (s0 : St) (h : F_X12_expression_0 s0 = some z1) : Aw p l e rm_X12_expression s m args below meth c Q D A 4 (wR N s0) 0 [(0, .ref (N.1 0))] [] := by
  unfold F_X12_expression_0 at h
  refine aw_aload_n C 0 dX12_expression_0 rfl ?_
  refine aw_iconst (v := 0) C dX12_expression_1 (by decide) ?_
  refine rp_md_piled C lw_20_4 dX12_expression_2 ?_
  refine ra_name (fun s1 es1 => ?_)
  have h := oL_e es1 h
  refine aw_aload_n C 0 dX12_expression_5 rfl ?_
  refine aw_iconst (v := 0) C dX12_expression_6 (by decide) ?_
  refine rp_md_open C lw_20_5 dX12_expression_7 ?_
  refine ra_name (fun s2 es2 => ?_)
  have h := oL_e es2 h
  refine aw_iconst (v := 0) C dX12_expression_10 (by decide) ?_
  refine aw_topi (fun y3 ey3 => ?_)
  have h := oL_e ey3 h
  refine aw_istore_n (lv' := [(0, .ref (N.1 0)), (1, .int y3)]) C [1, 0] dX12_expression_11 rfl (by decide) rfl ?_
  refine aw_iconst (v := 1) C dX12_expression_12 (by decide) ?_
  refine aw_topi (fun y4 ey4 => ?_)
  have h := oL_e ey4 h
  refine aw_istore_n (lv' := [(0, .ref (N.1 0)), (1, .int y3), (2, .int y4)]) C [1, 2, 0] dX12_expression_13 rfl (by decide) rfl ?_
  refine aw_sub (lv' := [(0, .ref (N.1 0)), (1, .int y3), (2, .int y4)]) [0, 1, 2] rfl ?_
  exact T_X12_expression_14 C hE 100000 s2 y3 y4 h
def f_X12_expression (s0 : St) : Option (St) := F_X12_expression_0 s0
theorem c_X12_expression (l : Launch) (D : va_G) (N : Nm) (s0 z1 : St) (h : f_X12_expression s0 = some z1) : Metv l yX12_expression (tsU yX12_expression cX12_expression 4 none) rm_X12_expression D N [.ref (N.1 0)] (wR N s0) (wR N z1) :=
  met_v (cc := cX12_expression) (nL := 4) (own := RX12) (by decide) rfl (Nat.le_of_ble_eq_true rfl) (fun p e s m args below meth c Q A C hE => aw_sub [0] rfl (T_X12_expression_0 C hE s0 h))
/-! AwardLineModel.line()V -/
def rm_X12_line : Room := { frames := 9, cells := 0, slots := 0, locals := 194 }
def F_X12_line_15 (s0 : St) : Option (St) :=
  oC (f_X12_wrong s0 (1 : Int32)) fun w3 =>
  oL w3 fun s2 =>
  some s2
set_option maxHeartbeats 4000000 in
set_option maxRecDepth 100000 in
theorem T_X12_line_15 {z1 : St} (C : Cx p rm_X12_line s m args c D A cX12_line 3 RX12 rm_X12_line N) (hE : En p l e rm_X12_line s m args below meth c Q D A cX12_line .return_ (wR N z1) [])  (s0 : St) (h : F_X12_line_15 s0 = some z1) : Aw p l e rm_X12_line s m args below meth c Q D A 3 (wR N s0) 15 [(0, .ref (N.1 0))] [] := by
  unfold F_X12_line_15 at h
  refine aw_aload_n C 0 dX12_line_15 rfl ?_
  refine aw_iconst (v := 1) C dX12_line_16 (by decide) ?_
  obtain ⟨s2, cw3, h⟩ := oC_e h
  have h := oL_e (x := s2) rfl h
  refine aw_callVv (n := 1) (As := [.int (1 : Int32)]) (rest := []) (q0 := 0) C (c_X12_wrong l D N s0 s2 (1 : Int32) cw3) lw_19_8 lw_19_9 lw_19_10 lw_1_5 lw_19_11 rfl rfl (by decide +kernel) ⟨Nat.le_of_ble_eq_true rfl, Nat.le_of_ble_eq_true rfl⟩ rfl rfl rfl rfl rfl (Nat.le_of_ble_eq_true rfl) dX12_line_17 ?_
  cases h
  exact aw_ret hE dX12_line_20
def F_X12_line_154 (s0 : St) : Option (St) :=
  oL (sI s0 6 ((s0.1 6) + (1 : Int32))) fun s1 =>
  some s1
set_option maxHeartbeats 4000000 in
set_option maxRecDepth 100000 in
theorem T_X12_line_154 {z1 : St} (C : Cx p rm_X12_line s m args c D A cX12_line 3 RX12 rm_X12_line N) (hE : En p l e rm_X12_line s m args below meth c Q D A cX12_line .return_ (wR N z1) [])  (s0 : St) (h : F_X12_line_154 s0 = some z1) : Aw p l e rm_X12_line s m args below meth c Q D A 3 (wR N s0) 154 [(0, .ref (N.1 0))] [] := by
  unfold F_X12_line_154 at h
  refine aw_aload_n C 0 dX12_line_154 rfl ?_
  refine aw_dup C dX12_line_155 rfl ?_
  refine rg_md_lines C lw_17_23 dX12_line_156 ?_
  refine aw_iconst (v := 1) C dX12_line_159 (by decide) ?_
  refine aw_iadd C dX12_line_160 ?_
  refine rp_md_lines C lw_17_23 dX12_line_161 ?_
  refine ra_name (fun s1 es1 => ?_)
  have h := oL_e es1 h
  cases h
  exact aw_ret hE dX12_line_164
def F_X12_line_125 (s0 : St) : Option (St) :=
  if (s0.1 13) = 0 then (
    oC (f_X12_isSign s0 (59 : Int32)) fun w3 =>
    oL w3.1 fun v1 => oL w3.2 fun s2 =>
    if v1 = 0 then (
      oC (f_X12_wrong s2 (1 : Int32)) fun w9 =>
      oL w9 fun s8 =>
      F_X12_line_154 s8)
    else (
      oC (f_X12_next s2) fun w6 =>
      oL w6 fun s5 =>
      F_X12_line_154 s5))
  else (
    some s0)
set_option maxHeartbeats 4000000 in
set_option maxRecDepth 100000 in
theorem T_X12_line_125 {z1 : St} (C : Cx p rm_X12_line s m args c D A cX12_line 3 RX12 rm_X12_line N) (hE : En p l e rm_X12_line s m args below meth c Q D A cX12_line .return_ (wR N z1) [])  (s0 : St) (h : F_X12_line_125 s0 = some z1) : Aw p l e rm_X12_line s m args below meth c Q D A 3 (wR N s0) 125 [(0, .ref (N.1 0))] [] := by
  unfold F_X12_line_125 at h
  refine aw_aload_n C 0 dX12_line_125 rfl ?_
  refine rg_md_fault C lw_17_19 dX12_line_126 ?_
  refine aw_if_eq (tgt := 133) C dX12_line_129 (by decide) (fun q => ?_) (fun q => ?_)
  · have h := bq_t q h
    refine aw_aload_n C 0 dX12_line_133 rfl ?_
    refine aw_bipush (v := 59) C dX12_line_134 (by decide) ?_
    obtain ⟨⟨v1, s2⟩, cw3, h⟩ := oC_e h
    have h := oL_e (x := s2) rfl (oL_e (x := v1) rfl h)
    refine aw_callVi (n := 1) (As := [.int (59 : Int32)]) (rest := []) (q0 := 0) C (c_X12_isSign l D N s0 s2 (59 : Int32) v1 cw3) lw_20_18 lw_20_19 lw_20_20 lw_1_5 lw_20_21 rfl rfl (by decide +kernel) ⟨Nat.le_of_ble_eq_true rfl, Nat.le_of_ble_eq_true rfl⟩ rfl rfl rfl rfl rfl (Nat.le_of_ble_eq_true rfl) dX12_line_136 ?_
    refine aw_if_ne (tgt := 150) C dX12_line_139 (by decide) (fun q => ?_) (fun q => ?_)
    · have h := bq_f q h
      refine aw_aload_n C 0 dX12_line_150 rfl ?_
      obtain ⟨s5, cw6, h⟩ := oC_e h
      have h := oL_e (x := s5) rfl h
      refine aw_callVv (n := 0) (As := []) (rest := []) (q0 := 0) C (c_X12_next l D N s2 s5 cw6) lw_18_6 lw_18_7 lw_18_8 lw_1_5 lw_18_9 rfl rfl (by decide +kernel) ⟨Nat.le_of_ble_eq_true rfl, Nat.le_of_ble_eq_true rfl⟩ rfl rfl rfl rfl rfl (Nat.le_of_ble_eq_true rfl) dX12_line_151 ?_
      refine aw_sub (lv' := [(0, .ref (N.1 0))]) [0] rfl ?_
      exact T_X12_line_154 C hE s5 h
    · have h := bq_t q h
      refine aw_aload_n C 0 dX12_line_142 rfl ?_
      refine aw_iconst (v := 1) C dX12_line_143 (by decide) ?_
      obtain ⟨s8, cw9, h⟩ := oC_e h
      have h := oL_e (x := s8) rfl h
      refine aw_callVv (n := 1) (As := [.int (1 : Int32)]) (rest := []) (q0 := 0) C (c_X12_wrong l D N s2 s8 (1 : Int32) cw9) lw_19_8 lw_19_9 lw_19_10 lw_1_5 lw_19_11 rfl rfl (by decide +kernel) ⟨Nat.le_of_ble_eq_true rfl, Nat.le_of_ble_eq_true rfl⟩ rfl rfl rfl rfl rfl (Nat.le_of_ble_eq_true rfl) dX12_line_144 ?_
      refine aw_goto (tgt := 154) C dX12_line_147 (by decide) ?_
      refine aw_sub (lv' := [(0, .ref (N.1 0))]) [0] rfl ?_
      exact T_X12_line_154 C hE s8 h
  · have h := bq_f q h
    cases h
    exact aw_ret hE dX12_line_132
def F_X12_line_120 (s0 : St) (t0 : Int32) : Option (St) :=
  oC (f_X12_number s0 t0 (100 : Int32)) fun w3 =>
  oL w3 fun s2 =>
  F_X12_line_125 s2
set_option maxHeartbeats 4000000 in
set_option maxRecDepth 100000 in
theorem T_X12_line_120 {z1 : St} (C : Cx p rm_X12_line s m args c D A cX12_line 3 RX12 rm_X12_line N) (hE : En p l e rm_X12_line s m args below meth c Q D A cX12_line .return_ (wR N z1) [])  (s0 : St) (t0 : Int32) (h : F_X12_line_120 s0 t0 = some z1) : Aw p l e rm_X12_line s m args below meth c Q D A 3 (wR N s0) 120 [(0, .ref (N.1 0))] [.int t0, .ref (N.1 0)] := by
  unfold F_X12_line_120 at h
  refine aw_bipush (v := 100) C dX12_line_120 (by decide) ?_
  obtain ⟨s2, cw3, h⟩ := oC_e h
  have h := oL_e (x := s2) rfl h
  refine aw_callVv (n := 2) (As := [.int t0, .int (100 : Int32)]) (rest := []) (q0 := 0) C (c_X12_number l D N s0 s2 t0 (100 : Int32) cw3) lw_19_16 lw_19_17 lw_19_18 lw_1_5 lw_19_19 rfl rfl (by decide +kernel) ⟨Nat.le_of_ble_eq_true rfl, Nat.le_of_ble_eq_true rfl⟩ rfl rfl rfl rfl rfl (Nat.le_of_ble_eq_true rfl) dX12_line_122 ?_
  refine aw_sub (lv' := [(0, .ref (N.1 0))]) [0] rfl ?_
  exact T_X12_line_125 C hE s2 h
def F_X12_line_0 (s0 : St) : Option (St) :=
  if (s0.1 11) = 0 then (
    if (s0.1 12) ≤ (4 : Int32) then (
      oL (s0.1 12) fun y1 =>
      if y1 = (2 : Int32) then (
        oC (f_X12_next s0) fun w16 =>
        oL w16 fun s15 =>
        oC (f_X12_once s15 (8 : Int32) (10 : Int32)) fun w19 =>
        oL w19.1 fun v17 => oL w19.2 fun s18 =>
        if v17 = 0 then (
          some s18)
        else (
          oL (((1 : Int32) + (s18.1 12)) - (8 : Int32)) fun y20 =>
          oC (f_X12_next s18) fun w23 =>
          oL w23 fun s22 =>
          oC (f_X12_number s22 y20 (999 : Int32)) fun w26 =>
          oL w26 fun s25 =>
          F_X12_line_125 s25))
      else (
        oC (f_X12_once s0 y1 y1) fun w4 =>
        oL w4.1 fun v2 => oL w4.2 fun s3 =>
        if v2 = 0 then (
          some s3)
        else (
          oC (f_X12_next s3) fun w7 =>
          oL w7 fun s6 =>
          if y1 = 0 then (
            oC (f_X12_unit s6) fun w13 =>
            oL w13 fun s12 =>
            F_X12_line_125 s12)
          else (
            if y1 = (1 : Int32) then (
              oC (f_X12_expression s6) fun w10 =>
              oL w10 fun s9 =>
              F_X12_line_125 s9)
            else (
              if y1 = (3 : Int32) then (
                F_X12_line_120 s6 (4 : Int32))
              else (
                F_X12_line_120 s6 (5 : Int32)))))))
    else (
      F_X12_line_15 s0))
  else (
    F_X12_line_15 s0)
set_option maxHeartbeats 4000000 in
set_option maxRecDepth 100000 in
theorem T_X12_line_0 {z1 : St} (C : Cx p rm_X12_line s m args c D A cX12_line 3 RX12 rm_X12_line N) (hE : En p l e rm_X12_line s m args below meth c Q D A cX12_line .return_ (wR N z1) [])  (s0 : St) (h : F_X12_line_0 s0 = some z1) : Aw p l e rm_X12_line s m args below meth c Q D A 3 (wR N s0) 0 [(0, .ref (N.1 0))] [] := by
  unfold F_X12_line_0 at h
  refine aw_aload_n C 0 dX12_line_0 rfl ?_
  refine rg_md_sort C lw_18_1 dX12_line_1 ?_
  refine aw_if_ne (tgt := 15) C dX12_line_4 (by decide) (fun q => ?_) (fun q => ?_)
  · have h := bq_f q h
    refine aw_sub (lv' := [(0, .ref (N.1 0))]) [0] rfl ?_
    exact T_X12_line_15 C hE s0 h
  · have h := bq_t q h
    refine aw_aload_n C 0 dX12_line_7 rfl ?_
    refine rg_md_value C lw_18_11 dX12_line_8 ?_
    refine aw_iconst (v := 4) C dX12_line_11 (by decide) ?_
    refine aw_icmp_le (tgt := 21) C dX12_line_12 (by decide) (fun q => ?_) (fun q => ?_)
    · have h := bq_t q h
      refine aw_aload_n C 0 dX12_line_21 rfl ?_
      refine rg_md_value C lw_18_11 dX12_line_22 ?_
      refine aw_topi (fun y1 ey1 => ?_)
      have h := oL_e ey1 h
      refine aw_istore_n (lv' := [(0, .ref (N.1 0)), (1, .int y1)]) C [1, 0] dX12_line_25 rfl (by decide) rfl ?_
      refine aw_iload_n C 1 dX12_line_26 rfl ?_
      refine aw_iconst (v := 2) C dX12_line_27 (by decide) ?_
      refine aw_icmp_ne (tgt := 72) C dX12_line_28 (by decide) (fun q => ?_) (fun q => ?_)
      · have h := bq_f q h
        refine aw_aload_n C 0 dX12_line_72 rfl ?_
        refine aw_iload_n C 1 dX12_line_73 rfl ?_
        refine aw_iload_n C 1 dX12_line_74 rfl ?_
        obtain ⟨⟨v2, s3⟩, cw4, h⟩ := oC_e h
        have h := oL_e (x := s3) rfl (oL_e (x := v2) rfl h)
        refine aw_callVi (n := 2) (As := [.int y1, .int y1]) (rest := []) (q0 := 0) C (c_X12_once l D N s0 s3 y1 y1 v2 cw4) lw_19_12 lw_19_13 lw_19_14 lw_1_5 lw_19_15 rfl rfl (by decide +kernel) ⟨Nat.le_of_ble_eq_true rfl, Nat.le_of_ble_eq_true rfl⟩ rfl rfl rfl rfl rfl (Nat.le_of_ble_eq_true rfl) dX12_line_75 ?_
        refine aw_if_ne (tgt := 82) C dX12_line_78 (by decide) (fun q => ?_) (fun q => ?_)
        · have h := bq_f q h
          refine aw_aload_n C 0 dX12_line_82 rfl ?_
          obtain ⟨s6, cw7, h⟩ := oC_e h
          have h := oL_e (x := s6) rfl h
          refine aw_callVv (n := 0) (As := []) (rest := []) (q0 := 0) C (c_X12_next l D N s3 s6 cw7) lw_18_6 lw_18_7 lw_18_8 lw_1_5 lw_18_9 rfl rfl (by decide +kernel) ⟨Nat.le_of_ble_eq_true rfl, Nat.le_of_ble_eq_true rfl⟩ rfl rfl rfl rfl rfl (Nat.le_of_ble_eq_true rfl) dX12_line_83 ?_
          refine aw_iload_n C 1 dX12_line_86 rfl ?_
          refine aw_if_ne (tgt := 97) C dX12_line_87 (by decide) (fun q => ?_) (fun q => ?_)
          · have h := bq_f q h
            refine aw_iload_n C 1 dX12_line_97 rfl ?_
            refine aw_iconst (v := 1) C dX12_line_98 (by decide) ?_
            refine aw_icmp_ne (tgt := 109) C dX12_line_99 (by decide) (fun q => ?_) (fun q => ?_)
            · have h := bq_f q h
              refine aw_aload_n C 0 dX12_line_109 rfl ?_
              refine aw_iload_n C 1 dX12_line_110 rfl ?_
              refine aw_iconst (v := 3) C dX12_line_111 (by decide) ?_
              refine aw_icmp_ne (tgt := 119) C dX12_line_112 (by decide) (fun q => ?_) (fun q => ?_)
              · have h := bq_f q h
                refine aw_iconst (v := 5) C dX12_line_119 (by decide) ?_
                refine aw_sub (lv' := [(0, .ref (N.1 0))]) [0] rfl ?_
                exact T_X12_line_120 C hE s6 (5 : Int32) h
              · have h := bq_t q h
                refine aw_iconst (v := 4) C dX12_line_115 (by decide) ?_
                refine aw_goto (tgt := 120) C dX12_line_116 (by decide) ?_
                refine aw_sub (lv' := [(0, .ref (N.1 0))]) [0] rfl ?_
                exact T_X12_line_120 C hE s6 (4 : Int32) h
            · have h := bq_t q h
              refine aw_aload_n C 0 dX12_line_102 rfl ?_
              obtain ⟨s9, cw10, h⟩ := oC_e h
              have h := oL_e (x := s9) rfl h
              refine aw_callVv (n := 0) (As := []) (rest := []) (q0 := 0) C (c_X12_expression l D N s6 s9 cw10) lw_20_0 lw_20_1 lw_20_2 lw_1_5 lw_20_3 rfl rfl (by decide +kernel) ⟨Nat.le_of_ble_eq_true rfl, Nat.le_of_ble_eq_true rfl⟩ rfl rfl rfl rfl rfl (Nat.le_of_ble_eq_true rfl) dX12_line_103 ?_
              refine aw_goto (tgt := 125) C dX12_line_106 (by decide) ?_
              refine aw_sub (lv' := [(0, .ref (N.1 0))]) [0] rfl ?_
              exact T_X12_line_125 C hE s9 h
          · have h := bq_t q h
            refine aw_aload_n C 0 dX12_line_90 rfl ?_
            obtain ⟨s12, cw13, h⟩ := oC_e h
            have h := oL_e (x := s12) rfl h
            refine aw_callVv (n := 0) (As := []) (rest := []) (q0 := 0) C (c_X12_unit l D N s6 s12 cw13) lw_19_20 lw_19_21 lw_19_22 lw_1_5 lw_19_23 rfl rfl (by decide +kernel) ⟨Nat.le_of_ble_eq_true rfl, Nat.le_of_ble_eq_true rfl⟩ rfl rfl rfl rfl rfl (Nat.le_of_ble_eq_true rfl) dX12_line_91 ?_
            refine aw_goto (tgt := 125) C dX12_line_94 (by decide) ?_
            refine aw_sub (lv' := [(0, .ref (N.1 0))]) [0] rfl ?_
            exact T_X12_line_125 C hE s12 h
        · have h := bq_t q h
          cases h
          exact aw_ret hE dX12_line_81
      · have h := bq_t q h
        refine aw_aload_n C 0 dX12_line_31 rfl ?_
        obtain ⟨s15, cw16, h⟩ := oC_e h
        have h := oL_e (x := s15) rfl h
        refine aw_callVv (n := 0) (As := []) (rest := []) (q0 := 0) C (c_X12_next l D N s0 s15 cw16) lw_18_6 lw_18_7 lw_18_8 lw_1_5 lw_18_9 rfl rfl (by decide +kernel) ⟨Nat.le_of_ble_eq_true rfl, Nat.le_of_ble_eq_true rfl⟩ rfl rfl rfl rfl rfl (Nat.le_of_ble_eq_true rfl) dX12_line_32 ?_
        refine aw_aload_n C 0 dX12_line_35 rfl ?_
        refine aw_bipush (v := 8) C dX12_line_36 (by decide) ?_
        refine aw_bipush (v := 10) C dX12_line_38 (by decide) ?_
        obtain ⟨⟨v17, s18⟩, cw19, h⟩ := oC_e h
        have h := oL_e (x := s18) rfl (oL_e (x := v17) rfl h)
        refine aw_callVi (n := 2) (As := [.int (8 : Int32), .int (10 : Int32)]) (rest := []) (q0 := 0) C (c_X12_once l D N s15 s18 (8 : Int32) (10 : Int32) v17 cw19) lw_19_12 lw_19_13 lw_19_14 lw_1_5 lw_19_15 rfl rfl (by decide +kernel) ⟨Nat.le_of_ble_eq_true rfl, Nat.le_of_ble_eq_true rfl⟩ rfl rfl rfl rfl rfl (Nat.le_of_ble_eq_true rfl) dX12_line_40 ?_
        refine aw_if_ne (tgt := 47) C dX12_line_43 (by decide) (fun q => ?_) (fun q => ?_)
        · have h := bq_f q h
          refine aw_iconst (v := 1) C dX12_line_47 (by decide) ?_
          refine aw_aload_n C 0 dX12_line_48 rfl ?_
          refine rg_md_value C lw_18_11 dX12_line_49 ?_
          refine aw_iadd C dX12_line_52 ?_
          refine aw_bipush (v := 8) C dX12_line_53 (by decide) ?_
          refine aw_isub C dX12_line_55 ?_
          refine aw_topi (fun y20 ey20 => ?_)
          have h := oL_e ey20 h
          refine aw_istore_n (lv' := [(0, .ref (N.1 0)), (1, .int y1), (2, .int y20)]) C [1, 2, 0] dX12_line_56 rfl (by decide) rfl ?_
          refine aw_aload_n C 0 dX12_line_57 rfl ?_
          obtain ⟨s22, cw23, h⟩ := oC_e h
          have h := oL_e (x := s22) rfl h
          refine aw_callVv (n := 0) (As := []) (rest := []) (q0 := 0) C (c_X12_next l D N s18 s22 cw23) lw_18_6 lw_18_7 lw_18_8 lw_1_5 lw_18_9 rfl rfl (by decide +kernel) ⟨Nat.le_of_ble_eq_true rfl, Nat.le_of_ble_eq_true rfl⟩ rfl rfl rfl rfl rfl (Nat.le_of_ble_eq_true rfl) dX12_line_58 ?_
          refine aw_aload_n C 0 dX12_line_61 rfl ?_
          refine aw_iload_n C 2 dX12_line_62 rfl ?_
          refine aw_sipush (v := 999) C dX12_line_63 (by decide) ?_
          obtain ⟨s25, cw26, h⟩ := oC_e h
          have h := oL_e (x := s25) rfl h
          refine aw_callVv (n := 2) (As := [.int y20, .int (999 : Int32)]) (rest := []) (q0 := 0) C (c_X12_number l D N s22 s25 y20 (999 : Int32) cw26) lw_19_16 lw_19_17 lw_19_18 lw_1_5 lw_19_19 rfl rfl (by decide +kernel) ⟨Nat.le_of_ble_eq_true rfl, Nat.le_of_ble_eq_true rfl⟩ rfl rfl rfl rfl rfl (Nat.le_of_ble_eq_true rfl) dX12_line_66 ?_
          refine aw_goto (tgt := 125) C dX12_line_69 (by decide) ?_
          refine aw_sub (lv' := [(0, .ref (N.1 0))]) [0] rfl ?_
          exact T_X12_line_125 C hE s25 h
        · have h := bq_t q h
          cases h
          exact aw_ret hE dX12_line_46
    · have h := bq_f q h
      refine aw_sub (lv' := [(0, .ref (N.1 0))]) [0] rfl ?_
      exact T_X12_line_15 C hE s0 h
def f_X12_line (s0 : St) : Option (St) := F_X12_line_0 s0
theorem c_X12_line (l : Launch) (D : va_G) (N : Nm) (s0 z1 : St) (h : f_X12_line s0 = some z1) : Metv l yX12_line (tsU yX12_line cX12_line 3 none) rm_X12_line D N [.ref (N.1 0)] (wR N s0) (wR N z1) :=
  met_v (cc := cX12_line) (nL := 3) (own := RX12) (by decide) rfl (Nat.le_of_ble_eq_true rfl) (fun p e s m args below meth c Q A C hE => aw_sub [0] rfl (T_X12_line_0 C hE s0 h))
/-! AwardLineModel.terms(I)I -/
def rm_X12_terms : Room := { frames := 10, cells := 0, slots := 0, locals := 216 }
def F_X12_terms_17 (s0 : St) : Option (Int32 × St) :=
  some ((-2 : Int32), s0)
set_option maxHeartbeats 4000000 in
set_option maxRecDepth 100000 in
theorem T_X12_terms_17 {r : Int32} {z1 : St} (C : Cx p rm_X12_terms s m args c D A cX12_terms 3 RX12 rm_X12_terms N) (hE : En p l e rm_X12_terms s m args below meth c Q D A cX12_terms .ireturn (wR N z1) [.int r])  (s0 : St) (h : F_X12_terms_17 s0 = some (r, z1)) : Aw p l e rm_X12_terms s m args below meth c Q D A 3 (wR N s0) 17 [] [] := by
  unfold F_X12_terms_17 at h
  refine aw_bipush (v := -2) C dX12_terms_17 (by decide) ?_
  cases h
  exact aw_ret hE dX12_terms_19
def F_X12_terms_258 (s0 : St) (t0 : Int32) : Option (Int32 × St) :=
  oZ t0 <|
  oL (sI s0 4 t0) fun s2 =>
  oL (sI s2 19 (s2.1 5)) fun s3 =>
  some ((s3.1 6), s3)
set_option maxHeartbeats 4000000 in
set_option maxRecDepth 100000 in
theorem T_X12_terms_258 {r : Int32} {z1 : St} (C : Cx p rm_X12_terms s m args c D A cX12_terms 3 RX12 rm_X12_terms N) (hE : En p l e rm_X12_terms s m args below meth c Q D A cX12_terms .ireturn (wR N z1) [.int r])  (s0 : St) (t0 : Int32) (h : F_X12_terms_258 s0 t0 = some (r, z1)) : Aw p l e rm_X12_terms s m args below meth c Q D A 3 (wR N s0) 258 [(0, .ref (N.1 0))] [.int t0, .ref (N.1 0)] := by
  unfold F_X12_terms_258 at h
  obtain ⟨q1, h⟩ := oZ_e h
  refine rp_md_hasFirst C lw_18_4 q1 dX12_terms_258 ?_
  refine ra_name (fun s2 es2 => ?_)
  have h := oL_e es2 h
  refine aw_aload_n C 0 dX12_terms_261 rfl ?_
  refine aw_aload_n C 0 dX12_terms_262 rfl ?_
  refine rg_md_counted C lw_17_21 dX12_terms_263 ?_
  refine rp_md_knots C lw_18_5 dX12_terms_266 ?_
  refine ra_name (fun s3 es3 => ?_)
  have h := oL_e es3 h
  refine aw_aload_n C 0 dX12_terms_269 rfl ?_
  refine rg_md_lines C lw_17_23 dX12_terms_270 ?_
  cases h
  exact aw_ret hE dX12_terms_273
def F_X12_terms_205_b (k205 : St → Int32 → Option (Int32 × St)) (s0 : St) (x2 : Int32) : Option (Int32 × St) :=
  if (6 : Int32) ≤ x2 then (
    oL (sI s0 2 (s0.1 3)) fun s1 =>
    if ((s1.1 7) >>> ((1 : Int32) &&& 31)) &&& (1 : Int32) = (1 : Int32) then (
      F_X12_terms_258 s1 (1 : Int32))
    else (
      F_X12_terms_258 s1 (0 : Int32)))
  else (
    oA ((6 : Int32) + x2) 12 <|
    oA x2 12 <|
    oL (sA s0 3 (upd (s0.2.1 3) (Int32.toNatClampNeg x2) (s0.2.1 3 (Int32.toNatClampNeg ((6 : Int32) + x2))))) fun s4 =>
    oL (x2 + (1 : Int32)) fun y5 =>
    k205 s4 y5)
set_option maxHeartbeats 4000000 in
set_option maxRecDepth 100000 in
theorem T_X12_terms_205_b {r : Int32} {z1 : St} {k205 : St → Int32 → Option (Int32 × St)} (C : Cx p rm_X12_terms s m args c D A cX12_terms 3 RX12 rm_X12_terms N) (hE : En p l e rm_X12_terms s m args below meth c Q D A cX12_terms .ireturn (wR N z1) [.int r]) (hk205 : ∀ (s0 : St) (x2 : Int32), k205 s0 x2 = some (r, z1) → Aw p l e rm_X12_terms s m args below meth c Q D A 3 (wR N s0) 205 [(0, .ref (N.1 0)), (2, .int x2)] []) (s0 : St) (x2 : Int32) (h : F_X12_terms_205_b k205 s0 x2 = some (r, z1)) : Aw p l e rm_X12_terms s m args below meth c Q D A 3 (wR N s0) 205 [(0, .ref (N.1 0)), (2, .int x2)] [] := by
  unfold F_X12_terms_205_b at h
  refine aw_iload_n C 1 dX12_terms_205 rfl ?_
  refine aw_bipush (v := 6) C dX12_terms_206 (by decide) ?_
  refine aw_icmp_ge (tgt := 232) C dX12_terms_208 (by decide) (fun q => ?_) (fun q => ?_)
  · have h := bq_t q h
    refine aw_aload_n C 0 dX12_terms_232 rfl ?_
    refine aw_aload_n C 0 dX12_terms_233 rfl ?_
    refine rg_md_knotNew C lw_17_22 dX12_terms_234 ?_
    refine rp_md_knotMany C lw_18_3 dX12_terms_237 ?_
    refine ra_name (fun s1 es1 => ?_)
    have h := oL_e es1 h
    refine aw_aload_n C 0 dX12_terms_240 rfl ?_
    refine aw_aload_n C 0 dX12_terms_241 rfl ?_
    refine rg_md_told C lw_18_0 dX12_terms_242 ?_
    refine aw_iconst (v := 1) C dX12_terms_245 (by decide) ?_
    refine aw_ishr C dX12_terms_246 ?_
    refine aw_iconst (v := 1) C dX12_terms_247 (by decide) ?_
    refine aw_iand C dX12_terms_248 ?_
    refine aw_iconst (v := 1) C dX12_terms_249 (by decide) ?_
    refine aw_icmp_ne (tgt := 257) C dX12_terms_250 (by decide) (fun q => ?_) (fun q => ?_)
    · have h := bq_f q h
      refine aw_iconst (v := 0) C dX12_terms_257 (by decide) ?_
      refine aw_sub (lv' := [(0, .ref (N.1 0))]) [0] rfl ?_
      exact T_X12_terms_258 C hE s1 (0 : Int32) h
    · have h := bq_t q h
      refine aw_iconst (v := 1) C dX12_terms_253 (by decide) ?_
      refine aw_goto (tgt := 258) C dX12_terms_254 (by decide) ?_
      refine aw_sub (lv' := [(0, .ref (N.1 0))]) [0] rfl ?_
      exact T_X12_terms_258 C hE s1 (1 : Int32) h
  · have h := bq_f q h
    refine aw_aload_n C 0 dX12_terms_211 rfl ?_
    refine rg_md_rule C lw_8_3 dX12_terms_212 ?_
    refine aw_iload_n C 1 dX12_terms_215 rfl ?_
    refine aw_aload_n C 0 dX12_terms_216 rfl ?_
    refine rg_md_rule C lw_8_3 dX12_terms_217 ?_
    refine aw_bipush (v := 6) C dX12_terms_220 (by decide) ?_
    refine aw_iload_n C 1 dX12_terms_222 rfl ?_
    refine aw_iadd C dX12_terms_223 ?_
    obtain ⟨q2, h⟩ := oA_e h
    refine ra_iald (k := 3) C (by decide) rfl q2 dX12_terms_224 ?_
    obtain ⟨q3, h⟩ := oA_e h
    refine ra_iast (k := 3) C (by decide) rfl q3 dX12_terms_225 ?_
    refine ra_name (fun s4 es4 => ?_)
    have h := oL_e es4 h
    obtain ⟨y5, ey5⟩ : ∃ q : Int32, q = x2 + (1 : Int32) := ⟨_, rfl⟩
    have h := oL_e ey5 h
    refine aw_iinc (v := y5) (k := 1) (lv' := [(0, .ref (N.1 0)), (2, .int y5)]) C [1, 0] dX12_terms_226 rfl (by rw [ey5]; rfl) (by decide) rfl ?_
    refine aw_goto (tgt := 205) C dX12_terms_229 (by decide) ?_
    refine aw_sub (lv' := [(0, .ref (N.1 0)), (2, .int y5)]) [0, 1] rfl ?_
    exact hk205 s4 y5 h
def F_X12_terms_205 : Nat → St → Int32 → Option (Int32 × St)
  | 0 => fun _ _ => none
  | n + 1 => F_X12_terms_205_b (F_X12_terms_205 n)
theorem T_X12_terms_205 {r : Int32} {z1 : St} (C : Cx p rm_X12_terms s m args c D A cX12_terms 3 RX12 rm_X12_terms N) (hE : En p l e rm_X12_terms s m args below meth c Q D A cX12_terms .ireturn (wR N z1) [.int r])  : ∀ (n : Nat) (s0 : St) (x2 : Int32), F_X12_terms_205 n s0 x2 = some (r, z1) → Aw p l e rm_X12_terms s m args below meth c Q D A 3 (wR N s0) 205 [(0, .ref (N.1 0)), (2, .int x2)] [] := by
  intro n
  induction n with
  | zero => intro s0 x2 h; cases h
  | succ n ih => intro s0 x2 h; exact T_X12_terms_205_b C hE ih s0 x2 h
def F_X12_terms_161_b (k161 : St → Int32 → Option (Int32 × St)) (s0 : St) (x2 : Int32) : Option (Int32 × St) :=
  if (64 : Int32) ≤ x2 then (
    oL (0 : Int32) fun y1 =>
    F_X12_terms_205 100000 s0 y1)
  else (
    oA ((64 : Int32) + x2) 128 <|
    oA x2 128 <|
    oL (sA s0 1 (upd (s0.2.1 1) (Int32.toNatClampNeg x2) (s0.2.1 1 (Int32.toNatClampNeg ((64 : Int32) + x2))))) fun s4 =>
    oA ((64 : Int32) + x2) 128 <|
    oA x2 128 <|
    oL (sA s4 2 (upd (s4.2.1 2) (Int32.toNatClampNeg x2) (s4.2.1 2 (Int32.toNatClampNeg ((64 : Int32) + x2))))) fun s7 =>
    oL (x2 + (1 : Int32)) fun y8 =>
    k161 s7 y8)
set_option maxHeartbeats 4000000 in
set_option maxRecDepth 100000 in
theorem T_X12_terms_161_b {r : Int32} {z1 : St} {k161 : St → Int32 → Option (Int32 × St)} (C : Cx p rm_X12_terms s m args c D A cX12_terms 3 RX12 rm_X12_terms N) (hE : En p l e rm_X12_terms s m args below meth c Q D A cX12_terms .ireturn (wR N z1) [.int r]) (hk161 : ∀ (s0 : St) (x2 : Int32), k161 s0 x2 = some (r, z1) → Aw p l e rm_X12_terms s m args below meth c Q D A 3 (wR N s0) 161 [(0, .ref (N.1 0)), (2, .int x2)] []) (s0 : St) (x2 : Int32) (h : F_X12_terms_161_b k161 s0 x2 = some (r, z1)) : Aw p l e rm_X12_terms s m args below meth c Q D A 3 (wR N s0) 161 [(0, .ref (N.1 0)), (2, .int x2)] [] := by
  unfold F_X12_terms_161_b at h
  refine aw_iload_n C 1 dX12_terms_161 rfl ?_
  refine aw_bipush (v := 64) C dX12_terms_162 (by decide) ?_
  refine aw_icmp_ge (tgt := 203) C dX12_terms_164 (by decide) (fun q => ?_) (fun q => ?_)
  · have h := bq_t q h
    refine aw_iconst (v := 0) C dX12_terms_203 (by decide) ?_
    refine aw_topi (fun y1 ey1 => ?_)
    have h := oL_e ey1 h
    refine aw_istore_n (lv' := [(0, .ref (N.1 0)), (2, .int y1)]) C [1, 0] dX12_terms_204 rfl (by decide) rfl ?_
    refine aw_sub (lv' := [(0, .ref (N.1 0)), (2, .int y1)]) [0, 1] rfl ?_
    exact T_X12_terms_205 C hE 100000 s0 y1 h
  · have h := bq_f q h
    refine aw_aload_n C 0 dX12_terms_167 rfl ?_
    refine rg_md_knotSort C lw_8_1 dX12_terms_168 ?_
    refine aw_iload_n C 1 dX12_terms_171 rfl ?_
    refine aw_aload_n C 0 dX12_terms_172 rfl ?_
    refine rg_md_knotSort C lw_8_1 dX12_terms_173 ?_
    refine aw_bipush (v := 64) C dX12_terms_176 (by decide) ?_
    refine aw_iload_n C 1 dX12_terms_178 rfl ?_
    refine aw_iadd C dX12_terms_179 ?_
    obtain ⟨q2, h⟩ := oA_e h
    refine ra_iald (k := 1) C (by decide) rfl q2 dX12_terms_180 ?_
    obtain ⟨q3, h⟩ := oA_e h
    refine ra_iast (k := 1) C (by decide) rfl q3 dX12_terms_181 ?_
    refine ra_name (fun s4 es4 => ?_)
    have h := oL_e es4 h
    refine aw_aload_n C 0 dX12_terms_182 rfl ?_
    refine rg_md_knotValue C lw_8_2 dX12_terms_183 ?_
    refine aw_iload_n C 1 dX12_terms_186 rfl ?_
    refine aw_aload_n C 0 dX12_terms_187 rfl ?_
    refine rg_md_knotValue C lw_8_2 dX12_terms_188 ?_
    refine aw_bipush (v := 64) C dX12_terms_191 (by decide) ?_
    refine aw_iload_n C 1 dX12_terms_193 rfl ?_
    refine aw_iadd C dX12_terms_194 ?_
    obtain ⟨q5, h⟩ := oA_e h
    refine ra_iald (k := 2) C (by decide) rfl q5 dX12_terms_195 ?_
    obtain ⟨q6, h⟩ := oA_e h
    refine ra_iast (k := 2) C (by decide) rfl q6 dX12_terms_196 ?_
    refine ra_name (fun s7 es7 => ?_)
    have h := oL_e es7 h
    obtain ⟨y8, ey8⟩ : ∃ q : Int32, q = x2 + (1 : Int32) := ⟨_, rfl⟩
    have h := oL_e ey8 h
    refine aw_iinc (v := y8) (k := 1) (lv' := [(0, .ref (N.1 0)), (2, .int y8)]) C [1, 0] dX12_terms_197 rfl (by rw [ey8]; rfl) (by decide) rfl ?_
    refine aw_goto (tgt := 161) C dX12_terms_200 (by decide) ?_
    refine aw_sub (lv' := [(0, .ref (N.1 0)), (2, .int y8)]) [0, 1] rfl ?_
    exact hk161 s7 y8 h
def F_X12_terms_161 : Nat → St → Int32 → Option (Int32 × St)
  | 0 => fun _ _ => none
  | n + 1 => F_X12_terms_161_b (F_X12_terms_161 n)
theorem T_X12_terms_161 {r : Int32} {z1 : St} (C : Cx p rm_X12_terms s m args c D A cX12_terms 3 RX12 rm_X12_terms N) (hE : En p l e rm_X12_terms s m args below meth c Q D A cX12_terms .ireturn (wR N z1) [.int r])  : ∀ (n : Nat) (s0 : St) (x2 : Int32), F_X12_terms_161 n s0 x2 = some (r, z1) → Aw p l e rm_X12_terms s m args below meth c Q D A 3 (wR N s0) 161 [(0, .ref (N.1 0)), (2, .int x2)] [] := by
  intro n
  induction n with
  | zero => intro s0 x2 h; cases h
  | succ n ih => intro s0 x2 h; exact T_X12_terms_161_b C hE ih s0 x2 h
def F_X12_terms_134 (s0 : St) : Option (Int32 × St) :=
  oL (sI s0 15 (s0.1 13)) fun s1 =>
  oL (sI s1 16 (s1.1 14)) fun s2 =>
  if (s2.1 13) = 0 then (
    oL (0 : Int32) fun y3 =>
    F_X12_terms_161 100000 s2 y3)
  else (
    some ((-1 : Int32), s2))
set_option maxHeartbeats 4000000 in
set_option maxRecDepth 100000 in
theorem T_X12_terms_134 {r : Int32} {z1 : St} (C : Cx p rm_X12_terms s m args c D A cX12_terms 3 RX12 rm_X12_terms N) (hE : En p l e rm_X12_terms s m args below meth c Q D A cX12_terms .ireturn (wR N z1) [.int r])  (s0 : St) (h : F_X12_terms_134 s0 = some (r, z1)) : Aw p l e rm_X12_terms s m args below meth c Q D A 3 (wR N s0) 134 [(0, .ref (N.1 0))] [] := by
  unfold F_X12_terms_134 at h
  refine aw_aload_n C 0 dX12_terms_134 rfl ?_
  refine aw_aload_n C 0 dX12_terms_135 rfl ?_
  refine rg_md_fault C lw_17_19 dX12_terms_136 ?_
  refine rp_md_lastFault C lw_18_2 dX12_terms_139 ?_
  refine ra_name (fun s1 es1 => ?_)
  have h := oL_e es1 h
  refine aw_aload_n C 0 dX12_terms_142 rfl ?_
  refine aw_aload_n C 0 dX12_terms_143 rfl ?_
  refine rg_md_faultPlace C lw_17_20 dX12_terms_144 ?_
  refine rp_md_lastPlace C lw_8_4 dX12_terms_147 ?_
  refine ra_name (fun s2 es2 => ?_)
  have h := oL_e es2 h
  refine aw_aload_n C 0 dX12_terms_150 rfl ?_
  refine rg_md_fault C lw_17_19 dX12_terms_151 ?_
  refine aw_if_eq (tgt := 159) C dX12_terms_154 (by decide) (fun q => ?_) (fun q => ?_)
  · have h := bq_t q h
    refine aw_iconst (v := 0) C dX12_terms_159 (by decide) ?_
    refine aw_topi (fun y3 ey3 => ?_)
    have h := oL_e ey3 h
    refine aw_istore_n (lv' := [(0, .ref (N.1 0)), (2, .int y3)]) C [1, 0] dX12_terms_160 rfl (by decide) rfl ?_
    refine aw_sub (lv' := [(0, .ref (N.1 0)), (2, .int y3)]) [0, 1] rfl ?_
    exact T_X12_terms_161 C hE 100000 s2 y3 h
  · have h := bq_f q h
    refine aw_iconst (v := -1) C dX12_terms_157 (by decide) ?_
    cases h
    exact aw_ret hE dX12_terms_158
def F_X12_terms_112_b (k112 : St → Option (Int32 × St)) (s0 : St) : Option (Int32 × St) :=
  if (s0.1 13) = 0 then (
    if (s0.1 11) = (3 : Int32) then (
      F_X12_terms_134 s0)
    else (
      oC (f_X12_line s0) fun w3 =>
      oL w3 fun s2 =>
      k112 s2))
  else (
    F_X12_terms_134 s0)
set_option maxHeartbeats 4000000 in
set_option maxRecDepth 100000 in
theorem T_X12_terms_112_b {r : Int32} {z1 : St} {k112 : St → Option (Int32 × St)} (C : Cx p rm_X12_terms s m args c D A cX12_terms 3 RX12 rm_X12_terms N) (hE : En p l e rm_X12_terms s m args below meth c Q D A cX12_terms .ireturn (wR N z1) [.int r]) (hk112 : ∀ (s0 : St), k112 s0 = some (r, z1) → Aw p l e rm_X12_terms s m args below meth c Q D A 3 (wR N s0) 112 [(0, .ref (N.1 0))] []) (s0 : St) (h : F_X12_terms_112_b k112 s0 = some (r, z1)) : Aw p l e rm_X12_terms s m args below meth c Q D A 3 (wR N s0) 112 [(0, .ref (N.1 0))] [] := by
  unfold F_X12_terms_112_b at h
  refine aw_aload_n C 0 dX12_terms_112 rfl ?_
  refine rg_md_fault C lw_17_19 dX12_terms_113 ?_
  refine aw_if_ne (tgt := 134) C dX12_terms_116 (by decide) (fun q => ?_) (fun q => ?_)
  · have h := bq_f q h
    refine aw_sub (lv' := [(0, .ref (N.1 0))]) [0] rfl ?_
    exact T_X12_terms_134 C hE s0 h
  · have h := bq_t q h
    refine aw_aload_n C 0 dX12_terms_119 rfl ?_
    refine rg_md_sort C lw_18_1 dX12_terms_120 ?_
    refine aw_iconst (v := 3) C dX12_terms_123 (by decide) ?_
    refine aw_icmp_eq (tgt := 134) C dX12_terms_124 (by decide) (fun q => ?_) (fun q => ?_)
    · have h := bq_t q h
      refine aw_sub (lv' := [(0, .ref (N.1 0))]) [0] rfl ?_
      exact T_X12_terms_134 C hE s0 h
    · have h := bq_f q h
      refine aw_aload_n C 0 dX12_terms_127 rfl ?_
      obtain ⟨s2, cw3, h⟩ := oC_e h
      have h := oL_e (x := s2) rfl h
      refine aw_callVv (n := 0) (As := []) (rest := []) (q0 := 0) C (c_X12_line l D N s0 s2 cw3) lw_19_4 lw_19_5 lw_19_6 lw_1_5 lw_19_7 rfl rfl (by decide +kernel) ⟨Nat.le_of_ble_eq_true rfl, Nat.le_of_ble_eq_true rfl⟩ rfl rfl rfl rfl rfl (Nat.le_of_ble_eq_true rfl) dX12_terms_128 ?_
      refine aw_goto (tgt := 112) C dX12_terms_131 (by decide) ?_
      refine aw_sub (lv' := [(0, .ref (N.1 0))]) [0] rfl ?_
      exact hk112 s2 h
def F_X12_terms_112 : Nat → St → Option (Int32 × St)
  | 0 => fun _ => none
  | n + 1 => F_X12_terms_112_b (F_X12_terms_112 n)
theorem T_X12_terms_112 {r : Int32} {z1 : St} (C : Cx p rm_X12_terms s m args c D A cX12_terms 3 RX12 rm_X12_terms N) (hE : En p l e rm_X12_terms s m args below meth c Q D A cX12_terms .ireturn (wR N z1) [.int r])  : ∀ (n : Nat) (s0 : St), F_X12_terms_112 n s0 = some (r, z1) → Aw p l e rm_X12_terms s m args below meth c Q D A 3 (wR N s0) 112 [(0, .ref (N.1 0))] [] := by
  intro n
  induction n with
  | zero => intro s0 h; cases h
  | succ n ih => intro s0 h; exact T_X12_terms_112_b C hE ih s0 h
def F_X12_terms_101 (k68 : St → Int32 → Option (Int32 × St)) (s0 : St) (x2 : Int32) (t0 : Int32) (t1 : Int32) : Option (Int32 × St) :=
  oA t1 12 <|
  oL (sA s0 3 (upd (s0.2.1 3) (Int32.toNatClampNeg t1) t0)) fun s2 =>
  oL (x2 + (1 : Int32)) fun y3 =>
  k68 s2 y3
set_option maxHeartbeats 4000000 in
set_option maxRecDepth 100000 in
theorem T_X12_terms_101 {r : Int32} {z1 : St} {k68 : St → Int32 → Option (Int32 × St)} (C : Cx p rm_X12_terms s m args c D A cX12_terms 3 RX12 rm_X12_terms N) (hE : En p l e rm_X12_terms s m args below meth c Q D A cX12_terms .ireturn (wR N z1) [.int r]) (hk68 : ∀ (s0 : St) (x2 : Int32), k68 s0 x2 = some (r, z1) → Aw p l e rm_X12_terms s m args below meth c Q D A 3 (wR N s0) 68 [(0, .ref (N.1 0)), (2, .int x2)] []) (s0 : St) (x2 : Int32) (t0 : Int32) (t1 : Int32) (h : F_X12_terms_101 k68 s0 x2 t0 t1 = some (r, z1)) : Aw p l e rm_X12_terms s m args below meth c Q D A 3 (wR N s0) 101 [(0, .ref (N.1 0)), (2, .int x2)] [.int t0, .int t1, .ref (N.2.1 3)] := by
  unfold F_X12_terms_101 at h
  obtain ⟨q1, h⟩ := oA_e h
  refine ra_iast (k := 3) C (by decide) rfl q1 dX12_terms_101 ?_
  refine ra_name (fun s2 es2 => ?_)
  have h := oL_e es2 h
  obtain ⟨y3, ey3⟩ : ∃ q : Int32, q = x2 + (1 : Int32) := ⟨_, rfl⟩
  have h := oL_e ey3 h
  refine aw_iinc (v := y3) (k := 1) (lv' := [(0, .ref (N.1 0)), (2, .int y3)]) C [1, 0] dX12_terms_102 rfl (by rw [ey3]; rfl) (by decide) rfl ?_
  refine aw_goto (tgt := 68) C dX12_terms_105 (by decide) ?_
  refine aw_sub (lv' := [(0, .ref (N.1 0)), (2, .int y3)]) [0, 1] rfl ?_
  exact hk68 s2 y3 h
def F_X12_terms_68_b (k68 : St → Int32 → Option (Int32 × St)) (s0 : St) (x2 : Int32) : Option (Int32 × St) :=
  if (12 : Int32) ≤ x2 then (
    oC (f_X12_next s0) fun w3 =>
    oL w3 fun s2 =>
    F_X12_terms_112 100000 s2)
  else (
    if x2 = (10 : Int32) then (
      F_X12_terms_101 k68 s0 x2 (10 : Int32) x2)
    else (
      if x2 = (11 : Int32) then (
        F_X12_terms_101 k68 s0 x2 (5 : Int32) x2)
      else (
        F_X12_terms_101 k68 s0 x2 (0 : Int32) x2)))
set_option maxHeartbeats 4000000 in
set_option maxRecDepth 100000 in
theorem T_X12_terms_68_b {r : Int32} {z1 : St} {k68 : St → Int32 → Option (Int32 × St)} (C : Cx p rm_X12_terms s m args c D A cX12_terms 3 RX12 rm_X12_terms N) (hE : En p l e rm_X12_terms s m args below meth c Q D A cX12_terms .ireturn (wR N z1) [.int r]) (hk68 : ∀ (s0 : St) (x2 : Int32), k68 s0 x2 = some (r, z1) → Aw p l e rm_X12_terms s m args below meth c Q D A 3 (wR N s0) 68 [(0, .ref (N.1 0)), (2, .int x2)] []) (s0 : St) (x2 : Int32) (h : F_X12_terms_68_b k68 s0 x2 = some (r, z1)) : Aw p l e rm_X12_terms s m args below meth c Q D A 3 (wR N s0) 68 [(0, .ref (N.1 0)), (2, .int x2)] [] := by
  unfold F_X12_terms_68_b at h
  refine aw_iload_n C 1 dX12_terms_68 rfl ?_
  refine aw_bipush (v := 12) C dX12_terms_69 (by decide) ?_
  refine aw_icmp_ge (tgt := 108) C dX12_terms_71 (by decide) (fun q => ?_) (fun q => ?_)
  · have h := bq_t q h
    refine aw_aload_n C 0 dX12_terms_108 rfl ?_
    obtain ⟨s2, cw3, h⟩ := oC_e h
    have h := oL_e (x := s2) rfl h
    refine aw_callVv (n := 0) (As := []) (rest := []) (q0 := 0) C (c_X12_next l D N s0 s2 cw3) lw_18_6 lw_18_7 lw_18_8 lw_1_5 lw_18_9 rfl rfl (by decide +kernel) ⟨Nat.le_of_ble_eq_true rfl, Nat.le_of_ble_eq_true rfl⟩ rfl rfl rfl rfl rfl (Nat.le_of_ble_eq_true rfl) dX12_terms_109 ?_
    refine aw_sub (lv' := [(0, .ref (N.1 0))]) [0] rfl ?_
    exact T_X12_terms_112 C hE 100000 s2 h
  · have h := bq_f q h
    refine aw_aload_n C 0 dX12_terms_74 rfl ?_
    refine rg_md_rule C lw_8_3 dX12_terms_75 ?_
    refine aw_iload_n C 1 dX12_terms_78 rfl ?_
    refine aw_iload_n C 1 dX12_terms_79 rfl ?_
    refine aw_bipush (v := 10) C dX12_terms_80 (by decide) ?_
    refine aw_icmp_ne (tgt := 90) C dX12_terms_82 (by decide) (fun q => ?_) (fun q => ?_)
    · have h := bq_f q h
      refine aw_iload_n C 1 dX12_terms_90 rfl ?_
      refine aw_bipush (v := 11) C dX12_terms_91 (by decide) ?_
      refine aw_icmp_ne (tgt := 100) C dX12_terms_93 (by decide) (fun q => ?_) (fun q => ?_)
      · have h := bq_f q h
        refine aw_iconst (v := 0) C dX12_terms_100 (by decide) ?_
        refine aw_sub (lv' := [(0, .ref (N.1 0)), (2, .int x2)]) [0, 1] rfl ?_
        exact T_X12_terms_101 C hE hk68 s0 x2 (0 : Int32) x2 h
      · have h := bq_t q h
        refine aw_iconst (v := 5) C dX12_terms_96 (by decide) ?_
        refine aw_goto (tgt := 101) C dX12_terms_97 (by decide) ?_
        refine aw_sub (lv' := [(0, .ref (N.1 0)), (2, .int x2)]) [0, 1] rfl ?_
        exact T_X12_terms_101 C hE hk68 s0 x2 (5 : Int32) x2 h
    · have h := bq_t q h
      refine aw_bipush (v := 10) C dX12_terms_85 (by decide) ?_
      refine aw_goto (tgt := 101) C dX12_terms_87 (by decide) ?_
      refine aw_sub (lv' := [(0, .ref (N.1 0)), (2, .int x2)]) [0, 1] rfl ?_
      exact T_X12_terms_101 C hE hk68 s0 x2 (10 : Int32) x2 h
def F_X12_terms_68 : Nat → St → Int32 → Option (Int32 × St)
  | 0 => fun _ _ => none
  | n + 1 => F_X12_terms_68_b (F_X12_terms_68 n)
theorem T_X12_terms_68 {r : Int32} {z1 : St} (C : Cx p rm_X12_terms s m args c D A cX12_terms 3 RX12 rm_X12_terms N) (hE : En p l e rm_X12_terms s m args below meth c Q D A cX12_terms .ireturn (wR N z1) [.int r])  : ∀ (n : Nat) (s0 : St) (x2 : Int32), F_X12_terms_68 n s0 x2 = some (r, z1) → Aw p l e rm_X12_terms s m args below meth c Q D A 3 (wR N s0) 68 [(0, .ref (N.1 0)), (2, .int x2)] [] := by
  intro n
  induction n with
  | zero => intro s0 x2 h; cases h
  | succ n ih => intro s0 x2 h; exact T_X12_terms_68_b C hE ih s0 x2 h
def F_X12_terms_0 (s0 : St) (x1 : Int32) : Option (Int32 × St) :=
  oL (sI s0 0 (0 : Int32)) fun s1 =>
  if x1 < 0 then (
    F_X12_terms_17 s1)
  else (
    if x1 ≤ (s1.1 1) then (
      oL (sI s1 8 x1) fun s2 =>
      oL (sI s2 1 (0 : Int32)) fun s3 =>
      oL (sI s3 9 (0 : Int32)) fun s4 =>
      oL (sI s4 13 (0 : Int32)) fun s5 =>
      oL (sI s5 14 (-1 : Int32)) fun s6 =>
      oL (sI s6 5 (0 : Int32)) fun s7 =>
      oL (sI s7 3 (0 : Int32)) fun s8 =>
      oL (sI s8 6 (0 : Int32)) fun s9 =>
      oL (sI s9 7 (0 : Int32)) fun s10 =>
      oL (6 : Int32) fun y11 =>
      F_X12_terms_68 100000 s10 y11)
    else (
      F_X12_terms_17 s1))
set_option maxHeartbeats 4000000 in
set_option maxRecDepth 100000 in
theorem T_X12_terms_0 {r : Int32} {z1 : St} (C : Cx p rm_X12_terms s m args c D A cX12_terms 3 RX12 rm_X12_terms N) (hE : En p l e rm_X12_terms s m args below meth c Q D A cX12_terms .ireturn (wR N z1) [.int r])  (s0 : St) (x1 : Int32) (h : F_X12_terms_0 s0 x1 = some (r, z1)) : Aw p l e rm_X12_terms s m args below meth c Q D A 3 (wR N s0) 0 [(0, .ref (N.1 0)), (1, .int x1)] [] := by
  unfold F_X12_terms_0 at h
  refine aw_aload_n C 0 dX12_terms_0 rfl ?_
  refine aw_iconst (v := 0) C dX12_terms_1 (by decide) ?_
  refine rp_md_thrown C lw_10_11 dX12_terms_2 ?_
  refine ra_name (fun s1 es1 => ?_)
  have h := oL_e es1 h
  refine aw_iload_n C 1 dX12_terms_5 rfl ?_
  refine aw_if_lt (tgt := 17) C dX12_terms_6 (by decide) (fun q => ?_) (fun q => ?_)
  · have h := bq_t q h
    refine aw_sub (lv' := []) [] rfl ?_
    exact T_X12_terms_17 C hE s1 h
  · have h := bq_f q h
    refine aw_iload_n C 1 dX12_terms_9 rfl ?_
    refine aw_aload_n C 0 dX12_terms_10 rfl ?_
    refine rg_md_taped C lw_10_12 dX12_terms_11 ?_
    refine aw_icmp_le (tgt := 20) C dX12_terms_14 (by decide) (fun q => ?_) (fun q => ?_)
    · have h := bq_t q h
      refine aw_aload_n C 0 dX12_terms_20 rfl ?_
      refine aw_iload_n C 1 dX12_terms_21 rfl ?_
      refine rp_md_size C lw_17_17 dX12_terms_22 ?_
      refine ra_name (fun s2 es2 => ?_)
      have h := oL_e es2 h
      refine aw_aload_n C 0 dX12_terms_25 rfl ?_
      refine aw_iconst (v := 0) C dX12_terms_26 (by decide) ?_
      refine rp_md_taped C lw_10_12 dX12_terms_27 ?_
      refine ra_name (fun s3 es3 => ?_)
      have h := oL_e es3 h
      refine aw_aload_n C 0 dX12_terms_30 rfl ?_
      refine aw_iconst (v := 0) C dX12_terms_31 (by decide) ?_
      refine rp_md_at C lw_17_18 dX12_terms_32 ?_
      refine ra_name (fun s4 es4 => ?_)
      have h := oL_e es4 h
      refine aw_aload_n C 0 dX12_terms_35 rfl ?_
      refine aw_iconst (v := 0) C dX12_terms_36 (by decide) ?_
      refine rp_md_fault C lw_17_19 dX12_terms_37 ?_
      refine ra_name (fun s5 es5 => ?_)
      have h := oL_e es5 h
      refine aw_aload_n C 0 dX12_terms_40 rfl ?_
      refine aw_iconst (v := -1) C dX12_terms_41 (by decide) ?_
      refine rp_md_faultPlace C lw_17_20 dX12_terms_42 ?_
      refine ra_name (fun s6 es6 => ?_)
      have h := oL_e es6 h
      refine aw_aload_n C 0 dX12_terms_45 rfl ?_
      refine aw_iconst (v := 0) C dX12_terms_46 (by decide) ?_
      refine rp_md_counted C lw_17_21 dX12_terms_47 ?_
      refine ra_name (fun s7 es7 => ?_)
      have h := oL_e es7 h
      refine aw_aload_n C 0 dX12_terms_50 rfl ?_
      refine aw_iconst (v := 0) C dX12_terms_51 (by decide) ?_
      refine rp_md_knotNew C lw_17_22 dX12_terms_52 ?_
      refine ra_name (fun s8 es8 => ?_)
      have h := oL_e es8 h
      refine aw_aload_n C 0 dX12_terms_55 rfl ?_
      refine aw_iconst (v := 0) C dX12_terms_56 (by decide) ?_
      refine rp_md_lines C lw_17_23 dX12_terms_57 ?_
      refine ra_name (fun s9 es9 => ?_)
      have h := oL_e es9 h
      refine aw_aload_n C 0 dX12_terms_60 rfl ?_
      refine aw_iconst (v := 0) C dX12_terms_61 (by decide) ?_
      refine rp_md_told C lw_18_0 dX12_terms_62 ?_
      refine ra_name (fun s10 es10 => ?_)
      have h := oL_e es10 h
      refine aw_bipush (v := 6) C dX12_terms_65 (by decide) ?_
      refine aw_topi (fun y11 ey11 => ?_)
      have h := oL_e ey11 h
      refine aw_istore_n (lv' := [(0, .ref (N.1 0)), (1, .int x1), (2, .int y11)]) C [1, 2, 0] dX12_terms_67 rfl (by decide) rfl ?_
      refine aw_sub (lv' := [(0, .ref (N.1 0)), (2, .int y11)]) [0, 2] rfl ?_
      exact T_X12_terms_68 C hE 100000 s10 y11 h
    · have h := bq_f q h
      refine aw_sub (lv' := []) [] rfl ?_
      exact T_X12_terms_17 C hE s1 h
def f_X12_terms (s0 : St) (x1 : Int32) : Option (Int32 × St) := F_X12_terms_0 s0 x1
theorem c_X12_terms (l : Launch) (D : va_G) (N : Nm) (s0 z1 : St) (x1 : Int32) (r : Int32) (h : f_X12_terms s0 x1 = some (r, z1)) : Meti l yX12_terms (tsU yX12_terms cX12_terms 3 (some .int)) rm_X12_terms D N [.ref (N.1 0), .int x1] (wR N s0) r (wR N z1) :=
  met_i (cc := cX12_terms) (nL := 3) (own := RX12) (by decide) rfl (Nat.le_of_ble_eq_true rfl) (fun p e s m args below meth c Q A C hE => aw_sub [0, 1] rfl (T_X12_terms_0 C hE s0 x1 h))
/-! AwardLineModel.fault(I)I -/
def rm_X12_fault : Room := { frames := 0, cells := 0, slots := 0, locals := 0 }
def F_X12_fault_29 (s0 : St) (t0 : Int32) : Option (Int32 × St) :=
  some (t0, s0)
set_option maxHeartbeats 4000000 in
set_option maxRecDepth 100000 in
theorem T_X12_fault_29 {r : Int32} {z1 : St} (C : Cx p rm_X12_fault s m args c D A cX12_fault 2 RX12 rm_X12_fault N) (hE : En p l e rm_X12_fault s m args below meth c Q D A cX12_fault .ireturn (wR N z1) [.int r])  (s0 : St) (t0 : Int32) (h : F_X12_fault_29 s0 t0 = some (r, z1)) : Aw p l e rm_X12_fault s m args below meth c Q D A 2 (wR N s0) 29 [] [.int t0] := by
  unfold F_X12_fault_29 at h
  cases h
  exact aw_ret hE dX12_fault_29
def F_X12_fault_0 (s0 : St) (x1 : Int32) : Option (Int32 × St) :=
  oL (sI s0 0 (0 : Int32)) fun s1 =>
  if x1 = 0 then (
    F_X12_fault_29 s1 (s1.1 15))
  else (
    if x1 = (1 : Int32) then (
      F_X12_fault_29 s1 (s1.1 16))
    else (
      F_X12_fault_29 s1 (-1 : Int32)))
set_option maxHeartbeats 4000000 in
set_option maxRecDepth 100000 in
theorem T_X12_fault_0 {r : Int32} {z1 : St} (C : Cx p rm_X12_fault s m args c D A cX12_fault 2 RX12 rm_X12_fault N) (hE : En p l e rm_X12_fault s m args below meth c Q D A cX12_fault .ireturn (wR N z1) [.int r])  (s0 : St) (x1 : Int32) (h : F_X12_fault_0 s0 x1 = some (r, z1)) : Aw p l e rm_X12_fault s m args below meth c Q D A 2 (wR N s0) 0 [(0, .ref (N.1 0)), (1, .int x1)] [] := by
  unfold F_X12_fault_0 at h
  refine aw_aload_n C 0 dX12_fault_0 rfl ?_
  refine aw_iconst (v := 0) C dX12_fault_1 (by decide) ?_
  refine rp_md_thrown C lw_10_11 dX12_fault_2 ?_
  refine ra_name (fun s1 es1 => ?_)
  have h := oL_e es1 h
  refine aw_iload_n C 1 dX12_fault_5 rfl ?_
  refine aw_if_ne (tgt := 16) C dX12_fault_6 (by decide) (fun q => ?_) (fun q => ?_)
  · have h := bq_f q h
    refine aw_iload_n C 1 dX12_fault_16 rfl ?_
    refine aw_iconst (v := 1) C dX12_fault_17 (by decide) ?_
    refine aw_icmp_ne (tgt := 28) C dX12_fault_18 (by decide) (fun q => ?_) (fun q => ?_)
    · have h := bq_f q h
      refine aw_iconst (v := -1) C dX12_fault_28 (by decide) ?_
      refine aw_sub (lv' := []) [] rfl ?_
      exact T_X12_fault_29 C hE s1 (-1 : Int32) h
    · have h := bq_t q h
      refine aw_aload_n C 0 dX12_fault_21 rfl ?_
      refine rg_md_lastPlace C lw_8_4 dX12_fault_22 ?_
      refine aw_goto (tgt := 29) C dX12_fault_25 (by decide) ?_
      refine aw_sub (lv' := []) [] rfl ?_
      exact T_X12_fault_29 C hE s1 (s1.1 16) h
  · have h := bq_t q h
    refine aw_aload_n C 0 dX12_fault_9 rfl ?_
    refine rg_md_lastFault C lw_18_2 dX12_fault_10 ?_
    refine aw_goto (tgt := 29) C dX12_fault_13 (by decide) ?_
    refine aw_sub (lv' := []) [] rfl ?_
    exact T_X12_fault_29 C hE s1 (s1.1 15) h
def f_X12_fault (s0 : St) (x1 : Int32) : Option (Int32 × St) := F_X12_fault_0 s0 x1
theorem c_X12_fault (l : Launch) (D : va_G) (N : Nm) (s0 z1 : St) (x1 : Int32) (r : Int32) (h : f_X12_fault s0 x1 = some (r, z1)) : Meti l yX12_fault (tsU yX12_fault cX12_fault 2 (some .int)) rm_X12_fault D N [.ref (N.1 0), .int x1] (wR N s0) r (wR N z1) :=
  met_i (cc := cX12_fault) (nL := 2) (own := RX12) (by decide) rfl (Nat.le_of_ble_eq_true rfl) (fun p e s m args below meth c Q A C hE => aw_sub [0, 1] rfl (T_X12_fault_0 C hE s0 x1 h))
/-! AwardLineModel.puts(J)Z -/
def rm_X12_puts : Room := { frames := 0, cells := 0, slots := 0, locals := 0 }
def F_X12_puts_41 (s0 : St) (t0 : Int32) : Option (Int32 × St) :=
  some (t0, s0)
set_option maxHeartbeats 4000000 in
set_option maxRecDepth 100000 in
theorem T_X12_puts_41 {r : Int32} {z1 : St} (C : Cx p rm_X12_puts s m args c D A cX12_puts 3 RX12 rm_X12_puts N) (hE : En p l e rm_X12_puts s m args below meth c Q D A cX12_puts .ireturn (wR N z1) [.int r])  (s0 : St) (t0 : Int32) (h : F_X12_puts_41 s0 t0 = some (r, z1)) : Aw p l e rm_X12_puts s m args below meth c Q D A 3 (wR N s0) 41 [] [.int t0] := by
  unfold F_X12_puts_41 at h
  cases h
  exact aw_ret hE dX12_puts_41
def F_X12_puts_40 (s0 : St) : Option (Int32 × St) :=
  F_X12_puts_41 s0 (0 : Int32)
set_option maxHeartbeats 4000000 in
set_option maxRecDepth 100000 in
theorem T_X12_puts_40 {r : Int32} {z1 : St} (C : Cx p rm_X12_puts s m args c D A cX12_puts 3 RX12 rm_X12_puts N) (hE : En p l e rm_X12_puts s m args below meth c Q D A cX12_puts .ireturn (wR N z1) [.int r])  (s0 : St) (h : F_X12_puts_40 s0 = some (r, z1)) : Aw p l e rm_X12_puts s m args below meth c Q D A 3 (wR N s0) 40 [] [] := by
  unfold F_X12_puts_40 at h
  refine aw_iconst (v := 0) C dX12_puts_40 (by decide) ?_
  refine aw_sub (lv' := []) [] rfl ?_
  exact T_X12_puts_41 C hE s0 (0 : Int32) h
def F_X12_puts_0 (s0 : St) (x1 : Int64) : Option (Int32 × St) :=
  oA (s0.1 20) 72 <|
  oL (sJ s0 6 (vp_updL (s0.2.2 6) (Int32.toNatClampNeg (s0.1 20)) x1)) fun s2 =>
  oL (sI s2 20 ((s2.1 20) + (1 : Int32))) fun s3 =>
  if 0 < lg_cmp x1 (1000000000000 : Int64) then (
    F_X12_puts_40 s3)
  else (
    if lg_cmp x1 (-1000000000000 : Int64) < 0 then (
      F_X12_puts_40 s3)
    else (
      F_X12_puts_41 s3 (1 : Int32)))
set_option maxHeartbeats 4000000 in
set_option maxRecDepth 100000 in
theorem T_X12_puts_0 {r : Int32} {z1 : St} (C : Cx p rm_X12_puts s m args c D A cX12_puts 3 RX12 rm_X12_puts N) (hE : En p l e rm_X12_puts s m args below meth c Q D A cX12_puts .ireturn (wR N z1) [.int r])  (s0 : St) (x1 : Int64) (h : F_X12_puts_0 s0 x1 = some (r, z1)) : Aw p l e rm_X12_puts s m args below meth c Q D A 3 (wR N s0) 0 [(0, .ref (N.1 0)), (1, .long x1)] [] := by
  unfold F_X12_puts_0 at h
  refine aw_aload_n C 0 dX12_puts_0 rfl ?_
  refine rg_md_worked C lw_8_7 dX12_puts_1 ?_
  refine aw_aload_n C 0 dX12_puts_4 rfl ?_
  refine rg_md_workedMany C lw_34_17 dX12_puts_5 ?_
  refine aw_lload_n C 1 dX12_puts_8 rfl ?_
  obtain ⟨q1, h⟩ := oA_e h
  refine ra_last (k := 6) C (by decide) rfl q1 dX12_puts_9 ?_
  refine ra_name (fun s2 es2 => ?_)
  have h := oL_e es2 h
  refine aw_aload_n C 0 dX12_puts_10 rfl ?_
  refine aw_dup C dX12_puts_11 rfl ?_
  refine rg_md_workedMany C lw_34_17 dX12_puts_12 ?_
  refine aw_iconst (v := 1) C dX12_puts_15 (by decide) ?_
  refine aw_iadd C dX12_puts_16 ?_
  refine rp_md_workedMany C lw_34_17 dX12_puts_17 ?_
  refine ra_name (fun s3 es3 => ?_)
  have h := oL_e es3 h
  refine aw_lload_n C 1 dX12_puts_20 rfl ?_
  refine aw_ldc2 (v := 1000000000000) C lw_34_23 dX12_puts_21 ?_
  refine aw_lcmp C dX12_puts_24 ?_
  refine aw_if_gt (tgt := 40) C dX12_puts_25 (by decide) (fun q => ?_) (fun q => ?_)
  · have h := bq_t q h
    refine aw_sub (lv' := []) [] rfl ?_
    exact T_X12_puts_40 C hE s3 h
  · have h := bq_f q h
    refine aw_lload_n C 1 dX12_puts_28 rfl ?_
    refine aw_ldc2 (v := -1000000000000) C lw_35_4 dX12_puts_29 ?_
    refine aw_lcmp C dX12_puts_32 ?_
    refine aw_if_lt (tgt := 40) C dX12_puts_33 (by decide) (fun q => ?_) (fun q => ?_)
    · have h := bq_t q h
      refine aw_sub (lv' := []) [] rfl ?_
      exact T_X12_puts_40 C hE s3 h
    · have h := bq_f q h
      refine aw_iconst (v := 1) C dX12_puts_36 (by decide) ?_
      refine aw_goto (tgt := 41) C dX12_puts_37 (by decide) ?_
      refine aw_sub (lv' := []) [] rfl ?_
      exact T_X12_puts_41 C hE s3 (1 : Int32) h
def f_X12_puts (s0 : St) (x1 : Int64) : Option (Int32 × St) := oC (F_X12_puts_0 s0 x1) fun w => oZ w.1 (some w)
theorem c_X12_puts (l : Launch) (D : va_G) (N : Nm) (s0 z1 : St) (x1 : Int64) (r : Int32) (h : f_X12_puts s0 x1 = some (r, z1)) : Meti l yX12_puts (tsU yX12_puts cX12_puts 3 (some .boolean)) rm_X12_puts D N [.ref (N.1 0), .long x1] (wR N s0) r (wR N z1) := by
  obtain ⟨w, h1, h2⟩ := oC_e h
  obtain ⟨hz, h2⟩ := oZ_e h2
  cases h2
  exact met_z (cc := cX12_puts) (nL := 3) (own := RX12) (by decide) rfl (Nat.le_of_ble_eq_true rfl) (zN hz) (fun p e s m args below meth c Q A C hE => aw_sub [0, 1] rfl (T_X12_puts_0 C hE s0 x1 h1))
/-! AwardLineModel.is(Z)J -/
def rm_X12_is : Room := { frames := 0, cells := 0, slots := 0, locals := 0 }
def F_X12_is_9 (s0 : St) (t0 : Int64) : Option (Int64 × St) :=
  some (t0, s0)
set_option maxHeartbeats 4000000 in
set_option maxRecDepth 100000 in
theorem T_X12_is_9 {r : Int64} {z1 : St} (C : Cx p rm_X12_is s m args c D A cX12_is 1 RX12 rm_X12_is N) (hE : En p l e rm_X12_is s m args below meth c Q D A cX12_is .lreturn (wR N z1) [.long r])  (s0 : St) (t0 : Int64) (h : F_X12_is_9 s0 t0 = some (r, z1)) : Aw p l e rm_X12_is s m args below meth c Q D A 1 (wR N s0) 9 [] [.long t0] := by
  unfold F_X12_is_9 at h
  cases h
  exact aw_ret hE dX12_is_9
def F_X12_is_0 (s0 : St) (x0 : Int32) : Option (Int64 × St) :=
  if x0 = 0 then (
    F_X12_is_9 s0 (0 : Int64))
  else (
    F_X12_is_9 s0 (1 : Int64))
set_option maxHeartbeats 4000000 in
set_option maxRecDepth 100000 in
theorem T_X12_is_0 {r : Int64} {z1 : St} (C : Cx p rm_X12_is s m args c D A cX12_is 1 RX12 rm_X12_is N) (hE : En p l e rm_X12_is s m args below meth c Q D A cX12_is .lreturn (wR N z1) [.long r])  (s0 : St) (x0 : Int32) (h : F_X12_is_0 s0 x0 = some (r, z1)) : Aw p l e rm_X12_is s m args below meth c Q D A 1 (wR N s0) 0 [(0, .int x0)] [] := by
  unfold F_X12_is_0 at h
  refine aw_iload_n C 0 dX12_is_0 rfl ?_
  refine aw_if_eq (tgt := 8) C dX12_is_1 (by decide) (fun q => ?_) (fun q => ?_)
  · have h := bq_t q h
    refine aw_lconst (v := 0) C dX12_is_8 (by decide) ?_
    refine aw_sub (lv' := []) [] rfl ?_
    exact T_X12_is_9 C hE s0 (0 : Int64) h
  · have h := bq_f q h
    refine aw_lconst (v := 1) C dX12_is_4 (by decide) ?_
    refine aw_goto (tgt := 9) C dX12_is_5 (by decide) ?_
    refine aw_sub (lv' := []) [] rfl ?_
    exact T_X12_is_9 C hE s0 (1 : Int64) h
def f_X12_is (s0 : St) (x0 : Int32) : Option (Int64 × St) := F_X12_is_0 s0 x0
theorem c_X12_is (l : Launch) (D : va_G) (N : Nm) (s0 z1 : St) (x0 : Int32) (r : Int64) (h : f_X12_is s0 x0 = some (r, z1)) : Metl l yX12_is (tsU yX12_is cX12_is 1 (some .long)) rm_X12_is D N [.int x0] (wR N s0) r (wR N z1) :=
  met_l (cc := cX12_is) (nL := 1) (own := RX12) (by decide) rfl (Nat.le_of_ble_eq_true rfl) (fun p e s m args below meth c Q A C hE => aw_sub [0] rfl (T_X12_is_0 C hE s0 x0 h))
/-! AwardLineModel.does(I)Z -/
def rm_X12_does : Room := { frames := 1, cells := 0, slots := 0, locals := 22 }
def F_X12_does_405 (s0 : St) (t0 : Int32) : Option (Int32 × St) :=
  some (t0, s0)
set_option maxHeartbeats 4000000 in
set_option maxRecDepth 100000 in
theorem T_X12_does_405 {r : Int32} {z1 : St} (C : Cx p rm_X12_does s m args c D A cX12_does 6 RX12 rm_X12_does N) (hE : En p l e rm_X12_does s m args below meth c Q D A cX12_does .ireturn (wR N z1) [.int r])  (s0 : St) (t0 : Int32) (h : F_X12_does_405 s0 t0 = some (r, z1)) : Aw p l e rm_X12_does s m args below meth c Q D A 6 (wR N s0) 405 [] [.int t0] := by
  unfold F_X12_does_405 at h
  cases h
  exact aw_ret hE dX12_does_405
def F_X12_does_404 (s0 : St) : Option (Int32 × St) :=
  F_X12_does_405 s0 (0 : Int32)
set_option maxHeartbeats 4000000 in
set_option maxRecDepth 100000 in
theorem T_X12_does_404 {r : Int32} {z1 : St} (C : Cx p rm_X12_does s m args c D A cX12_does 6 RX12 rm_X12_does N) (hE : En p l e rm_X12_does s m args below meth c Q D A cX12_does .ireturn (wR N z1) [.int r])  (s0 : St) (h : F_X12_does_404 s0 = some (r, z1)) : Aw p l e rm_X12_does s m args below meth c Q D A 6 (wR N s0) 404 [] [] := by
  unfold F_X12_does_404 at h
  refine aw_iconst (v := 0) C dX12_does_404 (by decide) ?_
  refine aw_sub (lv' := []) [] rfl ?_
  exact T_X12_does_405 C hE s0 (0 : Int32) h
def F_X12_does_389 (s0 : St) (x2 : Int64) (x4 : Int64) : Option (Int32 × St) :=
  oC (f_X12_puts s0 (x2 * x4)) fun w3 =>
  oL w3.1 fun v1 => oL w3.2 fun s2 =>
  if v1 = 0 then (
    F_X12_does_404 s2)
  else (
    F_X12_does_405 s2 (1 : Int32))
set_option maxHeartbeats 4000000 in
set_option maxRecDepth 100000 in
theorem T_X12_does_389 {r : Int32} {z1 : St} (C : Cx p rm_X12_does s m args c D A cX12_does 6 RX12 rm_X12_does N) (hE : En p l e rm_X12_does s m args below meth c Q D A cX12_does .ireturn (wR N z1) [.int r])  (s0 : St) (x2 : Int64) (x4 : Int64) (h : F_X12_does_389 s0 x2 x4 = some (r, z1)) : Aw p l e rm_X12_does s m args below meth c Q D A 6 (wR N s0) 389 [(0, .ref (N.1 0)), (2, .long x2), (4, .long x4)] [] := by
  unfold F_X12_does_389 at h
  refine aw_aload_n C 0 dX12_does_389 rfl ?_
  refine aw_lload_n C 1 dX12_does_390 rfl ?_
  refine aw_lload C 2 dX12_does_391 rfl ?_
  refine aw_lmul C dX12_does_393 ?_
  obtain ⟨⟨v1, s2⟩, cw3, h⟩ := oC_e h
  have h := oL_e (x := s2) rfl (oL_e (x := v1) rfl h)
  refine aw_callVi (n := 1) (As := [.long (x2 * x4)]) (rest := []) (q0 := 0) C (c_X12_puts l D N s0 s2 (x2 * x4) v1 cw3) lw_35_0 lw_35_1 lw_35_2 lw_1_5 lw_35_3 rfl rfl (by decide +kernel) ⟨Nat.le_of_ble_eq_true rfl, Nat.le_of_ble_eq_true rfl⟩ rfl rfl rfl rfl rfl (Nat.le_of_ble_eq_true rfl) dX12_does_394 ?_
  refine aw_if_eq (tgt := 404) C dX12_does_397 (by decide) (fun q => ?_) (fun q => ?_)
  · have h := bq_t q h
    refine aw_sub (lv' := []) [] rfl ?_
    exact T_X12_does_404 C hE s2 h
  · have h := bq_f q h
    refine aw_iconst (v := 1) C dX12_does_400 (by decide) ?_
    refine aw_goto (tgt := 405) C dX12_does_401 (by decide) ?_
    refine aw_sub (lv' := []) [] rfl ?_
    exact T_X12_does_405 C hE s2 (1 : Int32) h
def F_X12_does_241 (s0 : St) (t0 : Int32) : Option (Int32 × St) :=
  oC (f_X12_is s0 t0) fun w3 =>
  oL w3.1 fun v1 => oL w3.2 fun s2 =>
  oC (f_X12_puts s2 v1) fun w6 =>
  oL w6.1 fun v4 => oL w6.2 fun s5 =>
  some (v4, s5)
set_option maxHeartbeats 4000000 in
set_option maxRecDepth 100000 in
theorem T_X12_does_241 {r : Int32} {z1 : St} (C : Cx p rm_X12_does s m args c D A cX12_does 6 RX12 rm_X12_does N) (hE : En p l e rm_X12_does s m args below meth c Q D A cX12_does .ireturn (wR N z1) [.int r])  (s0 : St) (t0 : Int32) (h : F_X12_does_241 s0 t0 = some (r, z1)) : Aw p l e rm_X12_does s m args below meth c Q D A 6 (wR N s0) 241 [] [.int t0, .ref (N.1 0)] := by
  unfold F_X12_does_241 at h
  obtain ⟨⟨v1, s2⟩, cw3, h⟩ := oC_e h
  have h := oL_e (x := s2) rfl (oL_e (x := v1) rfl h)
  refine aw_callSl (n := 1) (As := [.int t0]) (rest := [.ref (N.1 0)]) C (c_X12_is l D N s0 s2 t0 v1 cw3) lw_34_6 lw_34_7 lw_1_5 lw_34_8 rfl rfl (by decide +kernel) ⟨Nat.le_of_ble_eq_true rfl, Nat.le_of_ble_eq_true rfl⟩ rfl rfl (Nat.le_of_ble_eq_true rfl) dX12_does_241 ?_
  obtain ⟨⟨v4, s5⟩, cw6, h⟩ := oC_e h
  have h := oL_e (x := s5) rfl (oL_e (x := v4) rfl h)
  refine aw_callVi (n := 1) (As := [.long v1]) (rest := []) (q0 := 0) C (c_X12_puts l D N s2 s5 v1 v4 cw6) lw_35_0 lw_35_1 lw_35_2 lw_1_5 lw_35_3 rfl rfl (by decide +kernel) ⟨Nat.le_of_ble_eq_true rfl, Nat.le_of_ble_eq_true rfl⟩ rfl rfl rfl rfl rfl (Nat.le_of_ble_eq_true rfl) dX12_does_244 ?_
  cases h
  exact aw_ret hE dX12_does_247
def F_X12_does_281 (s0 : St) (t0 : Int32) : Option (Int32 × St) :=
  oC (f_X12_is s0 t0) fun w3 =>
  oL w3.1 fun v1 => oL w3.2 fun s2 =>
  oC (f_X12_puts s2 v1) fun w6 =>
  oL w6.1 fun v4 => oL w6.2 fun s5 =>
  some (v4, s5)
set_option maxHeartbeats 4000000 in
set_option maxRecDepth 100000 in
theorem T_X12_does_281 {r : Int32} {z1 : St} (C : Cx p rm_X12_does s m args c D A cX12_does 6 RX12 rm_X12_does N) (hE : En p l e rm_X12_does s m args below meth c Q D A cX12_does .ireturn (wR N z1) [.int r])  (s0 : St) (t0 : Int32) (h : F_X12_does_281 s0 t0 = some (r, z1)) : Aw p l e rm_X12_does s m args below meth c Q D A 6 (wR N s0) 281 [] [.int t0, .ref (N.1 0)] := by
  unfold F_X12_does_281 at h
  obtain ⟨⟨v1, s2⟩, cw3, h⟩ := oC_e h
  have h := oL_e (x := s2) rfl (oL_e (x := v1) rfl h)
  refine aw_callSl (n := 1) (As := [.int t0]) (rest := [.ref (N.1 0)]) C (c_X12_is l D N s0 s2 t0 v1 cw3) lw_34_6 lw_34_7 lw_1_5 lw_34_8 rfl rfl (by decide +kernel) ⟨Nat.le_of_ble_eq_true rfl, Nat.le_of_ble_eq_true rfl⟩ rfl rfl (Nat.le_of_ble_eq_true rfl) dX12_does_281 ?_
  obtain ⟨⟨v4, s5⟩, cw6, h⟩ := oC_e h
  have h := oL_e (x := s5) rfl (oL_e (x := v4) rfl h)
  refine aw_callVi (n := 1) (As := [.long v1]) (rest := []) (q0 := 0) C (c_X12_puts l D N s2 s5 v1 v4 cw6) lw_35_0 lw_35_1 lw_35_2 lw_1_5 lw_35_3 rfl rfl (by decide +kernel) ⟨Nat.le_of_ble_eq_true rfl, Nat.le_of_ble_eq_true rfl⟩ rfl rfl rfl rfl rfl (Nat.le_of_ble_eq_true rfl) dX12_does_284 ?_
  cases h
  exact aw_ret hE dX12_does_287
def F_X12_does_341 (s0 : St) (t0 : Int32) : Option (Int32 × St) :=
  oC (f_X12_is s0 t0) fun w3 =>
  oL w3.1 fun v1 => oL w3.2 fun s2 =>
  oC (f_X12_puts s2 v1) fun w6 =>
  oL w6.1 fun v4 => oL w6.2 fun s5 =>
  some (v4, s5)
set_option maxHeartbeats 4000000 in
set_option maxRecDepth 100000 in
theorem T_X12_does_341 {r : Int32} {z1 : St} (C : Cx p rm_X12_does s m args c D A cX12_does 6 RX12 rm_X12_does N) (hE : En p l e rm_X12_does s m args below meth c Q D A cX12_does .ireturn (wR N z1) [.int r])  (s0 : St) (t0 : Int32) (h : F_X12_does_341 s0 t0 = some (r, z1)) : Aw p l e rm_X12_does s m args below meth c Q D A 6 (wR N s0) 341 [] [.int t0, .ref (N.1 0)] := by
  unfold F_X12_does_341 at h
  obtain ⟨⟨v1, s2⟩, cw3, h⟩ := oC_e h
  have h := oL_e (x := s2) rfl (oL_e (x := v1) rfl h)
  refine aw_callSl (n := 1) (As := [.int t0]) (rest := [.ref (N.1 0)]) C (c_X12_is l D N s0 s2 t0 v1 cw3) lw_34_6 lw_34_7 lw_1_5 lw_34_8 rfl rfl (by decide +kernel) ⟨Nat.le_of_ble_eq_true rfl, Nat.le_of_ble_eq_true rfl⟩ rfl rfl (Nat.le_of_ble_eq_true rfl) dX12_does_341 ?_
  obtain ⟨⟨v4, s5⟩, cw6, h⟩ := oC_e h
  have h := oL_e (x := s5) rfl (oL_e (x := v4) rfl h)
  refine aw_callVi (n := 1) (As := [.long v1]) (rest := []) (q0 := 0) C (c_X12_puts l D N s2 s5 v1 v4 cw6) lw_35_0 lw_35_1 lw_35_2 lw_1_5 lw_35_3 rfl rfl (by decide +kernel) ⟨Nat.le_of_ble_eq_true rfl, Nat.le_of_ble_eq_true rfl⟩ rfl rfl rfl rfl rfl (Nat.le_of_ble_eq_true rfl) dX12_does_344 ?_
  cases h
  exact aw_ret hE dX12_does_347
def F_X12_does_261 (s0 : St) (t0 : Int32) : Option (Int32 × St) :=
  oC (f_X12_is s0 t0) fun w3 =>
  oL w3.1 fun v1 => oL w3.2 fun s2 =>
  oC (f_X12_puts s2 v1) fun w6 =>
  oL w6.1 fun v4 => oL w6.2 fun s5 =>
  some (v4, s5)
set_option maxHeartbeats 4000000 in
set_option maxRecDepth 100000 in
theorem T_X12_does_261 {r : Int32} {z1 : St} (C : Cx p rm_X12_does s m args c D A cX12_does 6 RX12 rm_X12_does N) (hE : En p l e rm_X12_does s m args below meth c Q D A cX12_does .ireturn (wR N z1) [.int r])  (s0 : St) (t0 : Int32) (h : F_X12_does_261 s0 t0 = some (r, z1)) : Aw p l e rm_X12_does s m args below meth c Q D A 6 (wR N s0) 261 [] [.int t0, .ref (N.1 0)] := by
  unfold F_X12_does_261 at h
  obtain ⟨⟨v1, s2⟩, cw3, h⟩ := oC_e h
  have h := oL_e (x := s2) rfl (oL_e (x := v1) rfl h)
  refine aw_callSl (n := 1) (As := [.int t0]) (rest := [.ref (N.1 0)]) C (c_X12_is l D N s0 s2 t0 v1 cw3) lw_34_6 lw_34_7 lw_1_5 lw_34_8 rfl rfl (by decide +kernel) ⟨Nat.le_of_ble_eq_true rfl, Nat.le_of_ble_eq_true rfl⟩ rfl rfl (Nat.le_of_ble_eq_true rfl) dX12_does_261 ?_
  obtain ⟨⟨v4, s5⟩, cw6, h⟩ := oC_e h
  have h := oL_e (x := s5) rfl (oL_e (x := v4) rfl h)
  refine aw_callVi (n := 1) (As := [.long v1]) (rest := []) (q0 := 0) C (c_X12_puts l D N s2 s5 v1 v4 cw6) lw_35_0 lw_35_1 lw_35_2 lw_1_5 lw_35_3 rfl rfl (by decide +kernel) ⟨Nat.le_of_ble_eq_true rfl, Nat.le_of_ble_eq_true rfl⟩ rfl rfl rfl rfl rfl (Nat.le_of_ble_eq_true rfl) dX12_does_264 ?_
  cases h
  exact aw_ret hE dX12_does_267
def F_X12_does_301 (s0 : St) (t0 : Int32) : Option (Int32 × St) :=
  oC (f_X12_is s0 t0) fun w3 =>
  oL w3.1 fun v1 => oL w3.2 fun s2 =>
  oC (f_X12_puts s2 v1) fun w6 =>
  oL w6.1 fun v4 => oL w6.2 fun s5 =>
  some (v4, s5)
set_option maxHeartbeats 4000000 in
set_option maxRecDepth 100000 in
theorem T_X12_does_301 {r : Int32} {z1 : St} (C : Cx p rm_X12_does s m args c D A cX12_does 6 RX12 rm_X12_does N) (hE : En p l e rm_X12_does s m args below meth c Q D A cX12_does .ireturn (wR N z1) [.int r])  (s0 : St) (t0 : Int32) (h : F_X12_does_301 s0 t0 = some (r, z1)) : Aw p l e rm_X12_does s m args below meth c Q D A 6 (wR N s0) 301 [] [.int t0, .ref (N.1 0)] := by
  unfold F_X12_does_301 at h
  obtain ⟨⟨v1, s2⟩, cw3, h⟩ := oC_e h
  have h := oL_e (x := s2) rfl (oL_e (x := v1) rfl h)
  refine aw_callSl (n := 1) (As := [.int t0]) (rest := [.ref (N.1 0)]) C (c_X12_is l D N s0 s2 t0 v1 cw3) lw_34_6 lw_34_7 lw_1_5 lw_34_8 rfl rfl (by decide +kernel) ⟨Nat.le_of_ble_eq_true rfl, Nat.le_of_ble_eq_true rfl⟩ rfl rfl (Nat.le_of_ble_eq_true rfl) dX12_does_301 ?_
  obtain ⟨⟨v4, s5⟩, cw6, h⟩ := oC_e h
  have h := oL_e (x := s5) rfl (oL_e (x := v4) rfl h)
  refine aw_callVi (n := 1) (As := [.long v1]) (rest := []) (q0 := 0) C (c_X12_puts l D N s2 s5 v1 v4 cw6) lw_35_0 lw_35_1 lw_35_2 lw_1_5 lw_35_3 rfl rfl (by decide +kernel) ⟨Nat.le_of_ble_eq_true rfl, Nat.le_of_ble_eq_true rfl⟩ rfl rfl rfl rfl rfl (Nat.le_of_ble_eq_true rfl) dX12_does_304 ?_
  cases h
  exact aw_ret hE dX12_does_307
def F_X12_does_321 (s0 : St) (t0 : Int32) : Option (Int32 × St) :=
  oC (f_X12_is s0 t0) fun w3 =>
  oL w3.1 fun v1 => oL w3.2 fun s2 =>
  oC (f_X12_puts s2 v1) fun w6 =>
  oL w6.1 fun v4 => oL w6.2 fun s5 =>
  some (v4, s5)
set_option maxHeartbeats 4000000 in
set_option maxRecDepth 100000 in
theorem T_X12_does_321 {r : Int32} {z1 : St} (C : Cx p rm_X12_does s m args c D A cX12_does 6 RX12 rm_X12_does N) (hE : En p l e rm_X12_does s m args below meth c Q D A cX12_does .ireturn (wR N z1) [.int r])  (s0 : St) (t0 : Int32) (h : F_X12_does_321 s0 t0 = some (r, z1)) : Aw p l e rm_X12_does s m args below meth c Q D A 6 (wR N s0) 321 [] [.int t0, .ref (N.1 0)] := by
  unfold F_X12_does_321 at h
  obtain ⟨⟨v1, s2⟩, cw3, h⟩ := oC_e h
  have h := oL_e (x := s2) rfl (oL_e (x := v1) rfl h)
  refine aw_callSl (n := 1) (As := [.int t0]) (rest := [.ref (N.1 0)]) C (c_X12_is l D N s0 s2 t0 v1 cw3) lw_34_6 lw_34_7 lw_1_5 lw_34_8 rfl rfl (by decide +kernel) ⟨Nat.le_of_ble_eq_true rfl, Nat.le_of_ble_eq_true rfl⟩ rfl rfl (Nat.le_of_ble_eq_true rfl) dX12_does_321 ?_
  obtain ⟨⟨v4, s5⟩, cw6, h⟩ := oC_e h
  have h := oL_e (x := s5) rfl (oL_e (x := v4) rfl h)
  refine aw_callVi (n := 1) (As := [.long v1]) (rest := []) (q0 := 0) C (c_X12_puts l D N s2 s5 v1 v4 cw6) lw_35_0 lw_35_1 lw_35_2 lw_1_5 lw_35_3 rfl rfl (by decide +kernel) ⟨Nat.le_of_ble_eq_true rfl, Nat.le_of_ble_eq_true rfl⟩ rfl rfl rfl rfl rfl (Nat.le_of_ble_eq_true rfl) dX12_does_324 ?_
  cases h
  exact aw_ret hE dX12_does_327
def F_X12_does_221 (s0 : St) (t0 : Int32) : Option (Int32 × St) :=
  oC (f_X12_is s0 t0) fun w3 =>
  oL w3.1 fun v1 => oL w3.2 fun s2 =>
  oC (f_X12_puts s2 v1) fun w6 =>
  oL w6.1 fun v4 => oL w6.2 fun s5 =>
  some (v4, s5)
set_option maxHeartbeats 4000000 in
set_option maxRecDepth 100000 in
theorem T_X12_does_221 {r : Int32} {z1 : St} (C : Cx p rm_X12_does s m args c D A cX12_does 6 RX12 rm_X12_does N) (hE : En p l e rm_X12_does s m args below meth c Q D A cX12_does .ireturn (wR N z1) [.int r])  (s0 : St) (t0 : Int32) (h : F_X12_does_221 s0 t0 = some (r, z1)) : Aw p l e rm_X12_does s m args below meth c Q D A 6 (wR N s0) 221 [] [.int t0, .ref (N.1 0)] := by
  unfold F_X12_does_221 at h
  obtain ⟨⟨v1, s2⟩, cw3, h⟩ := oC_e h
  have h := oL_e (x := s2) rfl (oL_e (x := v1) rfl h)
  refine aw_callSl (n := 1) (As := [.int t0]) (rest := [.ref (N.1 0)]) C (c_X12_is l D N s0 s2 t0 v1 cw3) lw_34_6 lw_34_7 lw_1_5 lw_34_8 rfl rfl (by decide +kernel) ⟨Nat.le_of_ble_eq_true rfl, Nat.le_of_ble_eq_true rfl⟩ rfl rfl (Nat.le_of_ble_eq_true rfl) dX12_does_221 ?_
  obtain ⟨⟨v4, s5⟩, cw6, h⟩ := oC_e h
  have h := oL_e (x := s5) rfl (oL_e (x := v4) rfl h)
  refine aw_callVi (n := 1) (As := [.long v1]) (rest := []) (q0 := 0) C (c_X12_puts l D N s2 s5 v1 v4 cw6) lw_35_0 lw_35_1 lw_35_2 lw_1_5 lw_35_3 rfl rfl (by decide +kernel) ⟨Nat.le_of_ble_eq_true rfl, Nat.le_of_ble_eq_true rfl⟩ rfl rfl rfl rfl rfl (Nat.le_of_ble_eq_true rfl) dX12_does_224 ?_
  cases h
  exact aw_ret hE dX12_does_227
def F_X12_does_220 (s0 : St) : Option (Int32 × St) :=
  F_X12_does_221 s0 (0 : Int32)
set_option maxHeartbeats 4000000 in
set_option maxRecDepth 100000 in
theorem T_X12_does_220 {r : Int32} {z1 : St} (C : Cx p rm_X12_does s m args c D A cX12_does 6 RX12 rm_X12_does N) (hE : En p l e rm_X12_does s m args below meth c Q D A cX12_does .ireturn (wR N z1) [.int r])  (s0 : St) (h : F_X12_does_220 s0 = some (r, z1)) : Aw p l e rm_X12_does s m args below meth c Q D A 6 (wR N s0) 220 [] [.ref (N.1 0)] := by
  unfold F_X12_does_220 at h
  refine aw_iconst (v := 0) C dX12_does_220 (by decide) ?_
  refine aw_sub (lv' := []) [] rfl ?_
  exact T_X12_does_221 C hE s0 (0 : Int32) h
def F_X12_does_195 (s0 : St) (t0 : Int32) : Option (Int32 × St) :=
  oC (f_X12_is s0 t0) fun w3 =>
  oL w3.1 fun v1 => oL w3.2 fun s2 =>
  oC (f_X12_puts s2 v1) fun w6 =>
  oL w6.1 fun v4 => oL w6.2 fun s5 =>
  some (v4, s5)
set_option maxHeartbeats 4000000 in
set_option maxRecDepth 100000 in
theorem T_X12_does_195 {r : Int32} {z1 : St} (C : Cx p rm_X12_does s m args c D A cX12_does 6 RX12 rm_X12_does N) (hE : En p l e rm_X12_does s m args below meth c Q D A cX12_does .ireturn (wR N z1) [.int r])  (s0 : St) (t0 : Int32) (h : F_X12_does_195 s0 t0 = some (r, z1)) : Aw p l e rm_X12_does s m args below meth c Q D A 6 (wR N s0) 195 [] [.int t0, .ref (N.1 0)] := by
  unfold F_X12_does_195 at h
  obtain ⟨⟨v1, s2⟩, cw3, h⟩ := oC_e h
  have h := oL_e (x := s2) rfl (oL_e (x := v1) rfl h)
  refine aw_callSl (n := 1) (As := [.int t0]) (rest := [.ref (N.1 0)]) C (c_X12_is l D N s0 s2 t0 v1 cw3) lw_34_6 lw_34_7 lw_1_5 lw_34_8 rfl rfl (by decide +kernel) ⟨Nat.le_of_ble_eq_true rfl, Nat.le_of_ble_eq_true rfl⟩ rfl rfl (Nat.le_of_ble_eq_true rfl) dX12_does_195 ?_
  obtain ⟨⟨v4, s5⟩, cw6, h⟩ := oC_e h
  have h := oL_e (x := s5) rfl (oL_e (x := v4) rfl h)
  refine aw_callVi (n := 1) (As := [.long v1]) (rest := []) (q0 := 0) C (c_X12_puts l D N s2 s5 v1 v4 cw6) lw_35_0 lw_35_1 lw_35_2 lw_1_5 lw_35_3 rfl rfl (by decide +kernel) ⟨Nat.le_of_ble_eq_true rfl, Nat.le_of_ble_eq_true rfl⟩ rfl rfl rfl rfl rfl (Nat.le_of_ble_eq_true rfl) dX12_does_198 ?_
  cases h
  exact aw_ret hE dX12_does_201
def F_X12_does_190 (s0 : St) : Option (Int32 × St) :=
  F_X12_does_195 s0 (1 : Int32)
set_option maxHeartbeats 4000000 in
set_option maxRecDepth 100000 in
theorem T_X12_does_190 {r : Int32} {z1 : St} (C : Cx p rm_X12_does s m args c D A cX12_does 6 RX12 rm_X12_does N) (hE : En p l e rm_X12_does s m args below meth c Q D A cX12_does .ireturn (wR N z1) [.int r])  (s0 : St) (h : F_X12_does_190 s0 = some (r, z1)) : Aw p l e rm_X12_does s m args below meth c Q D A 6 (wR N s0) 190 [] [.ref (N.1 0)] := by
  unfold F_X12_does_190 at h
  refine aw_iconst (v := 1) C dX12_does_190 (by decide) ?_
  refine aw_goto (tgt := 195) C dX12_does_191 (by decide) ?_
  refine aw_sub (lv' := []) [] rfl ?_
  exact T_X12_does_195 C hE s0 (1 : Int32) h
def F_X12_does_429 (s0 : St) (t0 : Int32) : Option (Int32 × St) :=
  some (t0, s0)
set_option maxHeartbeats 4000000 in
set_option maxRecDepth 100000 in
theorem T_X12_does_429 {r : Int32} {z1 : St} (C : Cx p rm_X12_does s m args c D A cX12_does 6 RX12 rm_X12_does N) (hE : En p l e rm_X12_does s m args below meth c Q D A cX12_does .ireturn (wR N z1) [.int r])  (s0 : St) (t0 : Int32) (h : F_X12_does_429 s0 t0 = some (r, z1)) : Aw p l e rm_X12_does s m args below meth c Q D A 6 (wR N s0) 429 [] [.int t0] := by
  unfold F_X12_does_429 at h
  cases h
  exact aw_ret hE dX12_does_429
def F_X12_does_428 (s0 : St) : Option (Int32 × St) :=
  F_X12_does_429 s0 (0 : Int32)
set_option maxHeartbeats 4000000 in
set_option maxRecDepth 100000 in
theorem T_X12_does_428 {r : Int32} {z1 : St} (C : Cx p rm_X12_does s m args c D A cX12_does 6 RX12 rm_X12_does N) (hE : En p l e rm_X12_does s m args below meth c Q D A cX12_does .ireturn (wR N z1) [.int r])  (s0 : St) (h : F_X12_does_428 s0 = some (r, z1)) : Aw p l e rm_X12_does s m args below meth c Q D A 6 (wR N s0) 428 [] [] := by
  unfold F_X12_does_428 at h
  refine aw_iconst (v := 0) C dX12_does_428 (by decide) ?_
  refine aw_sub (lv' := []) [] rfl ?_
  exact T_X12_does_429 C hE s0 (0 : Int32) h
def F_X12_does_38 (s0 : St) (t0 : Int32) (t1 : Int32) : Option (Int32 × St) :=
  oC (f_X12_is s0 t0) fun w3 =>
  oL w3.1 fun v1 => oL w3.2 fun s2 =>
  oA t1 72 <|
  oL (sJ s2 6 (vp_updL (s2.2.2 6) (Int32.toNatClampNeg t1) v1)) fun s5 =>
  some ((1 : Int32), s5)
set_option maxHeartbeats 4000000 in
set_option maxRecDepth 100000 in
theorem T_X12_does_38 {r : Int32} {z1 : St} (C : Cx p rm_X12_does s m args c D A cX12_does 6 RX12 rm_X12_does N) (hE : En p l e rm_X12_does s m args below meth c Q D A cX12_does .ireturn (wR N z1) [.int r])  (s0 : St) (t0 : Int32) (t1 : Int32) (h : F_X12_does_38 s0 t0 t1 = some (r, z1)) : Aw p l e rm_X12_does s m args below meth c Q D A 6 (wR N s0) 38 [] [.int t0, .int t1, .ref (N.2.1 6)] := by
  unfold F_X12_does_38 at h
  obtain ⟨⟨v1, s2⟩, cw3, h⟩ := oC_e h
  have h := oL_e (x := s2) rfl (oL_e (x := v1) rfl h)
  refine aw_callSl (n := 1) (As := [.int t0]) (rest := [.int t1, .ref (N.2.1 6)]) C (c_X12_is l D N s0 s2 t0 v1 cw3) lw_34_6 lw_34_7 lw_1_5 lw_34_8 rfl rfl (by decide +kernel) ⟨Nat.le_of_ble_eq_true rfl, Nat.le_of_ble_eq_true rfl⟩ rfl rfl (Nat.le_of_ble_eq_true rfl) dX12_does_38 ?_
  obtain ⟨q4, h⟩ := oA_e h
  refine ra_last (k := 6) C (by decide) rfl q4 dX12_does_41 ?_
  refine ra_name (fun s5 es5 => ?_)
  have h := oL_e es5 h
  refine aw_iconst (v := 1) C dX12_does_42 (by decide) ?_
  cases h
  exact aw_ret hE dX12_does_43
def F_X12_does_0 (s0 : St) (x1 : Int32) : Option (Int32 × St) :=
  if x1 = (260 : Int32) then (
    oA ((s0.1 20) - (1 : Int32)) 72 <|
    if lg_cmp (s0.2.2 6 (Int32.toNatClampNeg ((s0.1 20) - (1 : Int32)))) (0 : Int64) = 0 then (
      F_X12_does_38 s0 (1 : Int32) ((s0.1 20) - (1 : Int32)))
    else (
      F_X12_does_38 s0 (0 : Int32) ((s0.1 20) - (1 : Int32))))
  else (
    oL (sI s0 20 ((s0.1 20) - (2 : Int32))) fun s1 =>
    oA (s1.1 20) 72 <|
    oL (s1.2.2 6 (Int32.toNatClampNeg (s1.1 20))) fun y3 =>
    oA ((s1.1 20) + (1 : Int32)) 72 <|
    oL (s1.2.2 6 (Int32.toNatClampNeg ((s1.1 20) + (1 : Int32)))) fun y5 =>
    if x1 = 42 then (
      if lg_cmp y3 (0 : Int64) = 0 then (
        F_X12_does_389 s1 y3 y5)
      else (
        oDl (jabs y3) <|
        if 0 < lg_cmp (jabs y5) ((1000000000000 : Int64) / (jabs y3)) then (
          F_X12_does_404 s1)
        else (
          F_X12_does_389 s1 y3 y5)))
    else (
    if x1 = 43 then (
      oC (f_X12_puts s1 (y3 + y5)) fun w9 =>
      oL w9.1 fun v7 => oL w9.2 fun s8 =>
      some (v7, s8))
    else (
    if x1 = 45 then (
      oC (f_X12_puts s1 (y3 - y5)) fun w12 =>
      oL w12.1 fun v10 => oL w12.2 fun s11 =>
      some (v10, s11))
    else (
    if x1 = 60 then (
      if 0 ≤ lg_cmp y3 y5 then (
        F_X12_does_241 s1 (0 : Int32))
      else (
        F_X12_does_241 s1 (1 : Int32)))
    else (
    if x1 = 61 then (
      if lg_cmp y3 y5 = 0 then (
        F_X12_does_281 s1 (1 : Int32))
      else (
        F_X12_does_281 s1 (0 : Int32)))
    else (
    if x1 = 62 then (
      if lg_cmp y3 y5 ≤ 0 then (
        F_X12_does_341 s1 (0 : Int32))
      else (
        F_X12_does_341 s1 (1 : Int32)))
    else (
    if x1 = 256 then (
      if 0 < lg_cmp y3 y5 then (
        F_X12_does_261 s1 (0 : Int32))
      else (
        F_X12_does_261 s1 (1 : Int32)))
    else (
    if x1 = 257 then (
      if lg_cmp y3 y5 = 0 then (
        F_X12_does_301 s1 (0 : Int32))
      else (
        F_X12_does_301 s1 (1 : Int32)))
    else (
    if x1 = 258 then (
      if lg_cmp y3 y5 < 0 then (
        F_X12_does_321 s1 (0 : Int32))
      else (
        F_X12_does_321 s1 (1 : Int32)))
    else (
    if x1 = 261 then (
      if lg_cmp y3 (0 : Int64) = 0 then (
        F_X12_does_220 s1)
      else (
        if lg_cmp y5 (0 : Int64) = 0 then (
          F_X12_does_220 s1)
        else (
          F_X12_does_221 s1 (1 : Int32))))
    else (
    if x1 = 262 then (
      if lg_cmp y3 (0 : Int64) = 0 then (
        if lg_cmp y5 (0 : Int64) = 0 then (
          F_X12_does_195 s1 (0 : Int32))
        else (
          F_X12_does_190 s1))
      else (
        F_X12_does_190 s1))
    else (
      if lg_cmp y5 (0 : Int64) = 0 then (
        F_X12_does_428 s1)
      else (
        oDl y5 <|
        oC (f_X12_puts s1 (y3 / y5)) fun w16 =>
        oL w16.1 fun v14 => oL w16.2 fun s15 =>
        if v14 = 0 then (
          F_X12_does_428 s15)
        else (
          F_X12_does_429 s15 (1 : Int32)))))))))))))))
set_option maxHeartbeats 4000000 in
set_option maxRecDepth 100000 in
theorem T_X12_does_0 {r : Int32} {z1 : St} (C : Cx p rm_X12_does s m args c D A cX12_does 6 RX12 rm_X12_does N) (hE : En p l e rm_X12_does s m args below meth c Q D A cX12_does .ireturn (wR N z1) [.int r])  (s0 : St) (x1 : Int32) (h : F_X12_does_0 s0 x1 = some (r, z1)) : Aw p l e rm_X12_does s m args below meth c Q D A 6 (wR N s0) 0 [(0, .ref (N.1 0)), (1, .int x1)] [] := by
  unfold F_X12_does_0 at h
  refine aw_iload_n C 1 dX12_does_0 rfl ?_
  refine aw_sipush (v := 260) C dX12_does_1 (by decide) ?_
  refine aw_icmp_ne (tgt := 44) C dX12_does_4 (by decide) (fun q => ?_) (fun q => ?_)
  · have h := bq_f q h
    refine aw_aload_n C 0 dX12_does_44 rfl ?_
    refine aw_dup C dX12_does_45 rfl ?_
    refine rg_md_workedMany C lw_34_17 dX12_does_46 ?_
    refine aw_iconst (v := 2) C dX12_does_49 (by decide) ?_
    refine aw_isub C dX12_does_50 ?_
    refine rp_md_workedMany C lw_34_17 dX12_does_51 ?_
    refine ra_name (fun s1 es1 => ?_)
    have h := oL_e es1 h
    refine aw_aload_n C 0 dX12_does_54 rfl ?_
    refine rg_md_worked C lw_8_7 dX12_does_55 ?_
    refine aw_aload_n C 0 dX12_does_58 rfl ?_
    refine rg_md_workedMany C lw_34_17 dX12_does_59 ?_
    obtain ⟨q2, h⟩ := oA_e h
    refine ra_lald (k := 6) C (by decide) rfl q2 dX12_does_62 ?_
    refine aw_topl (fun y3 ey3 => ?_)
    have h := oL_e ey3 h
    refine aw_lstore_n (lv' := [(0, .ref (N.1 0)), (1, .int x1), (2, .long y3)]) C [1, 2, 0] dX12_does_63 rfl (by decide) rfl ?_
    refine aw_aload_n C 0 dX12_does_64 rfl ?_
    refine rg_md_worked C lw_8_7 dX12_does_65 ?_
    refine aw_aload_n C 0 dX12_does_68 rfl ?_
    refine rg_md_workedMany C lw_34_17 dX12_does_69 ?_
    refine aw_iconst (v := 1) C dX12_does_72 (by decide) ?_
    refine aw_iadd C dX12_does_73 ?_
    obtain ⟨q4, h⟩ := oA_e h
    refine ra_lald (k := 6) C (by decide) rfl q4 dX12_does_74 ?_
    refine aw_topl (fun y5 ey5 => ?_)
    have h := oL_e ey5 h
    refine aw_lstore (lv' := [(0, .ref (N.1 0)), (1, .int x1), (2, .long y3), (4, .long y5)]) C [1, 2, 3, 0] dX12_does_75 (by decide) rfl ?_
    refine aw_iload_n C 1 dX12_does_77 rfl ?_
    by_cases q0 : x1 = (42 : Int32)
    · have h := bq_t q0 h
      refine aw_lookup (tgt := 366) C 288 dX12_does_78 (by decide) (by rw [q0]; decide) (by decide) ?_
      refine aw_lload_n C 2 dX12_does_366 rfl ?_
      refine aw_lconst (v := 0) C dX12_does_367 (by decide) ?_
      refine aw_lcmp C dX12_does_368 ?_
      refine aw_if_eq (tgt := 389) C dX12_does_369 (by decide) (fun q => ?_) (fun q => ?_)
      · have h := bq_t q h
        refine aw_sub (lv' := [(0, .ref (N.1 0)), (2, .long y3), (4, .long y5)]) [0, 2, 3] rfl ?_
        exact T_X12_does_389 C hE s1 y3 y5 h
      · have h := bq_f q h
        refine aw_lload C 3 dX12_does_372 rfl ?_
        refine aw_mabsl C lw_34_22 lw_33_7 (by decide +kernel) lw_33_8 (Nat.le_of_ble_eq_true rfl) (Nat.le_of_ble_eq_true rfl) dX12_does_374 ?_
        refine aw_ldc2 (v := 1000000000000) C lw_34_23 dX12_does_377 ?_
        refine aw_lload_n C 2 dX12_does_380 rfl ?_
        refine aw_mabsl C lw_34_22 lw_33_7 (by decide +kernel) lw_33_8 (Nat.le_of_ble_eq_true rfl) (Nat.le_of_ble_eq_true rfl) dX12_does_381 ?_
        obtain ⟨q6, h⟩ := oDl_e h
        refine aw_ldiv C dX12_does_384 q6 ?_
        refine aw_lcmp C dX12_does_385 ?_
        refine aw_if_gt (tgt := 404) C dX12_does_386 (by decide) (fun q => ?_) (fun q => ?_)
        · have h := bq_t q h
          refine aw_sub (lv' := []) [] rfl ?_
          exact T_X12_does_404 C hE s1 h
        · have h := bq_f q h
          refine aw_sub (lv' := [(0, .ref (N.1 0)), (2, .long y3), (4, .long y5)]) [0, 2, 3] rfl ?_
          exact T_X12_does_389 C hE s1 y3 y5 h
    have h := bq_f q0 h
    by_cases q1 : x1 = (43 : Int32)
    · have h := bq_t q1 h
      refine aw_lookup (tgt := 348) C 270 dX12_does_78 (by decide) (by rw [q1]; decide) (by decide) ?_
      refine aw_aload_n C 0 dX12_does_348 rfl ?_
      refine aw_lload_n C 2 dX12_does_349 rfl ?_
      refine aw_lload C 3 dX12_does_350 rfl ?_
      refine aw_ladd C dX12_does_352 ?_
      obtain ⟨⟨v7, s8⟩, cw9, h⟩ := oC_e h
      have h := oL_e (x := s8) rfl (oL_e (x := v7) rfl h)
      refine aw_callVi (n := 1) (As := [.long (y3 + y5)]) (rest := []) (q0 := 0) C (c_X12_puts l D N s1 s8 (y3 + y5) v7 cw9) lw_35_0 lw_35_1 lw_35_2 lw_1_5 lw_35_3 rfl rfl (by decide +kernel) ⟨Nat.le_of_ble_eq_true rfl, Nat.le_of_ble_eq_true rfl⟩ rfl rfl rfl rfl rfl (Nat.le_of_ble_eq_true rfl) dX12_does_353 ?_
      cases h
      exact aw_ret hE dX12_does_356
    have h := bq_f q1 h
    by_cases q2 : x1 = (45 : Int32)
    · have h := bq_t q2 h
      refine aw_lookup (tgt := 357) C 279 dX12_does_78 (by decide) (by rw [q2]; decide) (by decide) ?_
      refine aw_aload_n C 0 dX12_does_357 rfl ?_
      refine aw_lload_n C 2 dX12_does_358 rfl ?_
      refine aw_lload C 3 dX12_does_359 rfl ?_
      refine aw_lsub C dX12_does_361 ?_
      obtain ⟨⟨v10, s11⟩, cw12, h⟩ := oC_e h
      have h := oL_e (x := s11) rfl (oL_e (x := v10) rfl h)
      refine aw_callVi (n := 1) (As := [.long (y3 - y5)]) (rest := []) (q0 := 0) C (c_X12_puts l D N s1 s11 (y3 - y5) v10 cw12) lw_35_0 lw_35_1 lw_35_2 lw_1_5 lw_35_3 rfl rfl (by decide +kernel) ⟨Nat.le_of_ble_eq_true rfl, Nat.le_of_ble_eq_true rfl⟩ rfl rfl rfl rfl rfl (Nat.le_of_ble_eq_true rfl) dX12_does_362 ?_
      cases h
      exact aw_ret hE dX12_does_365
    have h := bq_f q2 h
    by_cases q3 : x1 = (60 : Int32)
    · have h := bq_t q3 h
      refine aw_lookup (tgt := 228) C 150 dX12_does_78 (by decide) (by rw [q3]; decide) (by decide) ?_
      refine aw_aload_n C 0 dX12_does_228 rfl ?_
      refine aw_lload_n C 2 dX12_does_229 rfl ?_
      refine aw_lload C 3 dX12_does_230 rfl ?_
      refine aw_lcmp C dX12_does_232 ?_
      refine aw_if_ge (tgt := 240) C dX12_does_233 (by decide) (fun q => ?_) (fun q => ?_)
      · have h := bq_t q h
        refine aw_iconst (v := 0) C dX12_does_240 (by decide) ?_
        refine aw_sub (lv' := []) [] rfl ?_
        exact T_X12_does_241 C hE s1 (0 : Int32) h
      · have h := bq_f q h
        refine aw_iconst (v := 1) C dX12_does_236 (by decide) ?_
        refine aw_goto (tgt := 241) C dX12_does_237 (by decide) ?_
        refine aw_sub (lv' := []) [] rfl ?_
        exact T_X12_does_241 C hE s1 (1 : Int32) h
    have h := bq_f q3 h
    by_cases q4 : x1 = (61 : Int32)
    · have h := bq_t q4 h
      refine aw_lookup (tgt := 268) C 190 dX12_does_78 (by decide) (by rw [q4]; decide) (by decide) ?_
      refine aw_aload_n C 0 dX12_does_268 rfl ?_
      refine aw_lload_n C 2 dX12_does_269 rfl ?_
      refine aw_lload C 3 dX12_does_270 rfl ?_
      refine aw_lcmp C dX12_does_272 ?_
      refine aw_if_ne (tgt := 280) C dX12_does_273 (by decide) (fun q => ?_) (fun q => ?_)
      · have h := bq_f q h
        refine aw_iconst (v := 0) C dX12_does_280 (by decide) ?_
        refine aw_sub (lv' := []) [] rfl ?_
        exact T_X12_does_281 C hE s1 (0 : Int32) h
      · have h := bq_t q h
        refine aw_iconst (v := 1) C dX12_does_276 (by decide) ?_
        refine aw_goto (tgt := 281) C dX12_does_277 (by decide) ?_
        refine aw_sub (lv' := []) [] rfl ?_
        exact T_X12_does_281 C hE s1 (1 : Int32) h
    have h := bq_f q4 h
    by_cases q5 : x1 = (62 : Int32)
    · have h := bq_t q5 h
      refine aw_lookup (tgt := 328) C 250 dX12_does_78 (by decide) (by rw [q5]; decide) (by decide) ?_
      refine aw_aload_n C 0 dX12_does_328 rfl ?_
      refine aw_lload_n C 2 dX12_does_329 rfl ?_
      refine aw_lload C 3 dX12_does_330 rfl ?_
      refine aw_lcmp C dX12_does_332 ?_
      refine aw_if_le (tgt := 340) C dX12_does_333 (by decide) (fun q => ?_) (fun q => ?_)
      · have h := bq_t q h
        refine aw_iconst (v := 0) C dX12_does_340 (by decide) ?_
        refine aw_sub (lv' := []) [] rfl ?_
        exact T_X12_does_341 C hE s1 (0 : Int32) h
      · have h := bq_f q h
        refine aw_iconst (v := 1) C dX12_does_336 (by decide) ?_
        refine aw_goto (tgt := 341) C dX12_does_337 (by decide) ?_
        refine aw_sub (lv' := []) [] rfl ?_
        exact T_X12_does_341 C hE s1 (1 : Int32) h
    have h := bq_f q5 h
    by_cases q6 : x1 = (256 : Int32)
    · have h := bq_t q6 h
      refine aw_lookup (tgt := 248) C 170 dX12_does_78 (by decide) (by rw [q6]; decide) (by decide) ?_
      refine aw_aload_n C 0 dX12_does_248 rfl ?_
      refine aw_lload_n C 2 dX12_does_249 rfl ?_
      refine aw_lload C 3 dX12_does_250 rfl ?_
      refine aw_lcmp C dX12_does_252 ?_
      refine aw_if_gt (tgt := 260) C dX12_does_253 (by decide) (fun q => ?_) (fun q => ?_)
      · have h := bq_t q h
        refine aw_iconst (v := 0) C dX12_does_260 (by decide) ?_
        refine aw_sub (lv' := []) [] rfl ?_
        exact T_X12_does_261 C hE s1 (0 : Int32) h
      · have h := bq_f q h
        refine aw_iconst (v := 1) C dX12_does_256 (by decide) ?_
        refine aw_goto (tgt := 261) C dX12_does_257 (by decide) ?_
        refine aw_sub (lv' := []) [] rfl ?_
        exact T_X12_does_261 C hE s1 (1 : Int32) h
    have h := bq_f q6 h
    by_cases q7 : x1 = (257 : Int32)
    · have h := bq_t q7 h
      refine aw_lookup (tgt := 288) C 210 dX12_does_78 (by decide) (by rw [q7]; decide) (by decide) ?_
      refine aw_aload_n C 0 dX12_does_288 rfl ?_
      refine aw_lload_n C 2 dX12_does_289 rfl ?_
      refine aw_lload C 3 dX12_does_290 rfl ?_
      refine aw_lcmp C dX12_does_292 ?_
      refine aw_if_eq (tgt := 300) C dX12_does_293 (by decide) (fun q => ?_) (fun q => ?_)
      · have h := bq_t q h
        refine aw_iconst (v := 0) C dX12_does_300 (by decide) ?_
        refine aw_sub (lv' := []) [] rfl ?_
        exact T_X12_does_301 C hE s1 (0 : Int32) h
      · have h := bq_f q h
        refine aw_iconst (v := 1) C dX12_does_296 (by decide) ?_
        refine aw_goto (tgt := 301) C dX12_does_297 (by decide) ?_
        refine aw_sub (lv' := []) [] rfl ?_
        exact T_X12_does_301 C hE s1 (1 : Int32) h
    have h := bq_f q7 h
    by_cases q8 : x1 = (258 : Int32)
    · have h := bq_t q8 h
      refine aw_lookup (tgt := 308) C 230 dX12_does_78 (by decide) (by rw [q8]; decide) (by decide) ?_
      refine aw_aload_n C 0 dX12_does_308 rfl ?_
      refine aw_lload_n C 2 dX12_does_309 rfl ?_
      refine aw_lload C 3 dX12_does_310 rfl ?_
      refine aw_lcmp C dX12_does_312 ?_
      refine aw_if_lt (tgt := 320) C dX12_does_313 (by decide) (fun q => ?_) (fun q => ?_)
      · have h := bq_t q h
        refine aw_iconst (v := 0) C dX12_does_320 (by decide) ?_
        refine aw_sub (lv' := []) [] rfl ?_
        exact T_X12_does_321 C hE s1 (0 : Int32) h
      · have h := bq_f q h
        refine aw_iconst (v := 1) C dX12_does_316 (by decide) ?_
        refine aw_goto (tgt := 321) C dX12_does_317 (by decide) ?_
        refine aw_sub (lv' := []) [] rfl ?_
        exact T_X12_does_321 C hE s1 (1 : Int32) h
    have h := bq_f q8 h
    by_cases q9 : x1 = (261 : Int32)
    · have h := bq_t q9 h
      refine aw_lookup (tgt := 202) C 124 dX12_does_78 (by decide) (by rw [q9]; decide) (by decide) ?_
      refine aw_aload_n C 0 dX12_does_202 rfl ?_
      refine aw_lload_n C 2 dX12_does_203 rfl ?_
      refine aw_lconst (v := 0) C dX12_does_204 (by decide) ?_
      refine aw_lcmp C dX12_does_205 ?_
      refine aw_if_eq (tgt := 220) C dX12_does_206 (by decide) (fun q => ?_) (fun q => ?_)
      · have h := bq_t q h
        refine aw_sub (lv' := []) [] rfl ?_
        exact T_X12_does_220 C hE s1 h
      · have h := bq_f q h
        refine aw_lload C 3 dX12_does_209 rfl ?_
        refine aw_lconst (v := 0) C dX12_does_211 (by decide) ?_
        refine aw_lcmp C dX12_does_212 ?_
        refine aw_if_eq (tgt := 220) C dX12_does_213 (by decide) (fun q => ?_) (fun q => ?_)
        · have h := bq_t q h
          refine aw_sub (lv' := []) [] rfl ?_
          exact T_X12_does_220 C hE s1 h
        · have h := bq_f q h
          refine aw_iconst (v := 1) C dX12_does_216 (by decide) ?_
          refine aw_goto (tgt := 221) C dX12_does_217 (by decide) ?_
          refine aw_sub (lv' := []) [] rfl ?_
          exact T_X12_does_221 C hE s1 (1 : Int32) h
    have h := bq_f q9 h
    by_cases q10 : x1 = (262 : Int32)
    · have h := bq_t q10 h
      refine aw_lookup (tgt := 176) C 98 dX12_does_78 (by decide) (by rw [q10]; decide) (by decide) ?_
      refine aw_aload_n C 0 dX12_does_176 rfl ?_
      refine aw_lload_n C 2 dX12_does_177 rfl ?_
      refine aw_lconst (v := 0) C dX12_does_178 (by decide) ?_
      refine aw_lcmp C dX12_does_179 ?_
      refine aw_if_ne (tgt := 190) C dX12_does_180 (by decide) (fun q => ?_) (fun q => ?_)
      · have h := bq_f q h
        refine aw_sub (lv' := []) [] rfl ?_
        exact T_X12_does_190 C hE s1 h
      · have h := bq_t q h
        refine aw_lload C 3 dX12_does_183 rfl ?_
        refine aw_lconst (v := 0) C dX12_does_185 (by decide) ?_
        refine aw_lcmp C dX12_does_186 ?_
        refine aw_if_eq (tgt := 194) C dX12_does_187 (by decide) (fun q => ?_) (fun q => ?_)
        · have h := bq_t q h
          refine aw_iconst (v := 0) C dX12_does_194 (by decide) ?_
          refine aw_sub (lv' := []) [] rfl ?_
          exact T_X12_does_195 C hE s1 (0 : Int32) h
        · have h := bq_f q h
          refine aw_sub (lv' := []) [] rfl ?_
          exact T_X12_does_190 C hE s1 h
    have h := bq_f q10 h
    refine aw_lookup (tgt := 406) C 328 dX12_does_78 (by decide) (by have n0 := sw_ne (k := 42) (by decide) q0; have n1 := sw_ne (k := 43) (by decide) q1; have n2 := sw_ne (k := 45) (by decide) q2; have n3 := sw_ne (k := 60) (by decide) q3; have n4 := sw_ne (k := 61) (by decide) q4; have n5 := sw_ne (k := 62) (by decide) q5; have n6 := sw_ne (k := 256) (by decide) q6; have n7 := sw_ne (k := 257) (by decide) q7; have n8 := sw_ne (k := 258) (by decide) q8; have n9 := sw_ne (k := 261) (by decide) q9; have n10 := sw_ne (k := 262) (by decide) q10; simp only [Op.lookupswitch.offset]; rw [if_neg (fun e => n0 e.symm)]; rw [if_neg (fun e => n1 e.symm)]; rw [if_neg (fun e => n2 e.symm)]; rw [if_neg (fun e => n3 e.symm)]; rw [if_neg (fun e => n4 e.symm)]; rw [if_neg (fun e => n5 e.symm)]; rw [if_neg (fun e => n6 e.symm)]; rw [if_neg (fun e => n7 e.symm)]; rw [if_neg (fun e => n8 e.symm)]; rw [if_neg (fun e => n9 e.symm)]; rw [if_neg (fun e => n10 e.symm)]) (by decide) ?_
    refine aw_lload C 3 dX12_does_406 rfl ?_
    refine aw_lconst (v := 0) C dX12_does_408 (by decide) ?_
    refine aw_lcmp C dX12_does_409 ?_
    refine aw_if_eq (tgt := 428) C dX12_does_410 (by decide) (fun q => ?_) (fun q => ?_)
    · have h := bq_t q h
      refine aw_sub (lv' := []) [] rfl ?_
      exact T_X12_does_428 C hE s1 h
    · have h := bq_f q h
      refine aw_aload_n C 0 dX12_does_413 rfl ?_
      refine aw_lload_n C 2 dX12_does_414 rfl ?_
      refine aw_lload C 3 dX12_does_415 rfl ?_
      obtain ⟨q13, h⟩ := oDl_e h
      refine aw_ldiv C dX12_does_417 q13 ?_
      obtain ⟨⟨v14, s15⟩, cw16, h⟩ := oC_e h
      have h := oL_e (x := s15) rfl (oL_e (x := v14) rfl h)
      refine aw_callVi (n := 1) (As := [.long (y3 / y5)]) (rest := []) (q0 := 0) C (c_X12_puts l D N s1 s15 (y3 / y5) v14 cw16) lw_35_0 lw_35_1 lw_35_2 lw_1_5 lw_35_3 rfl rfl (by decide +kernel) ⟨Nat.le_of_ble_eq_true rfl, Nat.le_of_ble_eq_true rfl⟩ rfl rfl rfl rfl rfl (Nat.le_of_ble_eq_true rfl) dX12_does_418 ?_
      refine aw_if_eq (tgt := 428) C dX12_does_421 (by decide) (fun q => ?_) (fun q => ?_)
      · have h := bq_t q h
        refine aw_sub (lv' := []) [] rfl ?_
        exact T_X12_does_428 C hE s15 h
      · have h := bq_f q h
        refine aw_iconst (v := 1) C dX12_does_424 (by decide) ?_
        refine aw_goto (tgt := 429) C dX12_does_425 (by decide) ?_
        refine aw_sub (lv' := []) [] rfl ?_
        exact T_X12_does_429 C hE s15 (1 : Int32) h
  · have h := bq_t q h
    refine aw_aload_n C 0 dX12_does_7 rfl ?_
    refine rg_md_worked C lw_8_7 dX12_does_8 ?_
    refine aw_aload_n C 0 dX12_does_11 rfl ?_
    refine rg_md_workedMany C lw_34_17 dX12_does_12 ?_
    refine aw_iconst (v := 1) C dX12_does_15 (by decide) ?_
    refine aw_isub C dX12_does_16 ?_
    refine aw_aload_n C 0 dX12_does_17 rfl ?_
    refine rg_md_worked C lw_8_7 dX12_does_18 ?_
    refine aw_aload_n C 0 dX12_does_21 rfl ?_
    refine rg_md_workedMany C lw_34_17 dX12_does_22 ?_
    refine aw_iconst (v := 1) C dX12_does_25 (by decide) ?_
    refine aw_isub C dX12_does_26 ?_
    obtain ⟨q17, h⟩ := oA_e h
    refine ra_lald (k := 6) C (by decide) rfl q17 dX12_does_27 ?_
    refine aw_lconst (v := 0) C dX12_does_28 (by decide) ?_
    refine aw_lcmp C dX12_does_29 ?_
    refine aw_if_ne (tgt := 37) C dX12_does_30 (by decide) (fun q => ?_) (fun q => ?_)
    · have h := bq_f q h
      refine aw_iconst (v := 0) C dX12_does_37 (by decide) ?_
      refine aw_sub (lv' := []) [] rfl ?_
      exact T_X12_does_38 C hE s0 (0 : Int32) ((s0.1 20) - (1 : Int32)) h
    · have h := bq_t q h
      refine aw_iconst (v := 1) C dX12_does_33 (by decide) ?_
      refine aw_goto (tgt := 38) C dX12_does_34 (by decide) ?_
      refine aw_sub (lv' := []) [] rfl ?_
      exact T_X12_does_38 C hE s0 (1 : Int32) ((s0.1 20) - (1 : Int32)) h
def f_X12_does (s0 : St) (x1 : Int32) : Option (Int32 × St) := oC (F_X12_does_0 s0 x1) fun w => oZ w.1 (some w)
theorem c_X12_does (l : Launch) (D : va_G) (N : Nm) (s0 z1 : St) (x1 : Int32) (r : Int32) (h : f_X12_does s0 x1 = some (r, z1)) : Meti l yX12_does (tsU yX12_does cX12_does 6 (some .boolean)) rm_X12_does D N [.ref (N.1 0), .int x1] (wR N s0) r (wR N z1) := by
  obtain ⟨w, h1, h2⟩ := oC_e h
  obtain ⟨hz, h2⟩ := oZ_e h2
  cases h2
  exact met_z (cc := cX12_does) (nL := 6) (own := RX12) (by decide) rfl (Nat.le_of_ble_eq_true rfl) (zN hz) (fun p e s m args below meth c Q A C hE => aw_sub [0, 1] rfl (T_X12_does_0 C hE s0 x1 h1))
/-! AwardLineModel.isFirst()Z -/
def rm_X12_isFirst : Room := { frames := 2, cells := 0, slots := 0, locals := 47 }
def F_X12_isFirst_130 (s0 : St) (t0 : Int32) : Option (Int32 × St) :=
  some (t0, s0)
set_option maxHeartbeats 4000000 in
set_option maxRecDepth 100000 in
theorem T_X12_isFirst_130 {r : Int32} {z1 : St} (C : Cx p rm_X12_isFirst s m args c D A cX12_isFirst 3 RX12 rm_X12_isFirst N) (hE : En p l e rm_X12_isFirst s m args below meth c Q D A cX12_isFirst .ireturn (wR N z1) [.int r])  (s0 : St) (t0 : Int32) (h : F_X12_isFirst_130 s0 t0 = some (r, z1)) : Aw p l e rm_X12_isFirst s m args below meth c Q D A 3 (wR N s0) 130 [] [.int t0] := by
  unfold F_X12_isFirst_130 at h
  cases h
  exact aw_ret hE dX12_isFirst_130
def F_X12_isFirst_101 (k36 : St → Int32 → Option (Int32 × St)) (s0 : St) (x1 : Int32) (t0 : Int32) : Option (Int32 × St) :=
  if t0 = 0 then (
    some ((0 : Int32), s0))
  else (
    oL (x1 + (1 : Int32)) fun y1 =>
    k36 s0 y1)
set_option maxHeartbeats 4000000 in
set_option maxRecDepth 100000 in
theorem T_X12_isFirst_101 {r : Int32} {z1 : St} {k36 : St → Int32 → Option (Int32 × St)} (C : Cx p rm_X12_isFirst s m args c D A cX12_isFirst 3 RX12 rm_X12_isFirst N) (hE : En p l e rm_X12_isFirst s m args below meth c Q D A cX12_isFirst .ireturn (wR N z1) [.int r]) (hk36 : ∀ (s0 : St) (x1 : Int32), k36 s0 x1 = some (r, z1) → Aw p l e rm_X12_isFirst s m args below meth c Q D A 3 (wR N s0) 36 [(0, .ref (N.1 0)), (1, .int x1)] []) (s0 : St) (x1 : Int32) (t0 : Int32) (h : F_X12_isFirst_101 k36 s0 x1 t0 = some (r, z1)) : Aw p l e rm_X12_isFirst s m args below meth c Q D A 3 (wR N s0) 101 [(0, .ref (N.1 0)), (1, .int x1)] [.int t0] := by
  unfold F_X12_isFirst_101 at h
  refine aw_istore_n (lv' := [(0, .ref (N.1 0)), (1, .int x1), (2, .int t0)]) C [1, 2, 0] dX12_isFirst_101 rfl (by decide) rfl ?_
  refine aw_iload_n C 2 dX12_isFirst_102 rfl ?_
  refine aw_if_ne (tgt := 108) C dX12_isFirst_103 (by decide) (fun q => ?_) (fun q => ?_)
  · have h := bq_f q h
    obtain ⟨y1, ey1⟩ : ∃ q : Int32, q = x1 + (1 : Int32) := ⟨_, rfl⟩
    have h := oL_e ey1 h
    refine aw_iinc (v := y1) (k := 1) (lv' := [(0, .ref (N.1 0)), (1, .int y1), (2, .int t0)]) C [1, 0, 2] dX12_isFirst_108 rfl (by rw [ey1]; rfl) (by decide) rfl ?_
    refine aw_goto (tgt := 36) C dX12_isFirst_111 (by decide) ?_
    refine aw_sub (lv' := [(0, .ref (N.1 0)), (1, .int y1)]) [0, 1] rfl ?_
    exact hk36 s0 y1 h
  · have h := bq_t q h
    refine aw_iconst (v := 0) C dX12_isFirst_106 (by decide) ?_
    cases h
    exact aw_ret hE dX12_isFirst_107
def F_X12_isFirst_98 (k36 : St → Int32 → Option (Int32 × St)) (s0 : St) (x1 : Int32) (t0 : Int64) : Option (Int32 × St) :=
  oC (f_X12_puts s0 t0) fun w3 =>
  oL w3.1 fun v1 => oL w3.2 fun s2 =>
  F_X12_isFirst_101 k36 s2 x1 v1
set_option maxHeartbeats 4000000 in
set_option maxRecDepth 100000 in
theorem T_X12_isFirst_98 {r : Int32} {z1 : St} {k36 : St → Int32 → Option (Int32 × St)} (C : Cx p rm_X12_isFirst s m args c D A cX12_isFirst 3 RX12 rm_X12_isFirst N) (hE : En p l e rm_X12_isFirst s m args below meth c Q D A cX12_isFirst .ireturn (wR N z1) [.int r]) (hk36 : ∀ (s0 : St) (x1 : Int32), k36 s0 x1 = some (r, z1) → Aw p l e rm_X12_isFirst s m args below meth c Q D A 3 (wR N s0) 36 [(0, .ref (N.1 0)), (1, .int x1)] []) (s0 : St) (x1 : Int32) (t0 : Int64) (h : F_X12_isFirst_98 k36 s0 x1 t0 = some (r, z1)) : Aw p l e rm_X12_isFirst s m args below meth c Q D A 3 (wR N s0) 98 [(0, .ref (N.1 0)), (1, .int x1)] [.long t0, .ref (N.1 0)] := by
  unfold F_X12_isFirst_98 at h
  obtain ⟨⟨v1, s2⟩, cw3, h⟩ := oC_e h
  have h := oL_e (x := s2) rfl (oL_e (x := v1) rfl h)
  refine aw_callVi (n := 1) (As := [.long t0]) (rest := []) (q0 := 0) C (c_X12_puts l D N s0 s2 t0 v1 cw3) lw_35_0 lw_35_1 lw_35_2 lw_1_5 lw_35_3 rfl rfl (by decide +kernel) ⟨Nat.le_of_ble_eq_true rfl, Nat.le_of_ble_eq_true rfl⟩ rfl rfl rfl rfl rfl (Nat.le_of_ble_eq_true rfl) dX12_isFirst_98 ?_
  refine aw_sub (lv' := [(0, .ref (N.1 0)), (1, .int x1)]) [0, 1] rfl ?_
  exact T_X12_isFirst_101 C hE hk36 s2 x1 v1 h
def F_X12_isFirst_36_b (k36 : St → Int32 → Option (Int32 × St)) (s0 : St) (x1 : Int32) : Option (Int32 × St) :=
  if (s0.1 2) ≤ x1 then (
    oA (0 : Int32) 72 <|
    if lg_cmp (s0.2.2 6 (Int32.toNatClampNeg (0 : Int32))) (0 : Int64) = 0 then (
      F_X12_isFirst_130 s0 (0 : Int32))
    else (
      F_X12_isFirst_130 s0 (1 : Int32)))
  else (
    oA x1 128 <|
    if (s0.2.1 1 (Int32.toNatClampNeg x1)) = (2 : Int32) then (
      oA x1 128 <|
      oC (f_X12_does s0 (s0.2.1 2 (Int32.toNatClampNeg x1))) fun w10 =>
      oL w10.1 fun v8 => oL w10.2 fun s9 =>
      F_X12_isFirst_101 k36 s9 x1 v8)
    else (
      oA x1 128 <|
      if (s0.2.1 1 (Int32.toNatClampNeg x1)) = 0 then (
        oA x1 128 <|
        F_X12_isFirst_98 k36 s0 x1 (Int32.toInt64 (s0.2.1 2 (Int32.toNatClampNeg x1))))
      else (
        oA x1 128 <|
        oA (s0.2.1 2 (Int32.toNatClampNeg x1)) 6 <|
        F_X12_isFirst_98 k36 s0 x1 (s0.2.2 5 (Int32.toNatClampNeg (s0.2.1 2 (Int32.toNatClampNeg x1)))))))
set_option maxHeartbeats 4000000 in
set_option maxRecDepth 100000 in
theorem T_X12_isFirst_36_b {r : Int32} {z1 : St} {k36 : St → Int32 → Option (Int32 × St)} (C : Cx p rm_X12_isFirst s m args c D A cX12_isFirst 3 RX12 rm_X12_isFirst N) (hE : En p l e rm_X12_isFirst s m args below meth c Q D A cX12_isFirst .ireturn (wR N z1) [.int r]) (hk36 : ∀ (s0 : St) (x1 : Int32), k36 s0 x1 = some (r, z1) → Aw p l e rm_X12_isFirst s m args below meth c Q D A 3 (wR N s0) 36 [(0, .ref (N.1 0)), (1, .int x1)] []) (s0 : St) (x1 : Int32) (h : F_X12_isFirst_36_b k36 s0 x1 = some (r, z1)) : Aw p l e rm_X12_isFirst s m args below meth c Q D A 3 (wR N s0) 36 [(0, .ref (N.1 0)), (1, .int x1)] [] := by
  unfold F_X12_isFirst_36_b at h
  refine aw_iload_n C 1 dX12_isFirst_36 rfl ?_
  refine aw_aload_n C 0 dX12_isFirst_37 rfl ?_
  refine rg_md_knotMany C lw_18_3 dX12_isFirst_38 ?_
  refine aw_icmp_ge (tgt := 114) C dX12_isFirst_41 (by decide) (fun q => ?_) (fun q => ?_)
  · have h := bq_t q h
    refine aw_aload_n C 0 dX12_isFirst_114 rfl ?_
    refine rg_md_worked C lw_8_7 dX12_isFirst_115 ?_
    refine aw_iconst (v := 0) C dX12_isFirst_118 (by decide) ?_
    obtain ⟨q1, h⟩ := oA_e h
    refine ra_lald (k := 6) C (by decide) rfl q1 dX12_isFirst_119 ?_
    refine aw_lconst (v := 0) C dX12_isFirst_120 (by decide) ?_
    refine aw_lcmp C dX12_isFirst_121 ?_
    refine aw_if_eq (tgt := 129) C dX12_isFirst_122 (by decide) (fun q => ?_) (fun q => ?_)
    · have h := bq_t q h
      refine aw_iconst (v := 0) C dX12_isFirst_129 (by decide) ?_
      refine aw_sub (lv' := []) [] rfl ?_
      exact T_X12_isFirst_130 C hE s0 (0 : Int32) h
    · have h := bq_f q h
      refine aw_iconst (v := 1) C dX12_isFirst_125 (by decide) ?_
      refine aw_goto (tgt := 130) C dX12_isFirst_126 (by decide) ?_
      refine aw_sub (lv' := []) [] rfl ?_
      exact T_X12_isFirst_130 C hE s0 (1 : Int32) h
  · have h := bq_f q h
    refine aw_aload_n C 0 dX12_isFirst_44 rfl ?_
    refine rg_md_knotSort C lw_8_1 dX12_isFirst_45 ?_
    refine aw_iload_n C 1 dX12_isFirst_48 rfl ?_
    obtain ⟨q2, h⟩ := oA_e h
    refine ra_iald (k := 1) C (by decide) rfl q2 dX12_isFirst_49 ?_
    refine aw_iconst (v := 2) C dX12_isFirst_50 (by decide) ?_
    refine aw_icmp_ne (tgt := 67) C dX12_isFirst_51 (by decide) (fun q => ?_) (fun q => ?_)
    · have h := bq_f q h
      refine aw_aload_n C 0 dX12_isFirst_67 rfl ?_
      refine aw_aload_n C 0 dX12_isFirst_68 rfl ?_
      refine rg_md_knotSort C lw_8_1 dX12_isFirst_69 ?_
      refine aw_iload_n C 1 dX12_isFirst_72 rfl ?_
      obtain ⟨q3, h⟩ := oA_e h
      refine ra_iald (k := 1) C (by decide) rfl q3 dX12_isFirst_73 ?_
      refine aw_if_ne (tgt := 87) C dX12_isFirst_74 (by decide) (fun q => ?_) (fun q => ?_)
      · have h := bq_f q h
        refine aw_aload_n C 0 dX12_isFirst_87 rfl ?_
        refine rg_md_names C lw_8_6 dX12_isFirst_88 ?_
        refine aw_aload_n C 0 dX12_isFirst_91 rfl ?_
        refine rg_md_knotValue C lw_8_2 dX12_isFirst_92 ?_
        refine aw_iload_n C 1 dX12_isFirst_95 rfl ?_
        obtain ⟨q4, h⟩ := oA_e h
        refine ra_iald (k := 2) C (by decide) rfl q4 dX12_isFirst_96 ?_
        obtain ⟨q5, h⟩ := oA_e h
        refine ra_lald (k := 5) C (by decide) rfl q5 dX12_isFirst_97 ?_
        refine aw_sub (lv' := [(0, .ref (N.1 0)), (1, .int x1)]) [0, 1] rfl ?_
        exact T_X12_isFirst_98 C hE hk36 s0 x1 (s0.2.2 5 (Int32.toNatClampNeg (s0.2.1 2 (Int32.toNatClampNeg x1)))) h
      · have h := bq_t q h
        refine aw_aload_n C 0 dX12_isFirst_77 rfl ?_
        refine rg_md_knotValue C lw_8_2 dX12_isFirst_78 ?_
        refine aw_iload_n C 1 dX12_isFirst_81 rfl ?_
        obtain ⟨q6, h⟩ := oA_e h
        refine ra_iald (k := 2) C (by decide) rfl q6 dX12_isFirst_82 ?_
        refine aw_i2l C dX12_isFirst_83 ?_
        refine aw_goto (tgt := 98) C dX12_isFirst_84 (by decide) ?_
        refine aw_sub (lv' := [(0, .ref (N.1 0)), (1, .int x1)]) [0, 1] rfl ?_
        exact T_X12_isFirst_98 C hE hk36 s0 x1 (Int32.toInt64 (s0.2.1 2 (Int32.toNatClampNeg x1))) h
    · have h := bq_t q h
      refine aw_aload_n C 0 dX12_isFirst_54 rfl ?_
      refine aw_aload_n C 0 dX12_isFirst_55 rfl ?_
      refine rg_md_knotValue C lw_8_2 dX12_isFirst_56 ?_
      refine aw_iload_n C 1 dX12_isFirst_59 rfl ?_
      obtain ⟨q7, h⟩ := oA_e h
      refine ra_iald (k := 2) C (by decide) rfl q7 dX12_isFirst_60 ?_
      obtain ⟨⟨v8, s9⟩, cw10, h⟩ := oC_e h
      have h := oL_e (x := s9) rfl (oL_e (x := v8) rfl h)
      refine aw_callVi (n := 1) (As := [.int (s0.2.1 2 (Int32.toNatClampNeg x1))]) (rest := []) (q0 := 0) C (c_X12_does l D N s0 s9 (s0.2.1 2 (Int32.toNatClampNeg x1)) v8 cw10) lw_34_18 lw_34_19 lw_34_20 lw_1_5 lw_34_21 rfl rfl (by decide +kernel) ⟨Nat.le_of_ble_eq_true rfl, Nat.le_of_ble_eq_true rfl⟩ rfl rfl rfl rfl rfl (Nat.le_of_ble_eq_true rfl) dX12_isFirst_61 ?_
      refine aw_goto (tgt := 101) C dX12_isFirst_64 (by decide) ?_
      refine aw_sub (lv' := [(0, .ref (N.1 0)), (1, .int x1)]) [0, 1] rfl ?_
      exact T_X12_isFirst_101 C hE hk36 s9 x1 v8 h
def F_X12_isFirst_36 : Nat → St → Int32 → Option (Int32 × St)
  | 0 => fun _ _ => none
  | n + 1 => F_X12_isFirst_36_b (F_X12_isFirst_36 n)
theorem T_X12_isFirst_36 {r : Int32} {z1 : St} (C : Cx p rm_X12_isFirst s m args c D A cX12_isFirst 3 RX12 rm_X12_isFirst N) (hE : En p l e rm_X12_isFirst s m args below meth c Q D A cX12_isFirst .ireturn (wR N z1) [.int r])  : ∀ (n : Nat) (s0 : St) (x1 : Int32), F_X12_isFirst_36 n s0 x1 = some (r, z1) → Aw p l e rm_X12_isFirst s m args below meth c Q D A 3 (wR N s0) 36 [(0, .ref (N.1 0)), (1, .int x1)] [] := by
  intro n
  induction n with
  | zero => intro s0 x1 h; cases h
  | succ n ih => intro s0 x1 h; exact T_X12_isFirst_36_b C hE ih s0 x1 h
def F_X12_isFirst_28 (s0 : St) (t0 : Int32) : Option (Int32 × St) :=
  some (t0, s0)
set_option maxHeartbeats 4000000 in
set_option maxRecDepth 100000 in
theorem T_X12_isFirst_28 {r : Int32} {z1 : St} (C : Cx p rm_X12_isFirst s m args c D A cX12_isFirst 3 RX12 rm_X12_isFirst N) (hE : En p l e rm_X12_isFirst s m args below meth c Q D A cX12_isFirst .ireturn (wR N z1) [.int r])  (s0 : St) (t0 : Int32) (h : F_X12_isFirst_28 s0 t0 = some (r, z1)) : Aw p l e rm_X12_isFirst s m args below meth c Q D A 3 (wR N s0) 28 [] [.int t0] := by
  unfold F_X12_isFirst_28 at h
  cases h
  exact aw_ret hE dX12_isFirst_28
def F_X12_isFirst_0 (s0 : St) : Option (Int32 × St) :=
  if (s0.1 4) = 0 then (
    oA (0 : Int32) 6 <|
    oA (1 : Int32) 6 <|
    if lg_cmp (s0.2.2 5 (Int32.toNatClampNeg (0 : Int32))) (s0.2.2 5 (Int32.toNatClampNeg (1 : Int32))) ≤ 0 then (
      F_X12_isFirst_28 s0 (0 : Int32))
    else (
      F_X12_isFirst_28 s0 (1 : Int32)))
  else (
    oL (sI s0 20 (0 : Int32)) fun s1 =>
    oL (0 : Int32) fun y2 =>
    F_X12_isFirst_36 100000 s1 y2)
set_option maxHeartbeats 4000000 in
set_option maxRecDepth 100000 in
theorem T_X12_isFirst_0 {r : Int32} {z1 : St} (C : Cx p rm_X12_isFirst s m args c D A cX12_isFirst 3 RX12 rm_X12_isFirst N) (hE : En p l e rm_X12_isFirst s m args below meth c Q D A cX12_isFirst .ireturn (wR N z1) [.int r])  (s0 : St) (h : F_X12_isFirst_0 s0 = some (r, z1)) : Aw p l e rm_X12_isFirst s m args below meth c Q D A 3 (wR N s0) 0 [(0, .ref (N.1 0))] [] := by
  unfold F_X12_isFirst_0 at h
  refine aw_aload_n C 0 dX12_isFirst_0 rfl ?_
  refine rg_md_hasFirst C lw_18_4 dX12_isFirst_1 ?_
  refine aw_if_ne (tgt := 29) C dX12_isFirst_4 (by decide) (fun q => ?_) (fun q => ?_)
  · have h := bq_f q h
    refine aw_aload_n C 0 dX12_isFirst_29 rfl ?_
    refine aw_iconst (v := 0) C dX12_isFirst_30 (by decide) ?_
    refine rp_md_workedMany C lw_34_17 dX12_isFirst_31 ?_
    refine ra_name (fun s1 es1 => ?_)
    have h := oL_e es1 h
    refine aw_iconst (v := 0) C dX12_isFirst_34 (by decide) ?_
    refine aw_topi (fun y2 ey2 => ?_)
    have h := oL_e ey2 h
    refine aw_istore_n (lv' := [(0, .ref (N.1 0)), (1, .int y2)]) C [1, 0] dX12_isFirst_35 rfl (by decide) rfl ?_
    refine aw_sub (lv' := [(0, .ref (N.1 0)), (1, .int y2)]) [0, 1] rfl ?_
    exact T_X12_isFirst_36 C hE 100000 s1 y2 h
  · have h := bq_t q h
    refine aw_aload_n C 0 dX12_isFirst_7 rfl ?_
    refine rg_md_names C lw_8_6 dX12_isFirst_8 ?_
    refine aw_iconst (v := 0) C dX12_isFirst_11 (by decide) ?_
    obtain ⟨q3, h⟩ := oA_e h
    refine ra_lald (k := 5) C (by decide) rfl q3 dX12_isFirst_12 ?_
    refine aw_aload_n C 0 dX12_isFirst_13 rfl ?_
    refine rg_md_names C lw_8_6 dX12_isFirst_14 ?_
    refine aw_iconst (v := 1) C dX12_isFirst_17 (by decide) ?_
    obtain ⟨q4, h⟩ := oA_e h
    refine ra_lald (k := 5) C (by decide) rfl q4 dX12_isFirst_18 ?_
    refine aw_lcmp C dX12_isFirst_19 ?_
    refine aw_if_le (tgt := 27) C dX12_isFirst_20 (by decide) (fun q => ?_) (fun q => ?_)
    · have h := bq_t q h
      refine aw_iconst (v := 0) C dX12_isFirst_27 (by decide) ?_
      refine aw_sub (lv' := []) [] rfl ?_
      exact T_X12_isFirst_28 C hE s0 (0 : Int32) h
    · have h := bq_f q h
      refine aw_iconst (v := 1) C dX12_isFirst_23 (by decide) ?_
      refine aw_goto (tgt := 28) C dX12_isFirst_24 (by decide) ?_
      refine aw_sub (lv' := []) [] rfl ?_
      exact T_X12_isFirst_28 C hE s0 (1 : Int32) h
def f_X12_isFirst (s0 : St) : Option (Int32 × St) := oC (F_X12_isFirst_0 s0) fun w => oZ w.1 (some w)
theorem c_X12_isFirst (l : Launch) (D : va_G) (N : Nm) (s0 z1 : St) (r : Int32) (h : f_X12_isFirst s0 = some (r, z1)) : Meti l yX12_isFirst (tsU yX12_isFirst cX12_isFirst 3 (some .boolean)) rm_X12_isFirst D N [.ref (N.1 0)] (wR N s0) r (wR N z1) := by
  obtain ⟨w, h1, h2⟩ := oC_e h
  obtain ⟨hz, h2⟩ := oZ_e h2
  cases h2
  exact met_z (cc := cX12_isFirst) (nL := 3) (own := RX12) (by decide) rfl (Nat.le_of_ble_eq_true rfl) (zN hz) (fun p e s m args below meth c Q A C hE => aw_sub [0] rfl (T_X12_isFirst_0 C hE s0 h1))
/-! AwardLineModel.lays(II)V -/
def rm_X12_lays : Room := { frames := 0, cells := 0, slots := 0, locals := 0 }
def F_X12_lays_32_b (k32 : St → Int32 → Option (St)) (s0 : St) (x3 : Int32) : Option (St) :=
  if (25 : Int32) ≤ x3 then (
    some s0)
  else (
    oA x3 25 <|
    oL (sA s0 7 (upd (s0.2.1 7) (Int32.toNatClampNeg x3) (0 : Int32))) fun s2 =>
    oA x3 25 <|
    oL (sA s2 8 (upd (s2.2.1 8) (Int32.toNatClampNeg x3) (-1 : Int32))) fun s4 =>
    oA x3 25 <|
    oL (sA s4 9 (upd (s4.2.1 9) (Int32.toNatClampNeg x3) (vp_nar .boolean (0 : Int32)))) fun s6 =>
    oL (x3 + (1 : Int32)) fun y7 =>
    k32 s6 y7)
set_option maxHeartbeats 4000000 in
set_option maxRecDepth 100000 in
theorem T_X12_lays_32_b {z1 : St} {k32 : St → Int32 → Option (St)} (C : Cx p rm_X12_lays s m args c D A cX12_lays 4 RX12 rm_X12_lays N) (hE : En p l e rm_X12_lays s m args below meth c Q D A cX12_lays .return_ (wR N z1) []) (hk32 : ∀ (s0 : St) (x3 : Int32), k32 s0 x3 = some z1 → Aw p l e rm_X12_lays s m args below meth c Q D A 4 (wR N s0) 32 [(0, .ref (N.1 0)), (3, .int x3)] []) (s0 : St) (x3 : Int32) (h : F_X12_lays_32_b k32 s0 x3 = some z1) : Aw p l e rm_X12_lays s m args below meth c Q D A 4 (wR N s0) 32 [(0, .ref (N.1 0)), (3, .int x3)] [] := by
  unfold F_X12_lays_32_b at h
  refine aw_iload_n C 1 dX12_lays_32 rfl ?_
  refine aw_bipush (v := 25) C dX12_lays_33 (by decide) ?_
  refine aw_icmp_ge (tgt := 65) C dX12_lays_35 (by decide) (fun q => ?_) (fun q => ?_)
  · have h := bq_t q h
    cases h
    exact aw_ret hE dX12_lays_65
  · have h := bq_f q h
    refine aw_aload_n C 0 dX12_lays_38 rfl ?_
    refine rg_md_district C lw_8_8 dX12_lays_39 ?_
    refine aw_iload_n C 1 dX12_lays_42 rfl ?_
    refine aw_iconst (v := 0) C dX12_lays_43 (by decide) ?_
    obtain ⟨q1, h⟩ := oA_e h
    refine ra_iast (k := 7) C (by decide) rfl q1 dX12_lays_44 ?_
    refine ra_name (fun s2 es2 => ?_)
    have h := oL_e es2 h
    refine aw_aload_n C 0 dX12_lays_45 rfl ?_
    refine rg_md_shrine C lw_8_9 dX12_lays_46 ?_
    refine aw_iload_n C 1 dX12_lays_49 rfl ?_
    refine aw_iconst (v := -1) C dX12_lays_50 (by decide) ?_
    obtain ⟨q3, h⟩ := oA_e h
    refine ra_iast (k := 8) C (by decide) rfl q3 dX12_lays_51 ?_
    refine ra_name (fun s4 es4 => ?_)
    have h := oL_e es4 h
    refine aw_aload_n C 0 dX12_lays_52 rfl ?_
    refine rg_md_rail C lw_8_10 dX12_lays_53 ?_
    refine aw_iload_n C 1 dX12_lays_56 rfl ?_
    refine aw_iconst (v := 0) C dX12_lays_57 (by decide) ?_
    obtain ⟨q5, h⟩ := oA_e h
    refine ra_zast (k := 9) C (by decide) rfl q5 dX12_lays_58 ?_
    refine ra_name (fun s6 es6 => ?_)
    have h := oL_e es6 h
    obtain ⟨y7, ey7⟩ : ∃ q : Int32, q = x3 + (1 : Int32) := ⟨_, rfl⟩
    have h := oL_e ey7 h
    refine aw_iinc (v := y7) (k := 1) (lv' := [(0, .ref (N.1 0)), (3, .int y7)]) C [1, 0] dX12_lays_59 rfl (by rw [ey7]; rfl) (by decide) rfl ?_
    refine aw_goto (tgt := 32) C dX12_lays_62 (by decide) ?_
    refine aw_sub (lv' := [(0, .ref (N.1 0)), (3, .int y7)]) [0, 1] rfl ?_
    exact hk32 s6 y7 h
def F_X12_lays_32 : Nat → St → Int32 → Option (St)
  | 0 => fun _ _ => none
  | n + 1 => F_X12_lays_32_b (F_X12_lays_32 n)
theorem T_X12_lays_32 {z1 : St} (C : Cx p rm_X12_lays s m args c D A cX12_lays 4 RX12 rm_X12_lays N) (hE : En p l e rm_X12_lays s m args below meth c Q D A cX12_lays .return_ (wR N z1) [])  : ∀ (n : Nat) (s0 : St) (x3 : Int32), F_X12_lays_32 n s0 x3 = some z1 → Aw p l e rm_X12_lays s m args below meth c Q D A 4 (wR N s0) 32 [(0, .ref (N.1 0)), (3, .int x3)] [] := by
  intro n
  induction n with
  | zero => intro s0 x3 h; cases h
  | succ n ih => intro s0 x3 h; exact T_X12_lays_32_b C hE ih s0 x3 h
def F_X12_lays_0 (s0 : St) (x1 : Int32) (x2 : Int32) : Option (St) :=
  oL (sI s0 22 x1) fun s1 =>
  oL (sI s1 23 x2) fun s2 =>
  oL (sI s2 24 (0 : Int32)) fun s3 =>
  oL (sI s3 25 (0 : Int32)) fun s4 =>
  oL (sI s4 26 (0 : Int32)) fun s5 =>
  oL (sI s5 27 (0 : Int32)) fun s6 =>
  oL (0 : Int32) fun y7 =>
  F_X12_lays_32 100000 s6 y7
set_option maxHeartbeats 4000000 in
set_option maxRecDepth 100000 in
theorem T_X12_lays_0 {z1 : St} (C : Cx p rm_X12_lays s m args c D A cX12_lays 4 RX12 rm_X12_lays N) (hE : En p l e rm_X12_lays s m args below meth c Q D A cX12_lays .return_ (wR N z1) [])  (s0 : St) (x1 : Int32) (x2 : Int32) (h : F_X12_lays_0 s0 x1 x2 = some z1) : Aw p l e rm_X12_lays s m args below meth c Q D A 4 (wR N s0) 0 [(0, .ref (N.1 0)), (1, .int x1), (2, .int x2)] [] := by
  unfold F_X12_lays_0 at h
  refine aw_aload_n C 0 dX12_lays_0 rfl ?_
  refine aw_iload_n C 1 dX12_lays_1 rfl ?_
  refine rp_md_wide C lw_9_11 dX12_lays_2 ?_
  refine ra_name (fun s1 es1 => ?_)
  have h := oL_e es1 h
  refine aw_aload_n C 0 dX12_lays_5 rfl ?_
  refine aw_iload_n C 2 dX12_lays_6 rfl ?_
  refine rp_md_high C lw_9_12 dX12_lays_7 ?_
  refine ra_name (fun s2 es2 => ?_)
  have h := oL_e es2 h
  refine aw_aload_n C 0 dX12_lays_10 rfl ?_
  refine aw_iconst (v := 0) C dX12_lays_11 (by decide) ?_
  refine rp_md_canals C lw_9_13 dX12_lays_12 ?_
  refine ra_name (fun s3 es3 => ?_)
  have h := oL_e es3 h
  refine aw_aload_n C 0 dX12_lays_15 rfl ?_
  refine aw_iconst (v := 0) C dX12_lays_16 (by decide) ?_
  refine rp_md_drafts C lw_9_14 dX12_lays_17 ?_
  refine ra_name (fun s4 es4 => ?_)
  have h := oL_e es4 h
  refine aw_aload_n C 0 dX12_lays_20 rfl ?_
  refine aw_iconst (v := 0) C dX12_lays_21 (by decide) ?_
  refine rp_md_candidates C lw_9_15 dX12_lays_22 ?_
  refine ra_name (fun s5 es5 => ?_)
  have h := oL_e es5 h
  refine aw_aload_n C 0 dX12_lays_25 rfl ?_
  refine aw_iconst (v := 0) C dX12_lays_26 (by decide) ?_
  refine rp_md_notes C lw_9_16 dX12_lays_27 ?_
  refine ra_name (fun s6 es6 => ?_)
  have h := oL_e es6 h
  refine aw_iconst (v := 0) C dX12_lays_30 (by decide) ?_
  refine aw_topi (fun y7 ey7 => ?_)
  have h := oL_e ey7 h
  refine aw_istore_n (lv' := [(0, .ref (N.1 0)), (1, .int x1), (2, .int x2), (3, .int y7)]) C [1, 2, 3, 0] dX12_lays_31 rfl (by decide) rfl ?_
  refine aw_sub (lv' := [(0, .ref (N.1 0)), (3, .int y7)]) [0, 3] rfl ?_
  exact T_X12_lays_32 C hE 100000 s6 y7 h
def f_X12_lays (s0 : St) (x1 : Int32) (x2 : Int32) : Option (St) := F_X12_lays_0 s0 x1 x2
theorem c_X12_lays (l : Launch) (D : va_G) (N : Nm) (s0 z1 : St) (x1 : Int32) (x2 : Int32) (h : f_X12_lays s0 x1 x2 = some z1) : Metv l yX12_lays (tsU yX12_lays cX12_lays 4 none) rm_X12_lays D N [.ref (N.1 0), .int x1, .int x2] (wR N s0) (wR N z1) :=
  met_v (cc := cX12_lays) (nL := 4) (own := RX12) (by decide) rfl (Nat.le_of_ble_eq_true rfl) (fun p e s m args below meth c Q A C hE => aw_sub [0, 1, 2] rfl (T_X12_lays_0 C hE s0 x1 x2 h))
/-! AwardLineModel.land(II)Z -/
def rm_X12_land : Room := { frames := 1, cells := 0, slots := 0, locals := 23 }
def F_X12_land_25 (s0 : St) : Option (Int32 × St) :=
  some ((0 : Int32), s0)
set_option maxHeartbeats 4000000 in
set_option maxRecDepth 100000 in
theorem T_X12_land_25 {r : Int32} {z1 : St} (C : Cx p rm_X12_land s m args c D A cX12_land 3 RX12 rm_X12_land N) (hE : En p l e rm_X12_land s m args below meth c Q D A cX12_land .ireturn (wR N z1) [.int r])  (s0 : St) (h : F_X12_land_25 s0 = some (r, z1)) : Aw p l e rm_X12_land s m args below meth c Q D A 3 (wR N s0) 25 [] [] := by
  unfold F_X12_land_25 at h
  refine aw_iconst (v := 0) C dX12_land_25 (by decide) ?_
  cases h
  exact aw_ret hE dX12_land_26
def F_X12_land_0 (s0 : St) (x1 : Int32) (x2 : Int32) : Option (Int32 × St) :=
  oL (sI s0 0 (0 : Int32)) fun s1 =>
  if x1 < (2 : Int32) then (
    F_X12_land_25 s1)
  else (
    if (5 : Int32) < x1 then (
      F_X12_land_25 s1)
    else (
      if x2 < (2 : Int32) then (
        F_X12_land_25 s1)
      else (
        if x2 ≤ (5 : Int32) then (
          oC (f_X12_lays s1 x1 x2) fun w4 =>
          oL w4 fun s3 =>
          some ((1 : Int32), s3))
        else (
          F_X12_land_25 s1))))
set_option maxHeartbeats 4000000 in
set_option maxRecDepth 100000 in
theorem T_X12_land_0 {r : Int32} {z1 : St} (C : Cx p rm_X12_land s m args c D A cX12_land 3 RX12 rm_X12_land N) (hE : En p l e rm_X12_land s m args below meth c Q D A cX12_land .ireturn (wR N z1) [.int r])  (s0 : St) (x1 : Int32) (x2 : Int32) (h : F_X12_land_0 s0 x1 x2 = some (r, z1)) : Aw p l e rm_X12_land s m args below meth c Q D A 3 (wR N s0) 0 [(0, .ref (N.1 0)), (1, .int x1), (2, .int x2)] [] := by
  unfold F_X12_land_0 at h
  refine aw_aload_n C 0 dX12_land_0 rfl ?_
  refine aw_iconst (v := 0) C dX12_land_1 (by decide) ?_
  refine rp_md_thrown C lw_10_11 dX12_land_2 ?_
  refine ra_name (fun s1 es1 => ?_)
  have h := oL_e es1 h
  refine aw_iload_n C 1 dX12_land_5 rfl ?_
  refine aw_iconst (v := 2) C dX12_land_6 (by decide) ?_
  refine aw_icmp_lt (tgt := 25) C dX12_land_7 (by decide) (fun q => ?_) (fun q => ?_)
  · have h := bq_t q h
    refine aw_sub (lv' := []) [] rfl ?_
    exact T_X12_land_25 C hE s1 h
  · have h := bq_f q h
    refine aw_iload_n C 1 dX12_land_10 rfl ?_
    refine aw_iconst (v := 5) C dX12_land_11 (by decide) ?_
    refine aw_icmp_gt (tgt := 25) C dX12_land_12 (by decide) (fun q => ?_) (fun q => ?_)
    · have h := bq_t q h
      refine aw_sub (lv' := []) [] rfl ?_
      exact T_X12_land_25 C hE s1 h
    · have h := bq_f q h
      refine aw_iload_n C 2 dX12_land_15 rfl ?_
      refine aw_iconst (v := 2) C dX12_land_16 (by decide) ?_
      refine aw_icmp_lt (tgt := 25) C dX12_land_17 (by decide) (fun q => ?_) (fun q => ?_)
      · have h := bq_t q h
        refine aw_sub (lv' := []) [] rfl ?_
        exact T_X12_land_25 C hE s1 h
      · have h := bq_f q h
        refine aw_iload_n C 2 dX12_land_20 rfl ?_
        refine aw_iconst (v := 5) C dX12_land_21 (by decide) ?_
        refine aw_icmp_le (tgt := 27) C dX12_land_22 (by decide) (fun q => ?_) (fun q => ?_)
        · have h := bq_t q h
          refine aw_aload_n C 0 dX12_land_27 rfl ?_
          refine aw_iload_n C 1 dX12_land_28 rfl ?_
          refine aw_iload_n C 2 dX12_land_29 rfl ?_
          obtain ⟨s3, cw4, h⟩ := oC_e h
          have h := oL_e (x := s3) rfl h
          refine aw_callVv (n := 2) (As := [.int x1, .int x2]) (rest := []) (q0 := 0) C (c_X12_lays l D N s1 s3 x1 x2 cw4) lw_9_7 lw_9_8 lw_9_9 lw_1_5 lw_9_10 rfl rfl (by decide +kernel) ⟨Nat.le_of_ble_eq_true rfl, Nat.le_of_ble_eq_true rfl⟩ rfl rfl rfl rfl rfl (Nat.le_of_ble_eq_true rfl) dX12_land_30 ?_
          refine aw_iconst (v := 1) C dX12_land_33 (by decide) ?_
          cases h
          exact aw_ret hE dX12_land_34
        · have h := bq_f q h
          refine aw_sub (lv' := []) [] rfl ?_
          exact T_X12_land_25 C hE s1 h
def f_X12_land (s0 : St) (x1 : Int32) (x2 : Int32) : Option (Int32 × St) := oC (F_X12_land_0 s0 x1 x2) fun w => oZ w.1 (some w)
theorem c_X12_land (l : Launch) (D : va_G) (N : Nm) (s0 z1 : St) (x1 : Int32) (x2 : Int32) (r : Int32) (h : f_X12_land s0 x1 x2 = some (r, z1)) : Meti l yX12_land (tsU yX12_land cX12_land 3 (some .boolean)) rm_X12_land D N [.ref (N.1 0), .int x1, .int x2] (wR N s0) r (wR N z1) := by
  obtain ⟨w, h1, h2⟩ := oC_e h
  obtain ⟨hz, h2⟩ := oZ_e h2
  cases h2
  exact met_z (cc := cX12_land) (nL := 3) (own := RX12) (by decide) rfl (Nat.le_of_ble_eq_true rfl) (zN hz) (fun p e s m args below meth c Q A C hE => aw_sub [0, 1, 2] rfl (T_X12_land_0 C hE s0 x1 x2 h1))
/-! AwardLineModel.cells()I -/
def rm_X12_cells : Room := { frames := 0, cells := 0, slots := 0, locals := 0 }
def F_X12_cells_0 (s0 : St) : Option (Int32 × St) :=
  some ((s0.1 22) * (s0.1 23), s0)
set_option maxHeartbeats 4000000 in
set_option maxRecDepth 100000 in
theorem T_X12_cells_0 {r : Int32} {z1 : St} (C : Cx p rm_X12_cells s m args c D A cX12_cells 1 RX12 rm_X12_cells N) (hE : En p l e rm_X12_cells s m args below meth c Q D A cX12_cells .ireturn (wR N z1) [.int r])  (s0 : St) (h : F_X12_cells_0 s0 = some (r, z1)) : Aw p l e rm_X12_cells s m args below meth c Q D A 1 (wR N s0) 0 [(0, .ref (N.1 0))] [] := by
  unfold F_X12_cells_0 at h
  refine aw_aload_n C 0 dX12_cells_0 rfl ?_
  refine rg_md_wide C lw_9_11 dX12_cells_1 ?_
  refine aw_aload_n C 0 dX12_cells_4 rfl ?_
  refine rg_md_high C lw_9_12 dX12_cells_5 ?_
  refine aw_imul C dX12_cells_8 ?_
  cases h
  exact aw_ret hE dX12_cells_9
def f_X12_cells (s0 : St) : Option (Int32 × St) := F_X12_cells_0 s0
theorem c_X12_cells (l : Launch) (D : va_G) (N : Nm) (s0 z1 : St) (r : Int32) (h : f_X12_cells s0 = some (r, z1)) : Meti l yX12_cells (tsU yX12_cells cX12_cells 1 (some .int)) rm_X12_cells D N [.ref (N.1 0)] (wR N s0) r (wR N z1) :=
  met_i (cc := cX12_cells) (nL := 1) (own := RX12) (by decide) rfl (Nat.le_of_ble_eq_true rfl) (fun p e s m args below meth c Q A C hE => aw_sub [0] rfl (T_X12_cells_0 C hE s0 h))
/-! AwardLineModel.isVillage(I)Z -/
def rm_X12_isVillage : Room := { frames := 1, cells := 0, slots := 0, locals := 20 }
def F_X12_isVillage_17 (s0 : St) (t0 : Int32) : Option (Int32 × St) :=
  some (t0, s0)
set_option maxHeartbeats 4000000 in
set_option maxRecDepth 100000 in
theorem T_X12_isVillage_17 {r : Int32} {z1 : St} (C : Cx p rm_X12_isVillage s m args c D A cX12_isVillage 2 RX12 rm_X12_isVillage N) (hE : En p l e rm_X12_isVillage s m args below meth c Q D A cX12_isVillage .ireturn (wR N z1) [.int r])  (s0 : St) (t0 : Int32) (h : F_X12_isVillage_17 s0 t0 = some (r, z1)) : Aw p l e rm_X12_isVillage s m args below meth c Q D A 2 (wR N s0) 17 [] [.int t0] := by
  unfold F_X12_isVillage_17 at h
  cases h
  exact aw_ret hE dX12_isVillage_17
def F_X12_isVillage_16 (s0 : St) : Option (Int32 × St) :=
  F_X12_isVillage_17 s0 (0 : Int32)
set_option maxHeartbeats 4000000 in
set_option maxRecDepth 100000 in
theorem T_X12_isVillage_16 {r : Int32} {z1 : St} (C : Cx p rm_X12_isVillage s m args c D A cX12_isVillage 2 RX12 rm_X12_isVillage N) (hE : En p l e rm_X12_isVillage s m args below meth c Q D A cX12_isVillage .ireturn (wR N z1) [.int r])  (s0 : St) (h : F_X12_isVillage_16 s0 = some (r, z1)) : Aw p l e rm_X12_isVillage s m args below meth c Q D A 2 (wR N s0) 16 [] [] := by
  unfold F_X12_isVillage_16 at h
  refine aw_iconst (v := 0) C dX12_isVillage_16 (by decide) ?_
  refine aw_sub (lv' := []) [] rfl ?_
  exact T_X12_isVillage_17 C hE s0 (0 : Int32) h
def F_X12_isVillage_0 (s0 : St) (x1 : Int32) : Option (Int32 × St) :=
  if x1 < 0 then (
    F_X12_isVillage_16 s0)
  else (
    oC (f_X12_cells s0) fun w3 =>
    oL w3.1 fun v1 => oL w3.2 fun s2 =>
    if v1 ≤ x1 then (
      F_X12_isVillage_16 s2)
    else (
      F_X12_isVillage_17 s2 (1 : Int32)))
set_option maxHeartbeats 4000000 in
set_option maxRecDepth 100000 in
theorem T_X12_isVillage_0 {r : Int32} {z1 : St} (C : Cx p rm_X12_isVillage s m args c D A cX12_isVillage 2 RX12 rm_X12_isVillage N) (hE : En p l e rm_X12_isVillage s m args below meth c Q D A cX12_isVillage .ireturn (wR N z1) [.int r])  (s0 : St) (x1 : Int32) (h : F_X12_isVillage_0 s0 x1 = some (r, z1)) : Aw p l e rm_X12_isVillage s m args below meth c Q D A 2 (wR N s0) 0 [(0, .ref (N.1 0)), (1, .int x1)] [] := by
  unfold F_X12_isVillage_0 at h
  refine aw_iload_n C 1 dX12_isVillage_0 rfl ?_
  refine aw_if_lt (tgt := 16) C dX12_isVillage_1 (by decide) (fun q => ?_) (fun q => ?_)
  · have h := bq_t q h
    refine aw_sub (lv' := []) [] rfl ?_
    exact T_X12_isVillage_16 C hE s0 h
  · have h := bq_f q h
    refine aw_iload_n C 1 dX12_isVillage_4 rfl ?_
    refine aw_aload_n C 0 dX12_isVillage_5 rfl ?_
    obtain ⟨⟨v1, s2⟩, cw3, h⟩ := oC_e h
    have h := oL_e (x := s2) rfl (oL_e (x := v1) rfl h)
    refine aw_callVi (n := 0) (As := []) (rest := [.int x1]) (q0 := 0) C (c_X12_cells l D N s0 s2 v1 cw3) lw_23_23 lw_24_0 lw_24_1 lw_1_5 lw_24_2 rfl rfl (by decide +kernel) ⟨Nat.le_of_ble_eq_true rfl, Nat.le_of_ble_eq_true rfl⟩ rfl rfl rfl rfl rfl (Nat.le_of_ble_eq_true rfl) dX12_isVillage_6 ?_
    refine aw_icmp_ge (tgt := 16) C dX12_isVillage_9 (by decide) (fun q => ?_) (fun q => ?_)
    · have h := bq_t q h
      refine aw_sub (lv' := []) [] rfl ?_
      exact T_X12_isVillage_16 C hE s2 h
    · have h := bq_f q h
      refine aw_iconst (v := 1) C dX12_isVillage_12 (by decide) ?_
      refine aw_goto (tgt := 17) C dX12_isVillage_13 (by decide) ?_
      refine aw_sub (lv' := []) [] rfl ?_
      exact T_X12_isVillage_17 C hE s2 (1 : Int32) h
def f_X12_isVillage (s0 : St) (x1 : Int32) : Option (Int32 × St) := oC (F_X12_isVillage_0 s0 x1) fun w => oZ w.1 (some w)
theorem c_X12_isVillage (l : Launch) (D : va_G) (N : Nm) (s0 z1 : St) (x1 : Int32) (r : Int32) (h : f_X12_isVillage s0 x1 = some (r, z1)) : Meti l yX12_isVillage (tsU yX12_isVillage cX12_isVillage 2 (some .boolean)) rm_X12_isVillage D N [.ref (N.1 0), .int x1] (wR N s0) r (wR N z1) := by
  obtain ⟨w, h1, h2⟩ := oC_e h
  obtain ⟨hz, h2⟩ := oZ_e h2
  cases h2
  exact met_z (cc := cX12_isVillage) (nL := 2) (own := RX12) (by decide) rfl (Nat.le_of_ble_eq_true rfl) (zN hz) (fun p e s m args below meth c Q A C hE => aw_sub [0, 1] rfl (T_X12_isVillage_0 C hE s0 x1 h1))
/-! AwardLineModel.isDay(I)Z -/
def rm_X12_isDay : Room := { frames := 0, cells := 0, slots := 0, locals := 0 }
def F_X12_isDay_16 (s0 : St) (t0 : Int32) : Option (Int32 × St) :=
  some (t0, s0)
set_option maxHeartbeats 4000000 in
set_option maxRecDepth 100000 in
theorem T_X12_isDay_16 {r : Int32} {z1 : St} (C : Cx p rm_X12_isDay s m args c D A cX12_isDay 1 RX12 rm_X12_isDay N) (hE : En p l e rm_X12_isDay s m args below meth c Q D A cX12_isDay .ireturn (wR N z1) [.int r])  (s0 : St) (t0 : Int32) (h : F_X12_isDay_16 s0 t0 = some (r, z1)) : Aw p l e rm_X12_isDay s m args below meth c Q D A 1 (wR N s0) 16 [] [.int t0] := by
  unfold F_X12_isDay_16 at h
  cases h
  exact aw_ret hE dX12_isDay_16
def F_X12_isDay_15 (s0 : St) : Option (Int32 × St) :=
  F_X12_isDay_16 s0 (0 : Int32)
set_option maxHeartbeats 4000000 in
set_option maxRecDepth 100000 in
theorem T_X12_isDay_15 {r : Int32} {z1 : St} (C : Cx p rm_X12_isDay s m args c D A cX12_isDay 1 RX12 rm_X12_isDay N) (hE : En p l e rm_X12_isDay s m args below meth c Q D A cX12_isDay .ireturn (wR N z1) [.int r])  (s0 : St) (h : F_X12_isDay_15 s0 = some (r, z1)) : Aw p l e rm_X12_isDay s m args below meth c Q D A 1 (wR N s0) 15 [] [] := by
  unfold F_X12_isDay_15 at h
  refine aw_iconst (v := 0) C dX12_isDay_15 (by decide) ?_
  refine aw_sub (lv' := []) [] rfl ?_
  exact T_X12_isDay_16 C hE s0 (0 : Int32) h
def F_X12_isDay_0 (s0 : St) (x0 : Int32) : Option (Int32 × St) :=
  if x0 < 0 then (
    F_X12_isDay_15 s0)
  else (
    if (999 : Int32) < x0 then (
      F_X12_isDay_15 s0)
    else (
      F_X12_isDay_16 s0 (1 : Int32)))
set_option maxHeartbeats 4000000 in
set_option maxRecDepth 100000 in
theorem T_X12_isDay_0 {r : Int32} {z1 : St} (C : Cx p rm_X12_isDay s m args c D A cX12_isDay 1 RX12 rm_X12_isDay N) (hE : En p l e rm_X12_isDay s m args below meth c Q D A cX12_isDay .ireturn (wR N z1) [.int r])  (s0 : St) (x0 : Int32) (h : F_X12_isDay_0 s0 x0 = some (r, z1)) : Aw p l e rm_X12_isDay s m args below meth c Q D A 1 (wR N s0) 0 [(0, .int x0)] [] := by
  unfold F_X12_isDay_0 at h
  refine aw_iload_n C 0 dX12_isDay_0 rfl ?_
  refine aw_if_lt (tgt := 15) C dX12_isDay_1 (by decide) (fun q => ?_) (fun q => ?_)
  · have h := bq_t q h
    refine aw_sub (lv' := []) [] rfl ?_
    exact T_X12_isDay_15 C hE s0 h
  · have h := bq_f q h
    refine aw_iload_n C 0 dX12_isDay_4 rfl ?_
    refine aw_sipush (v := 999) C dX12_isDay_5 (by decide) ?_
    refine aw_icmp_gt (tgt := 15) C dX12_isDay_8 (by decide) (fun q => ?_) (fun q => ?_)
    · have h := bq_t q h
      refine aw_sub (lv' := []) [] rfl ?_
      exact T_X12_isDay_15 C hE s0 h
    · have h := bq_f q h
      refine aw_iconst (v := 1) C dX12_isDay_11 (by decide) ?_
      refine aw_goto (tgt := 16) C dX12_isDay_12 (by decide) ?_
      refine aw_sub (lv' := []) [] rfl ?_
      exact T_X12_isDay_16 C hE s0 (1 : Int32) h
def f_X12_isDay (s0 : St) (x0 : Int32) : Option (Int32 × St) := oC (F_X12_isDay_0 s0 x0) fun w => oZ w.1 (some w)
theorem c_X12_isDay (l : Launch) (D : va_G) (N : Nm) (s0 z1 : St) (x0 : Int32) (r : Int32) (h : f_X12_isDay s0 x0 = some (r, z1)) : Meti l yX12_isDay (tsU yX12_isDay cX12_isDay 1 (some .boolean)) rm_X12_isDay D N [.int x0] (wR N s0) r (wR N z1) := by
  obtain ⟨w, h1, h2⟩ := oC_e h
  obtain ⟨hz, h2⟩ := oZ_e h2
  cases h2
  exact met_z (cc := cX12_isDay) (nL := 1) (own := RX12) (by decide) rfl (Nat.le_of_ble_eq_true rfl) (zN hz) (fun p e s m args below meth c Q A C hE => aw_sub [0] rfl (T_X12_isDay_0 C hE s0 x0 h1))
end WK
