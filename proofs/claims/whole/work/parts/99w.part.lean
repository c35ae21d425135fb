/-! PURE: terms: parts -/
theorem op_other {w : St} {p : Nat} (h1 : ¬ w.1 11 = 1) (h2 : w.1 11 = 0 → w.1 12 < 14 ∧ ¬ w.1 12 = 13) (his : f_X12_isSign w 40 = some (0, w)) (e17 : w.1 17 = nI p) (hp : p ≤ 90) (h13 : w.1 13 = 0) : f_X12_operand w = some (0, sI (sI w 13 1) 14 (w.1 10)) := by
  have a206 : F_X12_operand_206 w = some (0, sI (sI w 13 1) 14 (w.1 10)) := by
    unfold F_X12_operand_206
    rw [p_wrong0 h13]
    rfl
  have a185 : ∀ t, F_X12_operand_185 w t = some (0, sI (sI w 13 1) 14 (w.1 10)) := by
    intro t
    unfold F_X12_operand_185
    by_cases c : w.1 11 = 0
    · rw [if_pos c, if_neg (h2 c).2, a206]
    · rw [if_neg c, a206]
  have a105 : F_X12_operand_105 w = some (0, sI (sI w 13 1) 14 (w.1 10)) := by
    unfold F_X12_operand_105 F_X12_operand_180
    rw [his]
    simp only [oC_s, oL_s, ↓reduceIte]
    rw [e17]
    by_cases cp : p = 0
    · rw [if_pos (by rw [cp]; rfl), a185]
    · have e1 : nI p - (1 : Int32) = nI (p - 1) := nI_sub (b := 1) (by omega)
      rw [if_neg (nI_ne0 (by omega) (by omega)), e1, oA_in _ (vp_in_nI (by omega) (by omega)), nI_clamp (by omega), p_bind]
      simp only [oC_s, oL_s, a185, ite_self]
  have a0 : F_X12_operand_0 w = some (0, sI (sI w 13 1) 14 (w.1 10)) := by
    unfold F_X12_operand_0
    rw [if_neg h1]
    by_cases c : w.1 11 = 0
    · rw [if_pos c, if_pos (h2 c).1, a105]
    · rw [if_neg c, a105]
  unfold f_X12_operand
  rw [a0]
  rfl
theorem part_bad {me : St → Int32 → Int32 → Option (Int32 × St)} {z : St} {x : Int32} (h1 : ¬ z.1 6 = 31) (h2 : ¬ z.1 6 = 20) (h3 : z.1 6 < 11 ∨ ¬ z.1 6 ≤ 16) : F_X6_part_0 me z x = some (0, sI (sI z 2 1) 3 (z.1 7)) := by
  unfold F_X6_part_0 F_X6_part_65 F_X6_part_88
  rw [if_neg h1, if_neg h2]
  simp only [p_refuse, oC_s, oL_s, ↓reduceIte]
  rcases h3 with h | h
  · rw [if_pos h]
  · rw [if_neg h, ite_self]
/-- a number or a name is a knot -/
theorem val_step {me : St → Int32 → Int32 → Option (Int32 × St)} {n a c m p o K e : Nat} {z w : St} {s v : Int32} (h : pR n a c m 0 p o K z w) (hw : wfK (z.2.1 5) m e) (hc : c < 64) (ht : z.1 6 ≠ 34) (hk : knotR (z.1 6) (z.1 8) s v 0) : ∃ z3 w2 w3 a3, F_X6_part_114 me z = some (1, z3) ∧ f_X12_out (sI w 5 (nI (c + 1))) s v = some w2 ∧ f_X12_next w2 = some w3 ∧ pR n a3 (c + 1) (m + 1) 0 p o K z3 w3 ∧ fzT z z3 ∧ fwT w w3 ∧ wfK (z3.2.1 5) (m + 1) (e + 1) ∧ w3.2.1 4 = w.2.1 4 ∧ muT n a3 (z3.1 6) + 1 ≤ muT n a (z.1 6) := by
  obtain ⟨⟨hr0, t1, t2, t3⟩, ⟨c1, c2, c3, c4, c5, c6⟩, ⟨d1, d2, d3, d4, d5⟩, hk1, hk2⟩ := id h
  have e3 : (sI w 5 (nI (c + 1))).1 3 = nI m := d2
  have hout := p_out (w := sI w 5 (nI (c + 1))) (m := m) (by omega) e3 s v
  generalize hw2 : sI (sA (sA (sI w 5 (nI (c + 1))) 1 (upd ((sI w 5 (nI (c + 1))).2.1 1) (64 + m) s)) 2 (upd ((sI w 5 (nI (c + 1))).2.1 2) (64 + m) v)) 3 (nI (m + 1)) = w2 at hout
  have b1 : ∀ i, w2.2.1 1 i = if i = 64 + m then s else w.2.1 1 i := fun i => by rw [← hw2]; rfl
  have b2 : ∀ i, w2.2.1 2 i = if i = 64 + m then v else w.2.1 2 i := fun i => by rw [← hw2]; rfl
  have b4 : w2.2.1 4 = w.2.1 4 := by rw [← hw2]; rfl
  have b0 : w2.2.1 0 = w.2.1 0 := by rw [← hw2]; rfl
  have i3 : w2.1 3 = nI (m + 1) := by rw [← hw2]; rfl
  have i5 : w2.1 5 = nI (c + 1) := by rw [← hw2]; rfl
  have io : ∀ j, j ≠ 3 → j ≠ 5 → w2.1 j = w.1 j := fun j h1 h2 => by
    rw [← hw2]
    show (sI (sI w 5 _) 3 _).1 j = _
    rw [sI_i, if_neg h1, sI_i, if_neg h2]
  have f2 : fwT w w2 := by
    rw [← hw2]
    refine fwT_t (y := sI w 5 (nI (c + 1))) (fwT_n (fr_I fr_0 (by decide))) (fwT_out (m := m) (fun i hi => ?_) (fun i hi => ?_))
    · rw [upd_i, if_neg (by omega)]
    · rw [upd_i, if_neg (by omega)]
  clear hw2
  obtain ⟨r1, r2, r3, r4, r5, r6, r7, r8⟩ := hr0
  have hr1 : rdR n a (sI z 10 (nI (c + 1))) w2 := by
    refine ⟨r1, r2, r3, ?_, r5, ?_, ?_, ?_⟩
    · rw [io 8 (by omega) (by omega)]; exact r4
    · rw [io 9 (by omega) (by omega)]; exact r6
    · rw [b0]; exact r7
    · rw [b0, io 14 (by omega) (by omega)]; exact r8
  obtain ⟨z2, w3, a3, g1, g2, g3, g4, g5, g6, g7, g8⟩ := p_adv hr1 ht
  have ez : z2.2.1 = z.2.1 := funext (fun k => g4.2 k List.not_mem_nil)
  have ew : w3.2.1 = w2.2.1 := funext (fun k => g5.2 k List.not_mem_nil)
  have z12 : z2.1 12 = 2 := by rw [g4.1 12 (by decide)]; exact t3
  have z20 : z2.1 20 = nI m := by rw [g4.1 20 (by decide)]; exact d1
  have z10 : z2.1 10 = nI (c + 1) := by rw [g4.1 10 (by decide)]; rfl
  have hem := p_emit (z := z2) (M := m) (by omega) z12 z20 (z.1 6) (z.1 8)
  refine ⟨sI (sA (sA z2 5 (upd (z2.2.1 5) m (z.1 6))) 6 (upd (z2.2.1 6) m (z.1 8))) 20 (nI (m + 1)), w2, w3, a3, ?_, hout, g2, ?_, ?_, fwT_t f2 (fwT_n (fr_m g5 (by decide) (by decide))), ?_, by rw [ew, b4], g8⟩
  · unfold F_X6_part_114
    have cl : f_X6_claimKnot z = some (1, z2) := by
      unfold f_X6_claimKnot F_X6_claimKnot_0
      have q : nI c < (64 : Int32) := nI_lt (b := 64) hc (by omega)
      rw [c1, if_pos q, nI_1]
      simp only [oL_s]
      rw [g1]
      rfl
    have n1 : ¬ (1 : Int32) = 0 := by decide
    simp only [oL_s]
    rw [cl]
    simp only [oC_s, n1, ↓reduceIte]
    rw [hem]
    rfl
  · refine ⟨⟨g3, g6, g7, z12⟩, ⟨z10, ?_, by omega, by omega, c5, c6⟩, ⟨rfl, ?_, ?_, ?_, ?_⟩, ?_, fun i hi => absurd hi (Nat.not_lt_zero i)⟩
    · rw [g5.1 5 (by decide)]; exact i5
    · rw [g5.1 3 (by decide)]; exact i3
    · rw [g5.1 17 (by decide), io 17 (by omega) (by omega)]; exact d3
    · rw [g5.1 18 (by decide), io 18 (by omega) (by omega)]; exact d4
    · rw [g5.1 13 (by decide), io 13 (by omega) (by omega)]; exact d5
    · intro i hi
      show ∃ t, knotR (upd (z2.2.1 5) m (z.1 6) i) (upd (z2.2.1 6) m (z.1 8) i) _ _ t
      rw [ez, ew, b1, b2, upd_i, upd_i]
      by_cases ei : i = m
      · subst ei
        rw [if_pos rfl, if_pos rfl, if_pos rfl, if_pos rfl]
        exact ⟨0, hk⟩
      · rw [if_neg ei, if_neg ei, if_neg (by omega), if_neg (by omega)]
        exact hk1 i (by omega)
  · exact fr_t (fr_t (fr_I fr_0 (by decide)) (fr_m g4 (by decide) (by decide))) (fr_I (fr_A (fr_A fr_0 (by decide)) (by decide)) (by decide))
  · show wfK (upd (z2.2.1 5) m (z.1 6)) (m + 1) (e + 1)
    have ea := knot_ar hk
    refine ⟨e, wfK_cong (fun i hi => by rw [upd_i, if_neg (by omega), ez]) hw, ?_, ?_⟩
    · rw [upd_i, if_pos rfl, ← ea]; omega
    · rw [upd_i, if_pos rfl, ← ea]; omega
theorem val_row {me : St → Int32 → Int32 → Option (Int32 × St)} {n a c m p o K e : Nat} {z w : St} {s v : Int32} (h : pR n a c m 0 p o K z w) (hw : wfK (z.2.1 5) m e) (ht : z.1 6 ≠ 34) (hk : knotR (z.1 6) (z.1 8) s v 0) (hop : f_X12_operand w = oC (f_X12_knot w) fun s2 => if s2.1 13 = 0 then oC (f_X12_out s2 s v) fun s5 => oC (f_X12_next s5) fun s8 => some (1, s8) else some (0, s2)) : rowP (F_X6_part_114 me z) n a c p o K e 6 0 z w := by
  obtain ⟨⟨hr0, t1, t2, t3⟩, ⟨c1, c2, c3, c4, c5, c6⟩, ⟨d1, d2, d3, d4, d5⟩, hk1, hk2⟩ := id h
  by_cases hc : c = 64
  · left
    obtain ⟨f1, f2⟩ := full_both hc c1 c2 d5
    rw [f2, oC_s] at hop
    have n2 : ¬ (sI (sI w 13 2) 14 (w.1 10)).1 13 = 0 := by show ¬ (2 : Int32) = 0; decide
    rw [if_neg n2] at hop
    refine opd_bad (f := 2) d5 hop (by omega) (by omega) t2 ?_
    unfold F_X6_part_114
    simp only [oL_s]
    rw [f1]
    simp only [oC_s, ↓reduceIte]
    rfl
  · obtain ⟨z3, w2, w3, a3, g1, g2, g3, g4, g5, g6, g7, g8, g9⟩ := val_step (me := me) h hw (by omega) ht hk
    rw [p_knot (by omega) c2, oC_s] at hop
    have e13' : (sI w 5 (nI (c + 1))).1 13 = 0 := d5
    rw [if_pos e13', g2, oC_s, g3, oC_s] at hop
    refine Or.inr ⟨z3, w3, a3, c + 1, m + 1, 0, 1, g1, ⟨by omega, by omega⟩, fun k => ?_, g5, g6, g4, g7, fun i _ => by rw [g8], fun i i1 i2 => by omega, Or.inl (rk1_le _)⟩
    rw [op_pre d5, hop, oC_s]
/-- the row of parts -/
theorem row_part {me : St → Int32 → Int32 → Option (Int32 × St)} {n a c m p o K e : Nat} {z w : St} (h0 : o < 8 → RowOK me 0 (o + 1)) (h : pR n a c m 0 p o K z w) (hw : wfK (z.2.1 5) m e) (hnot : z.1 6 ≠ 17 ∨ (0 < p ∧ 4 ≤ bnd (w.2.1 4 (p - 1)))) : rowP (F_X6_part_0 me z (nI o)) n a c p o K e 6 0 z w := by
  obtain ⟨⟨hr0, t1, t2, t3⟩, ⟨c1, c2, c3, c4, c5, c6⟩, ⟨d1, d2, d3, d4, d5⟩, hk1, hk2⟩ := id h
  rw [Nat.add_zero] at d3
  have n1 : ¬ (1 : Int32) = 0 := by decide
  have is40 := p_isSign (i := 10) (by omega) t1
  -- what stands no part
  have nopart : ¬ z.1 6 = 31 → ¬ z.1 6 = 20 → (z.1 6 < 11 ∨ ¬ z.1 6 ≤ 16) → f_X12_operand w = some (0, sI (sI w 13 1) 14 (w.1 10)) → rowP (F_X6_part_0 me z (nI o)) n a c p o K e 6 0 z w := fun q1 q2 q3 q4 => Or.inl (opd_bad (f := 1) d5 q4 (by omega) (by omega) t2 (part_bad q1 q2 q3))
  have his : ¬ z.1 6 = 31 → f_X12_isSign w 40 = some (0, w) := fun q => by
    rw [decide_eq_false (show ¬ z.1 6 = nI (21 + 10) from q)] at is40
    exact is40
  rcases id t1 with ⟨s1, j, hj, s2, s3⟩ | ⟨s1, s2, k, hk, s3, s4⟩ | ⟨s1, i, hi, s2, s3⟩ | ⟨s1, s2⟩ | ⟨s1, s2⟩
  · obtain ⟨k1, k2, k3, k4, k5, k6, k7, k8, k9, k10⟩ := k_pw j hj
    have q31 : ¬ z.1 6 = 31 := by rw [s3]; exact k4
    have q20 : ¬ z.1 6 = 20 := by rw [s3]; exact k3
    have q34 : z.1 6 ≠ 34 := by rw [s3]; exact k7
    have z1 : ¬ w.1 11 = 1 := by rw [s1]; decide
    by_cases c14 : j < 14
    · have q3 : z.1 6 < 11 ∨ ¬ z.1 6 ≤ 16 := by
        rw [s3]
        rcases k9 c14 with q | q
        · exact Or.inl (nI_lt (b := 11) q (by omega))
        · exact Or.inr (nI_ge (a := 16) q (by omega))
      by_cases c13 : j = 13
      · have e17 : z.1 6 = 17 := by rw [s3]; exact k2.mpr c13
        rcases hnot with q | q
        · exact absurd e17 q
        · have ho := op_not (by rw [← e17]; exact t1) d3 (by omega) d5
          rw [if_pos q] at ho
          exact nopart q31 q20 q3 ho
      · have l14 : w.1 12 < 14 := by rw [s2]; exact nI_lt (b := 14) c14 (by omega)
        have n13 : ¬ w.1 12 = 13 := by rw [s2]; exact fun q => c13 ((nI_eq (b := 13) (by omega) (by omega)).mp q)
        exact nopart q31 q20 q3 (op_other z1 (fun _ => ⟨l14, n13⟩) (his q31) d3 (by omega) d5)
    · have ej : pmW j = j - 3 := k8 (by omega)
      have etk : z.1 6 = nI (j - 3) := by rw [s3, ej]
      have l11 : ¬ z.1 6 < 11 := by rw [etk]; exact nI_nlt (b := 11) (by omega) (by omega)
      have l16 : z.1 6 ≤ 16 := by rw [etk]; exact nI_le (b := 16) (by omega) (by omega)
      have ev : w.1 12 - (14 : Int32) = nI (j - 14) := by rw [s2]; exact nI_sub (b := 14) (by omega)
      have hk : knotR (z.1 6) (z.1 8) 1 (w.1 12 - 14) 0 := Or.inr (Or.inl ⟨rfl, rfl, j - 14, by omega, by rw [etk]; congr 1; omega, ev⟩)
      unfold F_X6_part_0 F_X6_part_65 F_X6_part_94
      rw [if_neg q31, if_neg q20]
      simp only [↓reduceIte]
      rw [if_neg l11, if_pos l16]
      refine val_row h hw q34 hk ?_
      have l14 : ¬ w.1 12 < 14 := by rw [s2]; exact nI_nlt (b := 14) (by omega) (by omega)
      unfold f_X12_operand F_X12_operand_0
      rw [if_neg z1, if_pos s1, if_neg l14]
      by_cases hc : c = 64
      · rw [(full_both hc c1 c2 d5).2]
        rfl
      · rw [p_knot (by omega) c2]
        simp only [oC_s, oL_s]
        have e13' : (sI w 5 (nI (c + 1))).1 13 = 0 := d5
        have e12' : (sI w 5 (nI (c + 1))).1 12 = w.1 12 := rfl
        rw [if_pos e13', if_pos e13', e12']
        cases f_X12_out (sI w 5 (nI (c + 1))) 1 (w.1 12 - 14) with
        | none => rfl
        | some s5 =>
          rw [oC_s]
          cases f_X12_next s5 with
          | none => rfl
          | some s8 => rfl
  · have q31 : ¬ z.1 6 = 31 := by rw [s2]; decide
    have q34 : z.1 6 ≠ 34 := by rw [s2]; decide
    unfold F_X6_part_0 F_X6_part_65 F_X6_part_94
    rw [if_neg q31, if_pos s2]
    simp only [n1, ↓reduceIte]
    rw [s4]
    by_cases c9 : k ≤ 9999
    · have l9 : nI k ≤ (9999 : Int32) := nI_le (b := 9999) c9 (by omega)
      rw [if_pos l9]
      have hk : knotR (z.1 6) (z.1 8) 0 (w.1 12) 0 := Or.inl ⟨rfl, s2, rfl, by rw [s3, s4], k, c9, s3⟩
      refine val_row h hw q34 hk ?_
      unfold f_X12_operand F_X12_operand_0 F_X12_operand_23 F_X12_operand_34
      rw [if_pos s1, s3, if_pos l9, if_pos d5]
      by_cases hc : c = 64
      · rw [(full_both hc c1 c2 d5).2]
        rfl
      · rw [p_knot (by omega) c2]
        simp only [oC_s, oL_s]
        have e13' : (sI w 5 (nI (c + 1))).1 13 = 0 := d5
        have e12' : (sI w 5 (nI (c + 1))).1 12 = nI k := s3
        rw [if_pos e13', if_pos e13', e12']
        cases f_X12_out (sI w 5 (nI (c + 1))) 0 (nI k) with
        | none => rfl
        | some s5 =>
          rw [oC_s]
          cases f_X12_next s5 with
          | none => rfl
          | some s8 => rfl
    · have l9 : ¬ nI k ≤ (9999 : Int32) := nI_ge (a := 9999) (by omega) (by omega)
      rw [if_neg l9]
      simp only [p_refuse, oC_s, oL_s]
      refine Or.inl (opd_bad (f := 2) d5 ?_ (by omega) (by omega) t2 rfl)
      unfold f_X12_operand F_X12_operand_0 F_X12_operand_23 F_X12_operand_34
      rw [if_pos s1, s3, if_neg l9, p_wrong0 d5]
      simp only [oC_s, oL_s]
      have n2 : ¬ (sI (sI w 13 2) 14 (w.1 10)).1 13 = 0 := by show ¬ (2 : Int32) = 0; decide
      rw [if_neg n2, if_neg n2]
      rfl
  · have z1 : ¬ w.1 11 = 1 := by rw [s1]; decide
    have z0 : ¬ w.1 11 = 0 := by rw [s1]; decide
    by_cases c10 : i = 10
    · subst c10
      have q31 : z.1 6 = 31 := s2
      have is1 : f_X12_isSign w 40 = some (1, w) := by
        rw [decide_eq_true (show z.1 6 = nI (21 + 10) from q31)] at is40
        exact is40
      unfold F_X6_part_0 F_X6_part_49 F_X6_part_50
      rw [if_pos q31]
      by_cases co : o < 8
      · have l8 : nI o < (8 : Int32) := nI_lt (b := 8) co (by omega)
        rw [if_pos l8, nI_1]
        -- laid on the pile
        have pr : pR n a c m 0 (p + 1) (o + 1) K z (sI (sA (sI w 18 (nI (o + 1))) 4 (upd (w.2.1 4) p 40)) 17 (nI (p + 1))) := by
          obtain ⟨r1, r2, r3, r4, r5, r6, r7, r8⟩ := hr0
          exact ⟨⟨⟨r1, r2, r3, r4, r5, r6, r7, r8⟩, t1, t2, t3⟩, ⟨c1, c2, c3, c4, by omega, by omega⟩, ⟨d1, d2, rfl, rfl, d5⟩, hk1, fun i hi => absurd hi (Nat.not_lt_zero i)⟩
        obtain ⟨z', w', a', g1, g2, g3, g4, g5, g6, g7, g8⟩ := pR_adv pr (by rw [q31]; decide)
        rw [g1]
        simp only [oC_s, oL_s]
        have ho : f_X12_operand w = some (0, w') := by
          unfold f_X12_operand F_X12_operand_0 F_X12_operand_105 F_X12_operand_128
          rw [if_neg z1, if_neg z0, is1]
          simp only [oC_s, oL_s, n1, ↓reduceIte]
          rw [d4, if_neg (show ¬ nI o = (8 : Int32) from fun q => by have := (nI_eq (b := 8) (by omega) (by omega)).mp q; omega), if_pos d5, nI_1]
          unfold f_X12_waits F_X12_waits_0
          have e17' : (sI w 18 (nI (o + 1))).1 17 = nI p := d3
          rw [e17', oA_in _ (vp_in_nI (by omega) (by omega)), nI_clamp (by omega)]
          simp only [oL_s]
          have e17'' : (sA (sI w 18 (nI (o + 1))) 4 (upd ((sI w 18 (nI (o + 1))).2.1 4) p 40)).1 17 = nI p := d3
          rw [e17'', nI_1]
          have g2' : f_X12_next (sI (sA (sI w 18 (nI (o + 1))) 4 (upd ((sI w 18 (nI (o + 1))).2.1 4) p 40)) 17 (nI (p + 1))) = some w' := g2
          rw [g2']
          rfl
        have st1 : ∀ k, F_X12_expression_14 (k + 1) w 0 1 = F_X12_expression_14 k w' 0 1 := fun k => by rw [op_pre d5, ho, oC_s]
        have fw1 : fwT w w' := fwT_t (fwT_n (fr_I (fr_A (fr_I fr_0 (by decide)) (by decide)) (by decide))) g5
        have w4p : w'.2.1 4 p = 40 := by
          rw [g7]
          show upd (w.2.1 4) p 40 p = 40
          rw [upd_i, if_pos rfl]
        have w4 : ∀ i, i < p → w'.2.1 4 i = w.2.1 4 i := by
          intro i hi
          rw [g7]
          show upd (w.2.1 4) p 40 i = _
          rw [upd_i, if_neg (by omega)]
        have inner : rowP (me z' 0 (nI (o + 1))) n a' c (p + 1) (o + 1) K e 0 0 z' w' := h0 co n a' c m (p + 1) K e z' w' g3 (by rw [g6]; exact hw) (fun _ => by rw [Nat.add_sub_cancel, w4p]; decide) (fun q => by omega)
        rcases inner with hf | ⟨z2, w2, a2, c2', m2, q2, j2, f1, ⟨f2, f2'⟩, f3, f4, f5, f6, f7, f8, f9, f10⟩
        · obtain ⟨y', x', j, e1, e2, e3, e4, e5, e6⟩ := hf
          rw [e1]
          simp only [oC_s, ↓reduceIte]
          exact Or.inl (rowF_t (j := 1) st1 (by omega) g4 fw1 ⟨y', x', j, rfl, e2, e3, e4, e5, e6⟩)
        · rw [f1]
          simp only [oC_s, n1, ↓reduceIte]
          have st2 : ∀ k, F_X12_expression_14 (k + (j2 + 1)) w 0 1 = F_X12_expression_14 k w2 1 1 := fun k => by rw [← Nat.add_assoc, st1, f3]
          obtain ⟨⟨x1, x2, x3, x4⟩, ⟨x5, x6, x7, x8, x9, x10⟩, ⟨x11, x12, x13, x14, x15⟩, x16, x17⟩ := id f6
          unfold f_X6_pass F_X6_pass_0
          by_cases c32 : z2.1 6 = 32
          · rw [if_pos c32]
            -- it is shut
            obtain ⟨w3, p1, p2, p3, p4⟩ := p_pour (n := n) (a := a2) (c := c2') (q1 := 0) (p := p + 1) (o := o + 1) (K := K) (z := z2) (l := 1) (by omega) (by omega) q2 m2 w2 100000 (by rw [Nat.zero_add]; exact f6) (fun _ => by
              rw [Nat.add_zero, Nat.add_sub_cancel, f8 p (by omega), w4p]; decide) (fun i i1 i2 => f9 i (by omega) (by omega)) (by omega)
            obtain ⟨⟨⟨y1, y2, y3, y4, y5, y6, y7, y8⟩, u1, u2, u3⟩, ⟨v1, v2, v3, v4, v5, v6⟩, ⟨u5, u6, u7, u8, u9⟩, u10, u11⟩ := id p2
            have pr2 : pR n a2 c2' (m2 + q2) 0 p o K z2 (sI (sI w3 17 (nI p)) 18 (nI o)) := ⟨⟨⟨y1, y2, y3, y4, y5, y6, y7, y8⟩, u1, u2, u3⟩, ⟨v1, v2, v3, v4, by omega, by omega⟩, ⟨u5, u6, rfl, rfl, u9⟩, u10, fun i hi => absurd hi (Nat.not_lt_zero i)⟩
            obtain ⟨z4, w4', a4, l1, l2, l3, l4, l5, l6, l7, l8⟩ := pR_adv pr2 (by rw [c32]; decide)
            rw [l1]
            obtain ⟨x, hx, hx2⟩ := p_between x2
            have x0 : x = 0 := by
              rcases hx2 with ⟨q, _⟩ | ⟨_, _, _, q⟩
              · exact q
              · rw [c32] at q; exact absurd q (by decide)
            subst x0
            have is41 : f_X12_isSign w2 41 = some (1, w2) := by
              have := p_isSign (i := 11) (by omega) x2
              rw [decide_eq_true (show z2.1 6 = nI (21 + 11) from c32)] at this
              exact this
            have st3 : ∀ k, F_X12_expression_14 (k + 1) w2 1 1 = F_X12_expression_14 k w4' 1 1 := by
              intro k
              show F_X12_expression_14_b (F_X12_expression_14 k) w2 1 1 = _
              unfold F_X12_expression_14_b F_X12_expression_106
              rw [if_pos x15, if_neg n1, if_neg n1, hx]
              simp only [oC_s, oL_s, ↓reduceIte]
              rw [is41]
              simp only [oC_s, oL_s, n1, ↓reduceIte]
              have q0 : ¬ nI (o + 1) ≤ 0 := nI_ge (a := 0) (by omega) (by omega)
              have p1' : f_X12_pour w2 1 = some w3 := p1
              rw [x14, if_neg q0, p1']
              simp only [oC_s, oL_s]
              have e17 : w3.1 17 - (1 : Int32) = nI p := by rw [u7]; exact nI_sub (a := p + 1) (b := 1) (by omega)
              have e18 : (sI w3 17 (nI p)).1 18 - (1 : Int32) = nI o := by
                rw [show (sI w3 17 (nI p)).1 18 = w3.1 18 from rfl, u8]; exact nI_sub (a := o + 1) (b := 1) (by omega)
              rw [e17, e18, l2]
              simp only [oC_s, oL_s]
            simp only [oC_s, oL_s]
            refine Or.inr ⟨z4, w4', a4, c2', m2 + q2, 0, (j2 + 1) + 1, rfl, ⟨by omega, ?_⟩, fun k => ?_, fr_t (fr_t g4 f4) l4, fwT_t (fwT_t fw1 f5) (fwT_t p3 (fwT_t (fwT_n (fr_I (fr_I fr_0 (by decide)) (by decide))) l5)), l3, ?_, fun i hi => ?_, fun i i1 i2 => by omega, Or.inl (rk1_le _)⟩
            · omega
            · rw [show k + (j2 + 1 + 1) = (k + 1) + (j2 + 1) by omega, st2, st3]
            · rw [l6]; exact f7
            · rw [l7]
              show w3.2.1 4 i = _
              rw [p4, f8 i (by omega), w4 i hi]
          · rw [if_neg c32]
            simp only [p_refuse, oC_s, oL_s]
            -- it isn't
            have fail : ∀ w5, (∀ k, F_X12_expression_14 (k + 2) w2 1 1 = some w5) → fwT w2 w5 → bad (sI (sI z2 2 1) 3 (z2.1 7)) w5 → rowF (some (0, sI (sI z2 2 1) 3 (z2.1 7))) (muT n a2 (z2.1 6)) 1 z2 w2 := fun w5 q1 q2 q3 => ⟨_, w5, 2, rfl, by omega, q1, fz_ref z2 _ _, q2, q3⟩
            refine Or.inl (rowF_t (j := j2 + 1) (J := muT n a2 (z2.1 6)) st2 (by omega) (fr_t g4 f4) (fwT_t fw1 f5) ?_)
            rcases f10 with l | ⟨l1, l2⟩
            · obtain ⟨x, hx, hx2⟩ := p_between x2
              have x0 : x = 0 := by
                rcases hx2 with ⟨q, _⟩ | ⟨_, _, _, q⟩
                · exact q
                · omega
              subst x0
              have is41 : f_X12_isSign w2 41 = some (0, w2) := by
                have := p_isSign (i := 11) (by omega) x2
                rw [decide_eq_false (show ¬ z2.1 6 = nI (21 + 11) from c32)] at this
                exact this
              have hb : bad (sI (sI z2 2 1) 3 (z2.1 7)) (sI (sI w2 13 1) 14 (w2.1 10)) := bad_mk (f := 1) (by omega) (by omega) x3
              refine fail _ (fun k => ?_) (fw_wr w2 _ _) hb
              rw [show k + 2 = k + 1 + 1 from rfl]
              show F_X12_expression_14_b (F_X12_expression_14 (k + 1)) w2 1 1 = _
              unfold F_X12_expression_14_b F_X12_expression_104 F_X12_expression_106
              rw [if_pos x15, if_neg n1, if_neg n1, hx]
              simp only [oC_s, oL_s, ↓reduceIte]
              rw [is41]
              simp only [oC_s, oL_s, ↓reduceIte]
              show F_X12_expression_14_b (F_X12_expression_14 k) w2 1 0 = _
              unfold F_X12_expression_14_b F_X12_expression_109 F_X12_expression_129 F_X12_expression_141
              have q0 : ¬ nI (o + 1) ≤ 0 := nI_ge (a := 0) (by omega) (by omega)
              rw [if_pos x15, if_pos rfl, if_pos x15, x14, if_neg q0, p_wrong0 x15]
              simp only [oC_s, oL_s]
              rw [if_neg (bad_ne hb)]
            · obtain ⟨w5, b1, b2, b3⟩ := cmp_bad f6 l1 l2
              exact fail w5 b1 b2 b3
      · have l8 : ¬ nI o < (8 : Int32) := nI_nlt (b := 8) (by omega) (by omega)
        rw [if_neg l8]
        simp only [p_refuse, oC_s, oL_s]
        refine Or.inl (opd_bad (f := 2) d5 ?_ (by omega) (by omega) t2 rfl)
        unfold f_X12_operand F_X12_operand_0 F_X12_operand_105 F_X12_operand_128
        rw [if_neg z1, if_neg z0, is1]
        simp only [oC_s, oL_s, n1, ↓reduceIte]
        rw [d4, if_pos (show nI o = (8 : Int32) from by rw [show o = 8 by omega]; rfl), p_wrong0 d5]
        simp only [oC_s, oL_s]
        have n2 : ¬ (sI (sI w 13 2) 14 (w.1 10)).1 13 = 0 := by show ¬ (2 : Int32) = 0; decide
        rw [if_neg n2]
        rfl
    · have kk : ∀ i, i < 13 → i ≠ 10 → ¬ nI (21 + i) = (31 : Int32) ∧ ¬ nI (21 + i) = (20 : Int32) ∧ ¬ nI (21 + i) ≤ (16 : Int32) := by decide +kernel
      obtain ⟨q1, q2, q3⟩ := kk i hi c10
      rw [← s2] at q1 q2 q3
      exact nopart q1 q2 (Or.inr q3) (op_other z1 (fun q => absurd q z0) (his q1) d3 (by omega) d5)
  · have z1 : ¬ w.1 11 = 1 := by rw [s1]; decide
    have z0 : ¬ w.1 11 = 0 := by rw [s1]; decide
    have q1 : ¬ z.1 6 = 31 := by rw [s2]; decide
    have q2 : ¬ z.1 6 = 20 := by rw [s2]; decide
    have q3 : ¬ z.1 6 ≤ 16 := by rw [s2]; decide
    exact nopart q1 q2 (Or.inr q3) (op_other z1 (fun q => absurd q z0) (his q1) d3 (by omega) d5)
  · have z1 : ¬ w.1 11 = 1 := by rw [s1]; decide
    have z0 : ¬ w.1 11 = 0 := by rw [s1]; decide
    have q1 : ¬ z.1 6 = 31 := by rw [s2]; decide
    have q2 : ¬ z.1 6 = 20 := by rw [s2]; decide
    have q3 : ¬ z.1 6 ≤ 16 := by rw [s2]; decide
    exact nopart q1 q2 (Or.inr q3) (op_other z1 (fun q => absurd q z0) (his q1) d3 (by omega) d5)
