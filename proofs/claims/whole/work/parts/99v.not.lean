/-! PURE: terms: not, and parts -/
theorem op_pre {w : St} {k : Nat} (h13 : w.1 13 = 0) : F_X12_expression_14 (k + 1) w 0 1 = oC (f_X12_operand w) fun v => F_X12_expression_14 k v.2 v.1 1 := by
  show F_X12_expression_14_b (F_X12_expression_14 k) w 0 1 = _
  unfold F_X12_expression_14_b
  have n1 : ¬ (1 : Int32) = 0 := by decide
  rw [if_pos h13, if_neg n1, if_pos rfl]
  rfl
/-- the operand is refused -/
theorem opd_bad {z w : St} {J : Nat} {f : Nat} {g : Option (Int32 × St)} (h13 : w.1 13 = 0) (ho : f_X12_operand w = some (0, sI (sI w 13 (nI f)) 14 (w.1 10))) (hf : 1 ≤ f) (hf3 : f ≤ 3) (hp : z.1 7 = w.1 10) (hg : g = some (0, sI (sI z 2 (nI f)) 3 (z.1 7))) : rowF g J 0 z w := by
  have hb : bad (sI (sI z 2 (nI f)) 3 (z.1 7)) (sI (sI w 13 (nI f)) 14 (w.1 10)) := bad_mk hf hf3 hp
  refine ⟨_, _, 2, hg, by omega, fun k => ?_, fz_ref z _ _, fw_wr w _ _, hb⟩
  rw [show k + 2 = k + 1 + 1 from rfl, op_pre h13, ho, oC_s]
  exact L_bad (bad_ne hb) k 0 1
/-- NOT: the reference's operand -/
theorem op_not {w : St} {nm : Int32} {p : Nat} (h : tokR 17 nm (w.1 11) (w.1 12)) (e17 : w.1 17 = nI p) (hp : p ≤ 90) (h13 : w.1 13 = 0) : f_X12_operand w = if 0 < p ∧ 4 ≤ bnd (w.2.1 4 (p - 1)) then some (0, sI (sI w 13 1) 14 (w.1 10)) else oC (f_X12_knot w) fun s => if s.1 13 = 0 then oC (f_X12_waits s 260) fun t => some (0, t) else some (0, s) := by
  have h11 : w.1 11 = 0 ∧ w.1 12 = 13 := by
    rcases h with ⟨s1, j, hj, s2, s3⟩ | ⟨s1, s2, k, _, s3, _⟩ | ⟨s1, j, hj, s2, s3⟩ | ⟨s1, s2⟩ | ⟨s1, s2⟩
    · have := ((k_pw j hj).2.1).mp s3.symm
      subst this
      exact ⟨s1, s2⟩
    · exact absurd s2 (by decide)
    · have kk : ∀ i, i < 13 → ¬ (17 : Int32) = nI (21 + i) := by decide +kernel
      exact absurd s2 (kk j hj)
    · exact absurd s2 (by decide)
    · exact absurd s2 (by decide)
  have zz : ∀ s : St, (oC (some ((0 : Int32), s)) fun w => oZ w.1 (some w)) = some (0, s) := fun s => rfl
  have fin : (oC (oC (f_X12_knot w) fun s => if s.1 13 = 0 then oC (f_X12_waits s 260) fun t => some ((0 : Int32), t) else some (0, s)) fun w => oZ w.1 (some w)) = oC (f_X12_knot w) fun s => if s.1 13 = 0 then oC (f_X12_waits s 260) fun t => some (0, t) else some (0, s) := by
    cases f_X12_knot w with
    | none => rfl
    | some s =>
      rw [oC_s]
      by_cases c : s.1 13 = 0
      · rw [if_pos c]
        cases f_X12_waits s 260 with
        | none => rfl
        | some t => rfl
      · rw [if_neg c]; rfl
  have n1 : ¬ (0 : Int32) = 1 := by decide
  have q14 : (13 : Int32) < 14 := by decide
  have is : f_X12_isSign w 40 = some (0, w) := by
    have := p_isSign (i := 10) (by omega) h
    rw [decide_eq_false (by decide)] at this
    exact this
  unfold f_X12_operand F_X12_operand_0 F_X12_operand_105 F_X12_operand_180 F_X12_operand_185 F_X12_operand_206 F_X12_operand_231
  rw [h11.1, if_neg n1, if_pos rfl, h11.2, if_pos q14, is]
  have n10 : ¬ (1 : Int32) = 0 := by decide
  simp only [oC_s, oL_s, h11.1, h11.2, n10, ↓reduceIte]
  rw [e17]
  by_cases cp : p = 0
  · rw [if_pos (by rw [cp]; rfl), if_neg (fun q => by omega)]
    exact fin
  · have e1 : nI p - (1 : Int32) = nI (p - 1) := nI_sub (b := 1) (by omega)
    have b6 := bnd_le (w.2.1 4 (p - 1))
    rw [if_neg (nI_ne0 (by omega) (by omega)), e1, oA_in _ (vp_in_nI (by omega) (by omega)), nI_clamp (by omega), p_bind]
    simp only [oC_s, oL_s]
    by_cases cb : 4 ≤ bnd (w.2.1 4 (p - 1))
    · rw [if_pos (show (4 : Int32) ≤ nI (bnd (w.2.1 4 (p - 1))) from nI_le (a := 4) cb (by omega)), if_pos h11.1, if_pos h11.2, p_wrong0 h13, if_pos (show 0 < p ∧ 4 ≤ bnd (w.2.1 4 (p - 1)) from ⟨by omega, cb⟩)]
      rfl
    · rw [if_neg (show ¬ (4 : Int32) ≤ nI (bnd (w.2.1 4 (p - 1))) from nI_ge (b := 4) (by omega) (by omega)), if_pos h11.1, if_pos h11.2, if_neg (show ¬ (0 < p ∧ 4 ≤ bnd (w.2.1 4 (p - 1))) from fun q => cb q.2)]
      exact fin
theorem neg_emit {me : St → Int32 → Int32 → Option (Int32 × St)} {n a c m o d p K t : Nat} {w : St} (ht : t ≤ 64) (h260 : ∀ i, p ≤ i → i < p + t → w.2.1 4 i = 260) (hpK : p ≤ K + o) (hd : 1 ≤ d) : ∀ k i q z, t - i < k → i ≤ t → pR n a c m q (p + (t - i)) o (K + (t - i)) z w → wfK (z.2.1 5) (m + q) d → ∃ z', F_X6_negated_45 me k z (nI t) (nI i) = some (1, z') ∧ pR n a c m (q + (t - i)) p o K z' w ∧ fzT z z' ∧ z'.1 6 = z.1 6 ∧ wfK (z'.2.1 5) (m + (q + (t - i))) d := by
  intro k
  induction k with
  | zero => intro i q z h; omega
  | succ k ih =>
    intro i q z hk hi h hw
    show ∃ z', F_X6_negated_45_b me (F_X6_negated_45 me k) z (nI t) (nI i) = _ ∧ _
    unfold F_X6_negated_45_b
    by_cases ci : i = t
    · subst ci
      rw [if_pos (Int32.le_refl _)]
      rw [Nat.sub_self] at h ⊢
      exact ⟨z, rfl, h, fr_0, rfl, hw⟩
    · rw [if_neg (nI_ge (show i < t by omega) (by omega))]
      have e1 : t - i = (t - (i + 1)) + 1 := by omega
      rw [e1] at h
      obtain ⟨z1, g1, g2, g3, g4, g5⟩ := em_pend (k := 17) (p := p + (t - (i + 1))) (K := K + (t - (i + 1))) h (Or.inl ⟨rfl, h260 _ (by omega) (by omega)⟩) (by omega) hw (show arF 17 ≤ d from hd)
      rw [g1]
      simp only [oC_s, oL_s, nI_1]
      have hw1 : wfK (z1.2.1 5) (m + (q + 1)) d := by
        have ea : d - arF 17 + 1 = d := by show d - 1 + 1 = d; omega
        rw [ea] at g5; exact g5
      obtain ⟨z', k1, k2, k3, k4, k5⟩ := ih (i + 1) (q + 1) z1 (by omega) (by omega) g2 hw1
      refine ⟨z', k1, ?_, fr_t g3 k3, k4.trans g4, ?_⟩
      · rw [show q + (t - i) = q + 1 + (t - (i + 1)) by omega]; exact k2
      · rw [show q + (t - i) = q + 1 + (t - (i + 1)) by omega]; exact k5
theorem row_not {me : St → Int32 → Int32 → Option (Int32 × St)} {n o p K e m : Nat} (hpK : p ≤ K + o) (h3 : RowOK me 3 o) : ∀ k t a c z w, 65 - t < k → t ≤ 64 → pR n a c m 0 (p + t) o (K + t) z w → wfK (z.2.1 5) m e → (∀ i, p ≤ i → i < p + t → w.2.1 4 i = 260) → (0 < p → bnd (w.2.1 4 (p - 1)) ≤ 2) → rowP (F_X6_negated_2 me k z (nI o) (nI t)) n a c p o K e 2 0 z w := by
  intro k
  induction k with
  | zero => intro t a c z w h; omega
  | succ k ih =>
    intro t a c z w hk ht h hw h260 htop
    obtain ⟨⟨hr0, t1, t2, t3⟩, ⟨c1, c2, c3, c4, c5, c6⟩, ⟨d1, d2, d3, d4, d5⟩, hk1, hk2⟩ := id h
    have btop : 0 < p + t → bnd (w.2.1 4 (p + t - 1)) ≤ 3 := by
      intro hp
      by_cases ct : t = 0
      · subst ct
        have := htop (by omega)
        rw [Nat.add_zero]; omega
      · rw [h260 (p + t - 1) (by omega) (by omega)]; decide
    have n1 : ¬ (1 : Int32) = 0 := by decide
    show rowP (F_X6_negated_2_b me (F_X6_negated_2 me k) z (nI o) (nI t)) n a c p o K e 2 0 z w
    unfold F_X6_negated_2_b F_X6_negated_32
    have q64 : ¬ (64 : Int32) < nI t := nI_nlt (a := 64) ht (by omega)
    rw [if_neg q64]
    by_cases tk : z.1 6 = 17
    · rw [if_pos tk]
      have t1' : tokR 17 (z.1 8) (w.1 11) (w.1 12) := by rw [← tk]; exact t1
      have ho := op_not t1' d3 (by omega) d5
      rw [if_neg (fun q => by have := btop q.1; have := q.2; rw [Nat.add_zero] at this; omega)] at ho
      by_cases hc : c = 64
      · obtain ⟨f1, f2⟩ := full_both hc c1 c2 d5
        rw [f1]
        simp only [oC_s, oL_s, ↓reduceIte]
        rw [f2, oC_s] at ho
        have n2 : ¬ (sI (sI w 13 2) 14 (w.1 10)).1 13 = 0 := by show ¬ (2 : Int32) = 0; decide
        rw [if_neg n2] at ho
        exact Or.inl (opd_bad (f := 2) d5 ho (by omega) (by omega) t2 rfl)
      · obtain ⟨z', w', a', g1, g2, g3, g4, g5, g6, g7, g8, g9, g10⟩ := push_both (x := 260) h (by omega) (by rw [tk]; decide)
        rw [g1]
        simp only [oC_s, oL_s, n1, ↓reduceIte, nI_1]
        rw [p_knot (by omega) c2, oC_s] at ho
        have e13' : (sI w 5 (nI (c + 1))).1 13 = 0 := d5
        rw [if_pos e13', g2, oC_s] at ho
        have hc3 := g3.2.1.2.2.1
        have hc4 := g3.2.1.2.2.2.1
        have nx := ih (t + 1) a' (c + 1) z' w' (by omega) (by omega) g3 (by rw [g6]; exact hw) (fun i i1 i2 => by
          by_cases ei : i = p + t
          · rw [ei]; exact g7
          · rw [g8 i (by omega)]; exact h260 i i1 (by omega)) (fun hp => by rw [g8 (p - 1) (by omega)]; exact htop hp)
        refine rowP_t (j := 1) (fun k => ?_) (by omega) (by omega) g4 g5 (fun i hi => g8 i (by omega)) nx
        rw [op_pre d5, ho, oC_s]
    · rw [if_neg tk]
      have inner : rowP (me z 3 (nI o)) n a c (p + t) o (K + t) e 3 0 z w := h3 n a c m (p + t) (K + t) e z w h hw btop (fun _ => Or.inl tk)
      rcases inner with hf | ⟨z2, w2, a2, c2', m2, q2, j2, f1, ⟨f2, f2'⟩, f3, f4, f5, f6, f7, f8, f9, f10⟩
      · obtain ⟨z', w', j, e1, e2⟩ := hf
        rw [e1]
        simp only [oC_s, oL_s, ↓reduceIte]
        exact Or.inl ⟨z', w', j, rfl, e2⟩
      · rw [f1]
        simp only [oC_s, oL_s, n1, ↓reduceIte]
        have h260' : ∀ i, p ≤ i → i < p + t → w2.2.1 4 i = 260 := fun i i1 i2 => by rw [f8 i i2]; exact h260 i i1 i2
        obtain ⟨z3, k1, k2, k3, k4, k5⟩ := neg_emit (me := me) ht h260' hpK (show 1 ≤ e + 1 by omega) 100000 0 q2 z2 (by omega) (Nat.zero_le _) (by rw [Nat.sub_zero]; exact f6) f7
        rw [Nat.sub_zero] at k2 k5
        refine Or.inr ⟨z3, w2, a2, c2', m2, q2 + t, j2, k1, ⟨f2, by rw [k4]; exact f2'⟩, f3, fr_t f4 k3, f5, k2, k5, fun i hi => f8 i (by omega), fun i i1 i2 => ?_, ?_⟩
        · by_cases ci : i < p + t
          · rw [h260' i i1 ci]; decide
          · have := f9 i (by omega) (by omega)
            omega
        · rcases f10 with l | ⟨l1, i', l2, l3, l4, l5⟩
          · have := rk_n3 (z2.1 6)
            exact Or.inl (by rw [k4]; omega)
          · exact Or.inr ⟨by rw [k4]; exact l1, i', by omega, by omega, l4, fun u u1 u2 => l5 u u1 (by omega)⟩
