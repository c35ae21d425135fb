/-! PURE: terms: the steps of a rule -/
theorem p_wrong0 {w : St} (h : w.1 13 = 0) (x : Int32) : f_X12_wrong w x = some (sI (sI w 13 x) 14 (w.1 10)) := by
  unfold f_X12_wrong F_X12_wrong_0
  rw [if_pos h]
  rfl
theorem p_refuse (z : St) (x : Int32) : f_X6_refuse z x = some (0, sI (sI z 2 x) 3 (z.1 7)) := rfl
/-- both have refused, for the same reason at the same place -/
def bad (z w : St) : Prop := ∃ f, 1 ≤ f ∧ f ≤ 3 ∧ z.1 2 = nI f ∧ w.1 13 = nI f ∧ z.1 3 = w.1 14
theorem bad_ne {z w : St} (h : bad z w) : ¬ w.1 13 = 0 := by
  obtain ⟨f, h1, h2, _, h4, _⟩ := h
  rw [h4]
  exact nI_ne0 (by omega) (by omega)
theorem bad_mk {z w : St} {f : Nat} (h1 : 1 ≤ f) (h2 : f ≤ 3) (e : z.1 7 = w.1 10) : bad (sI (sI z 2 (nI f)) 3 (z.1 7)) (sI (sI w 13 (nI f)) 14 (w.1 10)) := ⟨f, h1, h2, rfl, rfl, e⟩
theorem fz_ref (z : St) (x y : Int32) : fzT z (sI (sI z 2 x) 3 y) := fr_I (fr_I fr_0 (by decide)) (by decide)
theorem fw_wr (w : St) (x y : Int32) : fwT w (sI (sI w 13 x) 14 y) := fwT_n (fr_I (fr_I fr_0 (by decide)) (by decide))
theorem L_bad {w : St} (h : ¬ w.1 13 = 0) (k : Nat) (x1 x2 : Int32) : F_X12_expression_14 (k + 1) w x1 x2 = some w := by
  show F_X12_expression_14_b (F_X12_expression_14 k) w x1 x2 = _
  unfold F_X12_expression_14_b F_X12_expression_109
  rw [if_neg h, if_neg h]
/-- a row of the class has refused, and so has the reference's loop -/
def rowF (res : Option (Int32 × St)) (J : Nat) (x1 : Int32) (z w : St) : Prop := ∃ z' w' j, res = some (0, z') ∧ j ≤ J + 3 ∧ (∀ k, F_X12_expression_14 (k + j) w x1 1 = some w') ∧ fzT z z' ∧ fwT w w' ∧ bad z' w'
/-- a token that may stand behind what rank r reads -/
def tokC (r p q : Nat) (z w : St) : Prop := rk1 (z.1 6) ≤ r ∨ (rk1 (z.1 6) = 4 ∧ ∃ i, p ≤ i ∧ i < p + q ∧ bnd (w.2.1 4 i) = 4 ∧ ∀ i', i < i' → i' < p + q → 5 ≤ bnd (w.2.1 4 i'))
/-- a row of rank r was read by both -/
def rowS (res : Option (Int32 × St)) (n a c p o K e r : Nat) (x1 : Int32) (z w : St) : Prop := ∃ z' w' a' c' m' q' j, res = some (1, z') ∧ (c ≤ c' ∧ j + muT n a' (z'.1 6) ≤ muT n a (z.1 6)) ∧ (∀ k, F_X12_expression_14 (k + j) w x1 1 = F_X12_expression_14 k w' 1 1) ∧ fzT z z' ∧ fwT w w' ∧ pR n a' c' m' q' p o K z' w' ∧ wfK (z'.2.1 5) (m' + q') (e + 1) ∧ (∀ i, i < p → w'.2.1 4 i = w.2.1 4 i) ∧ (∀ i, p ≤ i → i < p + q' → r + 1 ≤ bnd (w'.2.1 4 i)) ∧ tokC r p q' z' w'
def rowP (res : Option (Int32 × St)) (n a c p o K e r : Nat) (x1 : Int32) (z w : St) : Prop := rowF res (muT n a (z.1 6)) x1 z w ∨ rowS res n a c p o K e r x1 z w
/-- from where j steps lead -/
theorem rowF_t {res : Option (Int32 × St)} {J J0 j : Nat} {x0 x1 : Int32} {z0 w0 z w : St} (hj : ∀ k, F_X12_expression_14 (k + j) w0 x0 1 = F_X12_expression_14 k w x1 1) (hJ : j + J ≤ J0) (fz : fzT z0 z) (fw : fwT w0 w) (h : rowF res J x1 z w) : rowF res J0 x0 z0 w0 := by
  obtain ⟨z', w', j', h1, h2, h3, h4, h5, h6⟩ := h
  refine ⟨z', w', j' + j, h1, by omega, fun k => ?_, fr_t fz h4, fwT_t fw h5, h6⟩
  rw [← Nat.add_assoc, hj, h3]
theorem rowP_t {res : Option (Int32 × St)} {n a a0 c c0 p o K e r j : Nat} {x0 x1 : Int32} {z0 w0 z w : St} (hj : ∀ k, F_X12_expression_14 (k + j) w0 x0 1 = F_X12_expression_14 k w x1 1) (hJ : j + muT n a (z.1 6) ≤ muT n a0 (z0.1 6)) (hcc : c0 ≤ c) (fz : fzT z0 z) (fw : fwT w0 w) (hb : ∀ i, i < p → w.2.1 4 i = w0.2.1 4 i) (h : rowP res n a c p o K e r x1 z w) : rowP res n a0 c0 p o K e r x0 z0 w0 := by
  rcases h with h | ⟨z', w', a', c', m', q', j', h1, h2, h3, h4, h5, h6, h7, h8, h9, h10⟩
  · exact Or.inl (rowF_t hj hJ fz fw h)
  · refine Or.inr ⟨z', w', a', c', m', q', j' + j, h1, ⟨by omega, by omega⟩, fun k => ?_, fr_t fz h4, fwT_t fw h5, h6, h7, fun i hi => (h8 i hi).trans (hb i hi), h9, h10⟩
    rw [← Nat.add_assoc, hj, h3]
/-- the token in hand is read on, in both -/
theorem pR_adv {n a c m q p o K : Nat} {z w : St} (h : pR n a c m q p o K z w) (ht : z.1 6 ≠ 34) : ∃ z' w' a', f_X6_advance z = some z' ∧ f_X12_next w = some w' ∧ pR n a' c m q p o K z' w' ∧ fzT z z' ∧ fwT w w' ∧ z'.2.1 = z.2.1 ∧ w'.2.1 = w.2.1 ∧ muT n a' (z'.1 6) + 1 ≤ muT n a (z.1 6) := by
  obtain ⟨⟨hr, t1, t2, t3⟩, ⟨c1, c2, c3, c4, c5, c6⟩, ⟨d1, d2, d3, d4, d5⟩, hk1, hk2⟩ := h
  obtain ⟨z', w', a', g1, g2, g3, g4, g5, g6, g7, g8⟩ := p_adv hr ht
  have ez : z'.2.1 = z.2.1 := funext (fun k => g4.2 k List.not_mem_nil)
  have ew : w'.2.1 = w.2.1 := funext (fun k => g5.2 k List.not_mem_nil)
  refine ⟨z', w', a', g1, g2, ⟨⟨g3, g6, g7, ?_⟩, ⟨?_, ?_, c3, c4, c5, c6⟩, ⟨?_, ?_, ?_, ?_, ?_⟩, ?_, ?_⟩, fr_m g4 (by decide) (by decide), fwT_n (fr_m g5 (by decide) (by decide)), ez, ew, g8⟩
  · rw [g4.1 12 (by decide)]; exact t3
  · rw [g4.1 10 (by decide)]; exact c1
  · rw [g5.1 5 (by decide)]; exact c2
  · rw [g4.1 20 (by decide)]; exact d1
  · rw [g5.1 3 (by decide)]; exact d2
  · rw [g5.1 17 (by decide)]; exact d3
  · rw [g5.1 18 (by decide)]; exact d4
  · rw [g5.1 13 (by decide)]; exact d5
  · rw [ez, ew]; exact hk1
  · rw [ez, ew]; exact hk2
/-- of tokens -/
theorem k_pw : ∀ j, j < 20 → rk1 (nI (pmW j)) = (if j = 11 then 1 else if j = 12 then 2 else 0) ∧ (nI (pmW j) = 17 ↔ j = 13) ∧ nI (pmW j) ≠ 20 ∧ nI (pmW j) ≠ 31 ∧ nI (pmW j) ≠ 32 ∧ nI (pmW j) ≠ 33 ∧ nI (pmW j) ≠ 34 ∧ (14 ≤ j → pmW j = j - 3) ∧ (j < 14 → pmW j < 11 ∨ 16 < pmW j) ∧ pmW j < 20 := by decide +kernel
theorem k_sg : ∀ i, i < 13 → rk1 (nI (21 + i)) = bnd (nI (sgV i)) ∧ (i < 10 → 4 ≤ bnd (nI (sgV i)) ∧ nI (sgV i) ≠ 0 ∧ nI (sgV i) ≠ 40 ∧ nI (sgV i) ≠ 41) ∧ (10 ≤ i → bnd (nI (sgV i)) = 0) ∧ (nI (sgV i) = 40 ↔ i = 10) ∧ (nI (sgV i) = 41 ↔ i = 11) ∧ (nI (sgV i) = 59 ↔ i = 12) := by decide +kernel
theorem tok_rk34 {tk nm st vl : Int32} (_h : tokR tk nm st vl) (hr : 1 ≤ rk1 tk) : tk ≠ 34 := by
  intro e
  rw [e] at hr
  exact absurd hr (by decide)
/-- what stands between: the sign, in the reference's way of writing -/
theorem p_between {w : St} {tk nm : Int32} (h : tokR tk nm (w.1 11) (w.1 12)) : ∃ x, f_X12_between w = some (x, w) ∧ ((x = 0 ∧ rk1 tk = 0) ∨ (x ≠ 0 ∧ sgnR tk x ∧ bnd x = rk1 tk ∧ 1 ≤ rk1 tk)) := by
  unfold f_X12_between F_X12_between_0 F_X12_between_38 F_X12_between_82 F_X12_between_83
  simp only [p_bind, oC_s, oL_s]
  rcases h with ⟨s1, j, hj, s2, s3⟩ | ⟨s1, s2, k, _, s3, _⟩ | ⟨s1, i, hi, s2, s3⟩ | ⟨s1, s2⟩ | ⟨s1, s2⟩
  · obtain ⟨k1, _⟩ := k_pw j hj
    rw [s1, s2, if_pos rfl, s3]
    by_cases c1 : j = 11
    · subst c1
      rw [if_pos (show nI 11 = 11 from rfl)]
      exact ⟨262, rfl, Or.inr ⟨by decide, Or.inr (Or.inr (Or.inl ⟨rfl, rfl⟩)), rfl, by decide⟩⟩
    · rw [if_neg (show ¬ nI j = (11 : Int32) from fun q => c1 ((nI_eq (b := 11) (by omega) (by omega)).mp q))]
      by_cases c2 : j = 12
      · subst c2
        rw [if_pos (show nI 12 = 12 from rfl)]
        exact ⟨261, rfl, Or.inr ⟨by decide, Or.inr (Or.inl ⟨rfl, rfl⟩), rfl, by decide⟩⟩
      · rw [if_neg (show ¬ nI j = (12 : Int32) from fun q => c2 ((nI_eq (b := 12) (by omega) (by omega)).mp q))]
        exact ⟨0, rfl, Or.inl ⟨rfl, by rw [k1, if_neg c1, if_neg c2]⟩⟩
  · have n0 : ¬ (1 : Int32) = 0 := by decide
    have n2 : ¬ (1 : Int32) = 2 := by decide
    rw [s1, if_neg n0, if_neg n2, s2]
    exact ⟨0, rfl, Or.inl ⟨rfl, rfl⟩⟩
  · obtain ⟨k1, k2, k3, k4, k5, k6⟩ := k_sg i hi
    have n0 : ¬ (2 : Int32) = 0 := by decide
    rw [s1, if_neg n0, if_pos rfl, s3, s2]
    by_cases c1 : nI (sgV i) = 40
    · rw [if_pos c1]
      exact ⟨0, rfl, Or.inl ⟨rfl, by rw [k1]; exact k3 (by have := k4.mp c1; omega)⟩⟩
    rw [if_neg c1]
    by_cases c2 : nI (sgV i) = 41
    · rw [if_pos c2]
      exact ⟨0, rfl, Or.inl ⟨rfl, by rw [k1]; exact k3 (by have := k5.mp c2; omega)⟩⟩
    rw [if_neg c2]
    have b6 := bnd_le (nI (sgV i))
    by_cases c3 : i < 10
    · obtain ⟨l1, l2, _⟩ := k2 c3
      have q : ¬ nI (bnd (nI (sgV i))) ≤ 0 := nI_ge (a := 0) (by omega) (by omega)
      rw [if_neg q]
      exact ⟨nI (sgV i), rfl, Or.inr ⟨l2, Or.inr (Or.inr (Or.inr ⟨i, c3, rfl, rfl⟩)), k1.symm, by omega⟩⟩
    · have b0 := k3 (by omega)
      rw [if_pos (by rw [b0]; decide)]
      exact ⟨0, rfl, Or.inl ⟨rfl, by omega⟩⟩
  · have n0 : ¬ (3 : Int32) = 0 := by decide
    have n2 : ¬ (3 : Int32) = 2 := by decide
    rw [s1, if_neg n0, if_neg n2, s2]
    exact ⟨0, rfl, Or.inl ⟨rfl, rfl⟩⟩
  · have n0 : ¬ (4 : Int32) = 0 := by decide
    have n2 : ¬ (4 : Int32) = 2 := by decide
    rw [s1, if_neg n0, if_neg n2, s2]
    exact ⟨0, rfl, Or.inl ⟨rfl, rfl⟩⟩
theorem p_isSign {w : St} {tk nm : Int32} {i : Nat} (hi : i < 13) (h : tokR tk nm (w.1 11) (w.1 12)) : f_X12_isSign w (nI (sgV i)) = some (b2 (decide (tk = nI (21 + i))), w) := by
  unfold f_X12_isSign F_X12_isSign_0 F_X12_isSign_20 F_X12_isSign_21
  have kk : ∀ i, i < 13 → ∀ j, j < 13 → (nI (sgV j) = nI (sgV i) ↔ j = i) := by decide +kernel
  have kp : ∀ j, j < 20 → ∀ i, i < 13 → ¬ nI (pmW j) = nI (21 + i) := by decide +kernel
  have k20 : ∀ i, i < 13 → ¬ (20 : Int32) = nI (21 + i) ∧ ¬ (34 : Int32) = nI (21 + i) ∧ ¬ (35 : Int32) = nI (21 + i) := by decide +kernel
  rcases h with ⟨s1, j, hj, s2, s3⟩ | ⟨s1, s2, k, _, s3, _⟩ | ⟨s1, j, hj, s2, s3⟩ | ⟨s1, s2⟩ | ⟨s1, s2⟩
  · have n2 : ¬ (0 : Int32) = 2 := by decide
    rw [s1, if_neg n2, s3, decide_eq_false (kp j hj i hi)]; rfl
  · have n2 : ¬ (1 : Int32) = 2 := by decide
    rw [s1, if_neg n2, s2, decide_eq_false (k20 i hi).1]; rfl
  · rw [s1, if_pos rfl, s3, s2]
    by_cases c : j = i
    · subst c
      rw [if_pos rfl, decide_eq_true rfl]; rfl
    · rw [if_neg (fun q => c ((kk i hi j hj).mp q)), decide_eq_false (fun q => c (by have := (nI_eq (by omega) (by omega)).mp q; omega))]; rfl
  · have n2 : ¬ (3 : Int32) = 2 := by decide
    rw [s1, if_neg n2, s2, decide_eq_false (k20 i hi).2.1]; rfl
  · have n2 : ¬ (4 : Int32) = 2 := by decide
    rw [s1, if_neg n2, s2, decide_eq_false (k20 i hi).2.2]; rfl
/-- a knot is claimed and laid on the pile -/
theorem push_both {n a c m p o K : Nat} {z w : St} {x : Int32} (h : pR n a c m 0 p o K z w) (hc : c < 64) (ht : z.1 6 ≠ 34) : ∃ z' w' a', f_X6_claimKnot z = some (1, z') ∧ f_X12_waits (sI w 5 (nI (c + 1))) x = some w' ∧ pR n a' (c + 1) m 0 (p + 1) o (K + 1) z' w' ∧ fzT z z' ∧ fwT w w' ∧ z'.2.1 = z.2.1 ∧ w'.2.1 4 p = x ∧ (∀ i, i < p → w'.2.1 4 i = w.2.1 4 i) ∧ muT n a' (z'.1 6) + 1 ≤ muT n a (z.1 6) ∧ w'.1 13 = 0 := by
  obtain ⟨⟨⟨r1, r2, r3, r4, r5, r6, r7, r8⟩, t1, t2, t3⟩, ⟨c1, c2, c3, c4, c5, c6⟩, ⟨d1, d2, d3, d4, d5⟩, hk1, hk2⟩ := id h
  have pr : pR n a (c + 1) m 0 (p + 1) o (K + 1) (sI z 10 (nI (c + 1))) (sI (sA (sI w 5 (nI (c + 1))) 4 (upd (w.2.1 4) p x)) 17 (nI (p + 1))) := by
    refine ⟨⟨⟨r1, r2, r3, r4, r5, r6, r7, r8⟩, t1, t2, t3⟩, ⟨rfl, rfl, by omega, by omega, by omega, c6⟩, ⟨d1, d2, rfl, d4, d5⟩, ?_, fun i hi => absurd hi (Nat.not_lt_zero i)⟩
    intro i hi
    exact hk1 i hi
  obtain ⟨z', w', a', g1, g2, g3, g4, g5, g6, g7, g8⟩ := pR_adv pr ht
  refine ⟨z', w', a', ?_, ?_, g3, fr_t (fr_I fr_0 (by decide)) g4, fwT_t (fwT_n (fr_I (fr_A (fr_I fr_0 (by decide)) (by decide)) (by decide))) g5, g6, ?_, ?_, g8, ?_⟩
  · unfold f_X6_claimKnot F_X6_claimKnot_0
    have q : nI c < (64 : Int32) := nI_lt (b := 64) hc (by omega)
    rw [c1, if_pos q, nI_1]
    simp only [oL_s]
    rw [g1]
    rfl
  · unfold f_X12_waits F_X12_waits_0
    have e17 : (sI w 5 (nI (c + 1))).1 17 = nI p := by rw [show (sI w 5 (nI (c + 1))).1 17 = w.1 17 from rfl, d3]; rfl
    rw [e17, oA_in _ (vp_in_nI (by omega) (by omega)), nI_clamp (by omega)]
    simp only [oL_s]
    have e17' : (sA (sI w 5 (nI (c + 1))) 4 (upd ((sI w 5 (nI (c + 1))).2.1 4) p x)).1 17 = nI p := e17
    rw [e17', nI_1]
    have g2' : f_X12_next (sI (sA (sI w 5 (nI (c + 1))) 4 (upd ((sI w 5 (nI (c + 1))).2.1 4) p x)) 17 (nI (p + 1))) = some w' := g2
    rw [g2']
    rfl
  · rw [g7]
    show upd (w.2.1 4) p x p = x
    rw [upd_i, if_pos rfl]
  · intro i hi
    rw [g7]
    show upd (w.2.1 4) p x i = _
    rw [upd_i, if_neg (by omega)]
  · exact g3.2.2.1.2.2.2.2
/-- no knot is left -/
theorem full_both {z w : St} {c : Nat} (hc : c = 64) (e10 : z.1 10 = nI c) (e5 : w.1 5 = nI c) (h13 : w.1 13 = 0) : f_X6_claimKnot z = some (0, sI (sI z 2 2) 3 (z.1 7)) ∧ f_X12_knot w = some (sI (sI w 13 2) 14 (w.1 10)) := by
  subst hc
  constructor
  · unfold f_X6_claimKnot F_X6_claimKnot_0
    have q : ¬ nI 64 < (64 : Int32) := by decide
    rw [e10, if_neg q, p_refuse]
    rfl
  · unfold f_X12_knot F_X12_knot_0 F_X12_knot_27
    rw [e5, if_pos (show nI 64 = 64 from rfl), p_wrong0 h13]
    rfl
theorem p_knot {w : St} {c : Nat} (hc : c < 64) (e5 : w.1 5 = nI c) : f_X12_knot w = some (sI w 5 (nI (c + 1))) := by
  unfold f_X12_knot F_X12_knot_0 F_X12_knot_27
  rw [e5, if_neg (show ¬ nI c = (64 : Int32) from fun q => by have := (nI_eq (b := 64) (by omega) (by omega)).mp q; omega), nI_1]
  rfl
/-- a sign between, that may stand there -/
theorem sg_step {n a c m q p o K r : Nat} {z w : St} (h : pR n a c m q p o K z w) (hr : rk1 (z.1 6) = r + 1) (hpend : ∀ i, p ≤ i → i < p + q → (if r = 3 then 5 else r + 1) ≤ bnd (w.2.1 4 i)) (htop : 0 < p → bnd (w.2.1 4 (p - 1)) ≤ r) :
    (∃ z' w', f_X6_claimKnot z = some (0, z') ∧ (∀ k, F_X12_expression_14 (k + 2) w 1 1 = some w') ∧ fzT z z' ∧ fwT w w' ∧ bad z' w') ∨
    (∃ z' w' a' x, f_X6_claimKnot z = some (1, z') ∧ (∀ k, F_X12_expression_14 (k + 1) w 1 1 = F_X12_expression_14 k w' 0 1) ∧ fzT z z' ∧ fwT w w' ∧ pR n a' (c + 1) (m + q) 0 (p + 1) o (K + 1) z' w' ∧ z'.2.1 = z.2.1 ∧ w'.2.1 4 p = x ∧ sgnR (z.1 6) x ∧ bnd x = r + 1 ∧ (∀ i, i < p → w'.2.1 4 i = w.2.1 4 i) ∧ muT n a' (z'.1 6) + 1 ≤ muT n a (z.1 6)) := by
  obtain ⟨⟨hr0, t1, t2, t3⟩, ⟨c1, c2, c3, c4, c5, c6⟩, ⟨d1, d2, d3, d4, d5⟩, hk1, hk2⟩ := id h
  obtain ⟨x, hx, hx2⟩ := p_between t1
  rcases hx2 with ⟨_, e0⟩ | ⟨xn, xs, xb, _⟩
  · rw [e0] at hr; omega
  have hr6 := rk1_le (z.1 6)
  have ht : z.1 6 ≠ 34 := tok_rk34 t1 (by omega)
  -- the pouring
  obtain ⟨w1, p1, p2, p3, p4⟩ := p_pour (n := n) (a := a) (c := c) (q1 := 0) (p := p) (o := o) (K := K) (z := z) (l := if r = 3 then 5 else r + 1) (by split <;> omega) (by split <;> omega) q m w 100000 (by rw [Nat.zero_add]; exact h) (fun hp => by
    have := htop (by omega)
    rw [Nat.add_zero]
    split <;> omega) (fun i h1 h2 => hpend i (by omega) (by omega)) (by omega)
  have e13 : w1.1 13 = 0 := p2.2.2.1.2.2.2.2
  have e5 : w1.1 5 = nI c := p2.2.1.2.1
  have e17 : w1.1 17 = nI p := p2.2.2.1.2.2.1
  have e10 : z.1 7 = w1.1 10 := p2.1.2.2.1
  have sgn : f_X12_sign w x = F_X12_sign_54 w1 x := by
    unfold f_X12_sign F_X12_sign_0
    rw [p_bind, xb, hr]
    simp only [oC_s, oL_s]
    by_cases c4' : r = 3
    · subst c4'
      rw [if_pos (show nI (3 + 1) = 4 from rfl)]
      have p1' : f_X12_pour w 5 = some w1 := p1
      rw [p1']
      simp only [oC_s, oL_s, e17]
      by_cases cp : p = 0
      · rw [if_pos (by rw [cp]; decide)]
      · have q0 : ¬ nI p ≤ 0 := nI_ge (a := 0) (by omega) (by omega)
        have e1 : nI p - (1 : Int32) = nI (p - 1) := nI_sub (b := 1) (by omega)
        rw [if_neg q0, e1, oA_in _ (vp_in_nI (by omega) (by omega)), nI_clamp (by omega), p4, p_bind]
        have ht' := htop (by omega)
        simp only [oC_s, oL_s]
        rw [if_neg (show ¬ nI (bnd (w.2.1 4 (p - 1))) = (4 : Int32) from fun e => by have := (nI_eq (b := 4) (by omega) (by omega)).mp e; omega)]
    · rw [if_neg (show ¬ nI (r + 1) = (4 : Int32) from fun e => c4' (by have := (nI_eq (b := 4) (by omega) (by omega)).mp e; omega)), p_bind, xb, hr]
      simp only [oC_s, oL_s]
      rw [if_neg c4'] at p1
      have p1' : f_X12_pour w (nI (r + 1)) = some w1 := p1
      rw [p1']
      simp only [oC_s, oL_s]
  have step : ∀ k, F_X12_expression_14 (k + 1) w 1 1 = oC (F_X12_sign_54 w1 x) fun s => F_X12_expression_14 k s 0 1 := by
    intro k
    show F_X12_expression_14_b (F_X12_expression_14 k) w 1 1 = _
    unfold F_X12_expression_14_b F_X12_expression_106
    have n1 : ¬ (1 : Int32) = 0 := by decide
    rw [if_pos d5, if_neg n1, if_neg n1, hx]
    simp only [oC_s, oL_s]
    rw [if_neg xn, sgn]
  by_cases hc : c = 64
  · left
    obtain ⟨f1, f2⟩ := full_both hc c1 e5 e13
    have e54 : F_X12_sign_54 w1 x = some (sI (sI w1 13 2) 14 (w1.1 10)) := by
      unfold F_X12_sign_54 F_X12_sign_65 F_X12_sign_77
      rw [if_pos e13, f2]
      simp only [oC_s, oL_s]
      have n2 : ¬ (sI (sI w1 13 2) 14 (w1.1 10)).1 13 = 0 := by show ¬ (2 : Int32) = 0; decide
      rw [if_neg n2]
    have hbad : bad (sI (sI z 2 2) 3 (z.1 7)) (sI (sI w1 13 2) 14 (w1.1 10)) := bad_mk (f := 2) (by omega) (by omega) e10
    refine ⟨_, _, f1, fun k => ?_, fz_ref z _ _, fwT_t p3 (fw_wr w1 _ _), hbad⟩
    rw [show k + 2 = k + 1 + 1 from rfl, step (k + 1), e54, oC_s]
    exact L_bad (bad_ne hbad) k 0 1
  · right
    obtain ⟨z', w', a', g1, g2, g3, g4, g5, g6, g7, g8, g9, g10⟩ := push_both (x := x) p2 (by omega) ht
    refine ⟨z', w', a', x, g1, fun k => ?_, g4, fwT_t p3 g5, g3, g6, g7, xs, by omega, fun i hi => by rw [g8 i hi, p4], g9⟩
    rw [step k]
    unfold F_X12_sign_54 F_X12_sign_65 F_X12_sign_77
    rw [if_pos e13, p_knot (by omega) e5]
    simp only [oC_s, oL_s]
    have e13' : (sI w1 5 (nI (c + 1))).1 13 = 0 := e13
    rw [if_pos e13', g2]
    simp only [oC_s]
/-- a comparison where one stands already -/
theorem cmp_bad {n a c m q p o K : Nat} {z w : St} (h : pR n a c m q p o K z w) (hr : rk1 (z.1 6) = 4) (hs : ∃ i, p ≤ i ∧ i < p + q ∧ bnd (w.2.1 4 i) = 4 ∧ ∀ i', i < i' → i' < p + q → 5 ≤ bnd (w.2.1 4 i')) : ∃ w', (∀ k, F_X12_expression_14 (k + 2) w 1 1 = some w') ∧ fwT w w' ∧ bad (sI (sI z 2 1) 3 (z.1 7)) w' := by
  obtain ⟨⟨hr0, t1, t2, t3⟩, ⟨c1, c2, c3, c4, c5, c6⟩, ⟨d1, d2, d3, d4, d5⟩, hk1, hk2⟩ := id h
  obtain ⟨x, hx, hx2⟩ := p_between t1
  rcases hx2 with ⟨_, e0⟩ | ⟨xn, xs, xb, _⟩
  · rw [e0] at hr; omega
  obtain ⟨i, i1, i2, i3, i4⟩ := hs
  obtain ⟨w1, p1, p2, p3, p4⟩ := p_pour (n := n) (a := a) (c := c) (q1 := i + 1 - p) (p := p) (o := o) (K := K) (z := z) (l := 5) (by omega) (by omega) (p + q - (i + 1)) m w 100000 (by rw [show i + 1 - p + (p + q - (i + 1)) = q by omega]; exact h) (fun hp => by
    rw [show p + (i + 1 - p) - 1 = i by omega, i3]; omega) (fun i' h1 h2 => i4 i' (by omega) (by omega)) (by omega)
  have e13 : w1.1 13 = 0 := p2.2.2.1.2.2.2.2
  have e17 : w1.1 17 = nI (i + 1) := by rw [p2.2.2.1.2.2.1]; congr 1; omega
  have e10 : z.1 7 = w1.1 10 := p2.1.2.2.1
  have sgn : f_X12_sign w x = some (sI (sI w1 13 1) 14 (w1.1 10)) := by
    unfold f_X12_sign F_X12_sign_0 F_X12_sign_54 F_X12_sign_65 F_X12_sign_77
    rw [p_bind, xb, hr]
    simp only [oC_s, oL_s]
    have p1' : f_X12_pour w 5 = some w1 := p1
    rw [if_pos (show nI 4 = 4 from rfl), p1']
    simp only [oC_s, oL_s, e17]
    have q0 : ¬ nI (i + 1) ≤ 0 := nI_ge (a := 0) (by omega) (by omega)
    have e1 : nI (i + 1) - (1 : Int32) = nI i := nI_sub (b := 1) (by omega)
    rw [if_neg q0, e1, oA_in _ (vp_in_nI (by omega) (by omega)), nI_clamp (by omega), p4, p_bind, i3]
    simp only [oC_s, oL_s]
    rw [if_pos (show nI 4 = 4 from rfl), p_wrong0 e13]
    simp only [oC_s, oL_s]
    have n1 : ¬ (sI (sI w1 13 1) 14 (w1.1 10)).1 13 = 0 := by show ¬ (1 : Int32) = 0; decide
    rw [if_neg n1, if_neg n1]
  have hbad : bad (sI (sI z 2 1) 3 (z.1 7)) (sI (sI w1 13 1) 14 (w1.1 10)) := bad_mk (f := 1) (by omega) (by omega) e10
  refine ⟨_, fun k => ?_, fwT_t p3 (fw_wr w1 _ _), hbad⟩
  rw [show k + 2 = k + 1 + 1 from rfl]
  show F_X12_expression_14_b (F_X12_expression_14 (k + 1)) w 1 1 = _
  unfold F_X12_expression_14_b F_X12_expression_106
  have n1 : ¬ (1 : Int32) = 0 := by decide
  rw [if_pos d5, if_neg n1, if_neg n1, hx]
  simp only [oC_s, oL_s]
  rw [if_neg xn, sgn]
  simp only [oC_s]
  exact L_bad (bad_ne hbad) k 0 1
/-- the class lets out a knot that still lies on the pile -/
theorem em_pend {n a c m q p o K d : Nat} {z w : St} {k : Int32} (h : pR n a c m q (p + 1) o (K + 1) z w) (hs : sgnR k (w.2.1 4 p)) (hp : p ≤ K + o) (hw : wfK (z.2.1 5) (m + q) d) (ha : arF k ≤ d) : ∃ z', f_X6_emit z k 0 = some z' ∧ pR n a c m (q + 1) p o K z' w ∧ fzT z z' ∧ z'.1 6 = z.1 6 ∧ wfK (z'.2.1 5) (m + (q + 1)) (d - arF k + 1) := by
  obtain ⟨⟨⟨r1, r2, r3, r4, r5, r6, r7, r8⟩, t1, t2, t3⟩, ⟨c1, c2, c3, c4, c5, c6⟩, ⟨d1, d2, d3, d4, d5⟩, hk1, hk2⟩ := id h
  refine ⟨_, p_emit (M := m + q) (by omega) t3 d1 k 0, ?_, fr_I (fr_A (fr_A fr_0 (by decide)) (by decide)) (by decide), rfl, ?_⟩
  · refine ⟨⟨⟨r1, r2, r3, r4, r5, r6, r7, r8⟩, t1, t2, t3⟩, ⟨c1, c2, c3, by omega, hp, c6⟩, ⟨rfl, d2, ?_, d4, d5⟩, ?_, ?_⟩
    · rw [d3]; congr 1; omega
    · intro i hi
      have := hk1 i hi
      show ∃ t, knotR (upd (z.2.1 5) (m + q) k i) (upd (z.2.1 6) (m + q) 0 i) _ _ t
      rw [upd_i, if_neg (by omega), upd_i, if_neg (by omega)]
      exact this
    · intro i hi
      show sgnR (upd (z.2.1 5) (m + q) k (m + i)) (w.2.1 4 (p + (q + 1) - 1 - i))
      rw [upd_i]
      by_cases ei : i = q
      · rw [if_pos (by omega), show p + (q + 1) - 1 - i = p by omega]; exact hs
      · rw [if_neg (by omega)]
        have := hk2 i (by omega)
        rw [show p + 1 + q - 1 - i = p + (q + 1) - 1 - i by omega] at this
        exact this
  · show wfK (upd (z.2.1 5) (m + q) k) (m + q + 1) _
    refine ⟨d, wfK_cong (fun i hi => by rw [upd_i, if_neg (by omega)]) hw, ?_, ?_⟩
    · rw [upd_i, if_pos rfl]; exact ha
    · rw [upd_i, if_pos rfl]
