/-! PURE: another land, a village told -/
/-- as oL_eq, oC_s, but no 'rfl' in simp's eyes: else the kernel has to see through a loop's fuel -/
theorem oL_s {α R : Type} (x : α) (k : α → Option R) : oL x k = k x := congrFun (congrFun (show @oL α R = fun x k => k x from rfl) x) k
theorem oC_s {α R : Type} (y : α) (k : α → Option R) : oC (some y) k = k y := congrFun (show (fun k : α → Option R => oC (some y) k) = fun k => k y from rfl) k
def laysP (w : St) (W H : Nat) (w' : St) : Prop := fr [22, 23, 24, 25, 26, 27] [7, 8, 9] w w' ∧ w'.1 22 = nI W ∧ w'.1 23 = nI H ∧ w'.1 24 = 0 ∧ w'.1 25 = 0 ∧ w'.1 26 = 0 ∧ w'.1 27 = 0 ∧ ∀ v, v < 25 → w'.2.1 7 v = 0 ∧ w'.2.1 8 v = -1 ∧ w'.2.1 9 v = 0
theorem p_lays (w : St) (W H : Nat) : ∃ w', f_X12_lays w (nI W) (nI H) = some w' ∧ laysP w W H w' := by
  unfold f_X12_lays F_X12_lays_0
  simp only [oL_s]
  refine loop_i (fun n i (s : St) => ∃ w', F_X12_lays_32 n s (nI i) = some w' ∧ laysP w W H w') (fun i s => fr [22, 23, 24, 25, 26, 27] [7, 8, 9] w s ∧ s.1 22 = nI W ∧ s.1 23 = nI H ∧ s.1 24 = 0 ∧ s.1 25 = 0 ∧ s.1 26 = 0 ∧ s.1 27 = 0 ∧ ∀ v, v < i → s.2.1 7 v = 0 ∧ s.2.1 8 v = -1 ∧ s.2.1 9 v = 0) 25 ?_ ?_ 100000 0 _ (Nat.zero_le _) (by omega) ?_
  · rintro n s hI
    refine ⟨s, ?_, hI⟩
    show F_X12_lays_32_b _ s (nI 25) = _
    unfold F_X12_lays_32_b
    have q : (25 : Int32) ≤ nI 25 := Int32.le_refl _
    rw [if_pos q]
  · rintro n i s hi ⟨f, a1, a2, a3, a4, a5, a6, a7⟩ K
    have q : ¬ (25 : Int32) ≤ nI i := nI_ge (b := 25) hi (by omega)
    have hin : vp_in (nI i) 25 := vp_in_nI hi (by omega)
    show ∃ w', F_X12_lays_32_b (F_X12_lays_32 n) s (nI i) = some w' ∧ _
    unfold F_X12_lays_32_b
    rw [if_neg q]
    simp only [oL_s, oA_in _ hin, nI_clamp (show i < 2 ^ 31 by omega), nI_1, vb0]
    refine K _ ⟨fr_A (fr_A (fr_A f (by decide)) (by decide)) (by decide), a1, a2, a3, a4, a5, a6, ?_⟩
    intro v hv
    show upd (s.2.1 7) i 0 v = 0 ∧ upd (s.2.1 8) i (-1) v = -1 ∧ upd (s.2.1 9) i 0 v = 0
    by_cases e : v = i
    · subst e; rw [pk_us, pk_us, pk_us]; exact ⟨rfl, rfl, rfl⟩
    · rw [pk_un e, pk_un e, pk_un e]; exact a7 v (by omega)
  · exact ⟨fr_I (fr_I (fr_I (fr_I (fr_I (fr_I fr_0 (by decide)) (by decide)) (by decide)) (by decide)) (by decide)) (by decide), rfl, rfl, rfl, rfl, rfl, rfl, fun v hv => absurd hv (Nat.not_lt_zero v)⟩
theorem q_land {z w : St} (h : Inv z w) (x1 x2 : Int32) : Ok (f_X11_land z x1 x2) (f_X12_land w x1 x2) := by
  have h' := h
  obtain ⟨W0, H0, hDy, hL, hV, hC, hN, hE, hD, hK, hT, hF, hR⟩ := h
  unfold f_X11_land F_X11_land_0 F_X11_land_20 f_X12_land F_X12_land_0 F_X12_land_25
  simp only [oL_s]
  by_cases a1 : x1 < (2 : Int32)
  · rw [if_pos a1, if_pos a1]; exact ⟨0, _, _, rfl, rfl, Inv_0 h'⟩
  rw [if_neg a1, if_neg a1]
  by_cases a2 : (5 : Int32) < x1
  · rw [if_pos a2, if_pos a2]; exact ⟨0, _, _, rfl, rfl, Inv_0 h'⟩
  rw [if_neg a2, if_neg a2]
  by_cases a3 : x2 < (2 : Int32)
  · rw [if_pos a3, if_pos a3]; exact ⟨0, _, _, rfl, rfl, Inv_0 h'⟩
  rw [if_neg a3, if_neg a3]
  by_cases a4 : x2 ≤ (5 : Int32)
  · rw [if_pos a4, if_pos a4]
    have n1 : ¬ x1 < 0 := fun q => a1 (Int32.lt_trans q (by decide))
    have n2 : ¬ x2 < 0 := fun q => a3 (Int32.lt_trans q (by decide))
    obtain ⟨W, hW, rfl⟩ := nI_of n1
    obtain ⟨H, hH, rfl⟩ := nI_of n2
    have w2 : 2 ≤ W := by rcases Nat.lt_or_ge W 2 with q | q; exact absurd (nI_lt q (by omega)) a1; exact q
    have w5 : W ≤ 5 := by rcases Nat.lt_or_ge 5 W with q | q; exact absurd (nI_lt q hW) a2; exact q
    have h2 : 2 ≤ H := by rcases Nat.lt_or_ge H 2 with q | q; exact absurd (nI_lt q (by omega)) a3; exact q
    have h5 : H ≤ 5 := (nI_leI hH (by omega)).mp a4
    have hs := sz25 ⟨w2, w5, h2, h5⟩
    obtain ⟨z', g1, f1, b1, b2, b3, b4, b5, b6, b7, b8, b9, b10, b11⟩ := p_lay z w2 w5 h2 h5
    obtain ⟨w', g2, f2, c1, c2, c3, c4, c5, c6, c7⟩ := p_lays (sI w 0 0) W H
    rw [g1, g2]
    simp only [oC_s, oL_eq]
    obtain ⟨i, a⟩ := f1
    obtain ⟨j, b⟩ := f2
    refine ⟨1, _, _, rfl, rfl, W, H, ?_, ?_, ?_, ?_, ?_, ?_, ?_, ?_, ?_, ?_, ?_⟩
    · obtain ⟨t, ht, t1, t2⟩ := hDy
      exact ⟨t, ht, (i 0 (by decide)).trans t1, (j 21 (by decide)).trans t2⟩
    · exact ⟨⟨w2, w5, h2, h5⟩, c1, c2, b1, b2, b3, b4, b5⟩
    · refine ⟨?_, ?_, ?_, ?_⟩
      · intro v hv
        obtain ⟨q1, q2, q3⟩ := c7 v (by omega)
        exact ⟨⟨0, by omega, q1⟩, Or.inl q2, Or.inl q3⟩
      · intro d hd v
        show bt (z'.2.1 7 d) v = decide (v < W * H ∧ w'.2.1 7 v = nI d)
        by_cases hv : v < W * H
        · rw [(c7 v (by omega)).1]
          by_cases q : d = 0
          · subst q
            rw [b9, b3, decide_eq_decide]
            exact ⟨fun q => ⟨q, rfl⟩, fun q => q.1⟩
          · rw [b10 d hd q, b_0, eq_comm, decide_eq_false_iff_not]
            exact fun e => q ((nI_eq (by omega) (by omega)).mp (show nI d = nI 0 from e.2.symm))
        · rw [decide_eq_false (fun q => hv q.1)]
          by_cases q : d = 0
          · subst q
            rw [b9, b3, decide_eq_false hv]
          · rw [b10 d hd q, b_0]
      · intro d hd v
        show bt (z'.2.1 8 d) v = decide (v < W * H ∧ w'.2.1 8 v = nI d)
        rw [b11 d hd, b_0, eq_comm, decide_eq_false_iff_not]
        rintro ⟨q1, q2⟩
        rw [(c7 v (by omega)).2.1] at q2
        rcases (show d = 0 ∨ d = 1 by omega) with rfl | rfl
        · exact absurd q2 (by decide)
        · exact absurd q2 (by decide)
      · intro v
        show bt (z'.1 23) v = decide (v < W * H ∧ w'.2.1 9 v = 1)
        rw [b6, b_0, eq_comm, decide_eq_false_iff_not]
        rintro ⟨q1, q2⟩
        rw [(c7 v (by omega)).2.2] at q2
        exact absurd q2 (by decide)
    · refine ⟨0, by omega, b8, c3, ?_, fun i hi => absurd hi (Nat.not_lt_zero i)⟩
      intro v hv
      show bt (z'.1 24) v = true ↔ _
      rw [b7, b_0]
      constructor
      · intro q; cases q
      · rintro ⟨i, hi, _⟩; omega
    · obtain ⟨m, hm, m1, m2, e1, e2, e3, e4, e5, e6, hn⟩ := hN
      exact ⟨0, by omega, rfl, c6, ((a 11 (by decide)).trans e1).trans (b 16 (by decide)).symm, ((a 12 (by decide)).trans e2).trans (b 18 (by decide)).symm, ((a 13 (by decide)).trans e3).trans (b 19 (by decide)).symm, ((a 14 (by decide)).trans e4).trans (b 20 (by decide)).symm, ((a 15 (by decide)).trans e5).trans (b 21 (by decide)).symm, ((a 16 (by decide)).trans e6).trans (b 17 (by decide)).symm, fun i hi => absurd hi (Nat.not_lt_zero i)⟩
    · obtain ⟨e1, e2⟩ := hE
      refine ⟨((a 18 (by decide)).trans e1).trans (b 10 (by decide)).symm, fun h hh => ?_⟩
      obtain ⟨e, he, q⟩ := e2 h hh
      exact ⟨e, he, by rw [← q]; exact congrFun (b 10 (by decide)) h⟩
    · obtain ⟨d, hd, d1, d2, d3, d4, hD⟩ := hD
      exact ⟨0, by omega, rfl, c4, ((a 28 (by decide)).trans d3).trans (b 13 (by decide)).symm, ((a 29 (by decide)).trans d4).trans (b 14 (by decide)).symm, fun i hi => absurd hi (Nat.not_lt_zero i)⟩
    · obtain ⟨d, hd, d1, d2, d3, hK⟩ := hK
      exact ⟨0, by omega, rfl, c5, ((a 37 (by decide)).trans d3).trans (b 15 (by decide)).symm, fun i hi => absurd hi (Nat.not_lt_zero i)⟩
    · obtain ⟨t, ht, t1, t2, t3, t4⟩ := hT
      exact ⟨t, ht, (i 1 (by decide)).trans t1, (j 1 (by decide)).trans t2, ((a 0 (by decide)).trans t3).trans (b 0 (by decide)).symm, fun i hi => by obtain ⟨u, hu, e⟩ := t4 i hi; exact ⟨u, hu, (congrFun (b 0 (by decide)) i).trans e⟩⟩
    · obtain ⟨f1, f2⟩ := hF
      exact ⟨((j 15 (by decide)).trans f1).trans (i 2 (by decide)).symm, ((j 16 (by decide)).trans f2).trans (i 3 (by decide)).symm⟩
    · unfold ivTerms at hR ⊢
      have r3 : w'.2.1 3 = w.2.1 3 := b 3 (by decide)
      have r1 : w'.2.1 1 = w.2.1 1 := b 1 (by decide)
      have r2 : w'.2.1 2 = w.2.1 2 := b 2 (by decide)
      show (∃ u, u ≤ 2 ∧ z'.1 13 = nI u ∧ w'.2.1 3 0 = nI u) ∧ (∃ f, f ≤ 100 ∧ z'.1 14 = nI f ∧ w'.2.1 3 4 = nI f) ∧ (∃ f, f ≤ 100 ∧ z'.1 15 = nI f ∧ w'.2.1 3 5 = nI f) ∧ (∀ j, j < 3 → ∃ f, f ≤ 999 ∧ z'.2.1 1 j = nI f ∧ w'.2.1 3 (j + 1) = nI f) ∧ ∃ m, m ≤ 64 ∧ z'.1 16 = nI m ∧ w'.1 2 = nI m ∧ w'.1 19 = nI m ∧ ((m = 0 ∧ w'.1 4 = 0) ∨ (w'.1 4 = 1 ∧ knotsR (z'.2.1 2) (z'.2.1 3) (w'.2.1 1) (w'.2.1 2) m 1))
      rw [r1, r2, r3, i 13 (by decide), i 14 (by decide), i 15 (by decide), i 16 (by decide), a 1 (by decide), a 2 (by decide), a 3 (by decide), j 2 (by decide), j 19 (by decide), j 4 (by decide)]
      exact hR
  · rw [if_neg a4, if_neg a4]; exact ⟨0, _, _, rfl, rfl, Inv_0 h'⟩
