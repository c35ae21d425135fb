/-! PURE: terms: q_terms -/
theorem p_read0 {z : St} {n t : Nat} (hn : n ≤ t) (ht : t ≤ 400) (e1 : z.1 1 = nI t) : ∃ z0, f_X6_read z (nI n) = (oC (f_X6_advance z0) fun s => F_X6_read_60 100000 s 0) ∧ fr [1, 2, 3, 4, 5, 10, 11, 12, 17, 18, 19, 20] [4] z z0 ∧ (z0.1 1 = 0 ∧ z0.1 2 = 0 ∧ z0.1 3 = -1 ∧ z0.1 4 = nI n ∧ z0.1 5 = 0 ∧ z0.1 10 = 0 ∧ z0.1 11 = 0 ∧ z0.1 12 = 2) ∧ (z0.1 17 = 0 ∧ z0.1 18 = 10 ∧ z0.1 19 = 5 ∧ z0.1 20 = 0 ∧ ∀ j, j < 3 → z0.2.1 4 j = 0) := by
  unfold f_X6_read F_X6_read_0 f_X8_clear F_X8_clear_0
  simp only [oL_s, p_fill _ (show 4 < 54 by omega) (by decide) (by decide), oC_s]
  have ej : jmin (nI n) ((sA (sI (sI (sI (sI (sI z 12 2) 17 0) 18 10) 19 5) 20 0) 4 (fun j => if j < lnC 4 then 0 else (sI (sI (sI (sI (sI z 12 2) 17 0) 18 10) 19 5) 20 0).2.1 4 j)).1 1) = nI n := by
    show jmin (nI n) (z.1 1) = nI n
    rw [e1, jminN (by omega) (by omega)]
    congr 1; omega
  rw [ej]
  refine ⟨sI (sI (sI (sI (sI (sI (sI (sA (sI (sI (sI (sI (sI z 12 2) 17 0) 18 10) 19 5) 20 0) 4 (fun j => if j < lnC 4 then 0 else (sI (sI (sI (sI (sI z 12 2) 17 0) 18 10) 19 5) 20 0).2.1 4 j)) 4 (nI n)) 5 0) 2 0) 3 (-1)) 10 0) 11 0) 1 0, ?_, ?_, ⟨rfl, rfl, rfl, rfl, rfl, rfl, rfl, rfl⟩, rfl, rfl, rfl, rfl, fun j hj => ?_⟩
  · exact if_pos rfl
  · exact fr_I (fr_I (fr_I (fr_I (fr_I (fr_I (fr_I (fr_A (fr_I (fr_I (fr_I (fr_I (fr_I fr_0 (by decide)) (by decide)) (by decide)) (by decide)) (by decide)) (by decide)) (by decide)) (by decide)) (by decide)) (by decide)) (by decide)) (by decide)) (by decide)
  · show (if j < lnC 4 then (0 : Int32) else _) = 0
    exact if_pos (by rw [show lnC 4 = 3 by decide]; exact hj)
theorem p_terms0 {w : St} {n t : Nat} (hn : n ≤ t) (ht : t ≤ 400) (e1 : w.1 1 = nI t) : ∃ w0, f_X12_terms w (nI n) = (oC (f_X12_next w0) fun s => F_X12_terms_112 100000 s) ∧ fr [0, 1, 3, 5, 6, 7, 8, 9, 13, 14] [3] w w0 ∧ (w0.1 1 = 0 ∧ w0.1 3 = 0 ∧ w0.1 5 = 0 ∧ w0.1 6 = 0 ∧ w0.1 7 = 0 ∧ w0.1 8 = nI n ∧ w0.1 9 = 0 ∧ w0.1 13 = 0 ∧ w0.1 14 = -1) ∧ (∀ i, i < 6 → w0.2.1 3 i = w.2.1 3 i) ∧ (∀ i, 6 ≤ i → i < 12 → w0.2.1 3 i = if i = 10 then 10 else if i = 11 then 5 else 0) := by
  unfold f_X12_terms F_X12_terms_0
  simp only [oL_s]
  have e1' : (sI w 0 0).1 1 = nI t := e1
  rw [if_neg (show ¬ nI n < (0 : Int32) from nI_nlt (b := 0) (by omega) (by omega)), e1', if_pos (nI_le hn (by omega))]
  obtain ⟨s, g1, g2, g3, g4⟩ := p_t68 (w := sI (sI (sI (sI (sI (sI (sI (sI (sI (sI w 0 0) 8 (nI n)) 1 0) 9 0) 13 0) 14 (-1)) 5 0) 3 0) 6 0) 7 0)
  refine ⟨s, g1, ?_, ⟨g2.1 1 List.not_mem_nil, g2.1 3 List.not_mem_nil, g2.1 5 List.not_mem_nil, g2.1 6 List.not_mem_nil, g2.1 7 List.not_mem_nil, g2.1 8 List.not_mem_nil, g2.1 9 List.not_mem_nil, g2.1 13 List.not_mem_nil, g2.1 14 List.not_mem_nil⟩, g3, g4⟩
  exact fr_t (fr_I (fr_I (fr_I (fr_I (fr_I (fr_I (fr_I (fr_I (fr_I (fr_I fr_0 (by decide)) (by decide)) (by decide)) (by decide)) (by decide)) (by decide)) (by decide)) (by decide)) (by decide)) (by decide)) (fr_m g2 (fun k hk => absurd hk List.not_mem_nil) (fun _ h => h))
theorem pc_0 : pc 0 = 0 := by decide +kernel
theorem sw_fr (z : St) : fr [12, 13, 14, 15, 16, 17, 18, 19, 20] [1, 2, 3, 4, 5, 6] z (swS z) := by
  constructor
  · intro k hk
    have h12 : k ≠ 12 := fun e => hk (by rw [e]; decide)
    have hF : swF k = k := by
      unfold swF
      by_cases c1 : 13 ≤ k ∧ k < 17
      · exfalso
        apply hk
        rcases (show k = 13 ∨ k = 14 ∨ k = 15 ∨ k = 16 by omega) with e | e | e | e <;> subst e <;> decide
      · rw [if_neg c1]
        by_cases c2 : 17 ≤ k ∧ k < 21
        · exfalso
          apply hk
          rcases (show k = 17 ∨ k = 18 ∨ k = 19 ∨ k = 20 by omega) with e | e | e | e <;> subst e <;> decide
        · rw [if_neg c2]
    show (if k = 12 then swI (z.1 12) else z.1 (swF k)) = z.1 k
    rw [if_neg h12, hF]
  · intro k hk
    have hA : swA k = k := by
      unfold swA
      by_cases c1 : k = 0 ∨ 7 ≤ k
      · rw [if_pos c1]
      · exfalso
        apply hk
        rcases (show k = 1 ∨ k = 2 ∨ k = 3 ∨ k = 4 ∨ k = 5 ∨ k = 6 by omega) with e | e | e | e | e | e <;> subst e <;> decide
    show z.2.1 (swA k) = z.2.1 k
    rw [hA]
theorem q_terms {z w : St} (h : Inv z w) (x : Int32) : ∃ r z' b w', f_X11_terms z x = some (r, z', b) ∧ f_X12_terms w x = some (r, w') ∧ Inv z' w' := by
  have h' := h
  obtain ⟨W, H, hDy, hL, hV, hC, hN, hE, hD, hK, ⟨t, ht, e1, e2, e3, e4⟩, hF, hR⟩ := h
  unfold f_X11_terms
  by_cases c0 : x < 0
  · refine ⟨-2, z, false, sI w 0 0, by rw [if_pos c0], ?_, Inv_0 h'⟩
    unfold f_X12_terms F_X12_terms_0 F_X12_terms_17
    simp only [oL_s]
    rw [if_pos c0]
  obtain ⟨n, hn, rfl⟩ := nI_of c0
  rw [if_neg c0]
  by_cases ct : n ≤ t
  case neg =>
    have q : ¬ nI n ≤ nI t := nI_ge (by omega) hn
    refine ⟨-2, z, false, sI w 0 0, by rw [e1, if_neg q], ?_, Inv_0 h'⟩
    unfold f_X12_terms F_X12_terms_0 F_X12_terms_17
    simp only [oL_s]
    have e2' : (sI w 0 0).1 1 = nI t := e2
    rw [if_neg c0, e2', if_neg q]
  rw [e1, if_pos (nI_le ct (by omega))]
  obtain ⟨z0, r1, r2, ⟨r3, r4, r5, r6, r7, r8, r9, r10⟩, r11, r12, r13, r14, r15⟩ := p_read0 ct ht e1
  obtain ⟨w0, s1, s2, ⟨s3, s4, s5, s6, s7, s8, s9, s10, s14⟩, s11, s12⟩ := p_terms0 ct ht e2
  rw [r1, s1]
  have hrd : rdR n 0 z0 w0 := by
    refine ⟨Nat.zero_le _, by omega, r6, s8, r7, s9, ?_, ?_, r4, by rw [r5, s14]⟩
    · rw [r2.2 0 (by decide), s2.2 0 (by decide)]; exact e3
    · rw [s2.2 0 (by decide)]
      exact fun i hi => e4 i (by omega)
  obtain ⟨z1, w1, a1, g1, g2, g3, g4, g5, g6, g7, g8, g9⟩ := adv_loop (n := n) 100000 0 z0 w0 hrd (by omega) (by omega)
  have g1' : f_X6_advance z0 = some z1 := g1
  have g2' : f_X12_next w0 = some w1 := g2
  rw [g1', g2']
  simp only [oC_s]
  have hl : lR0 n a1 0 0 0 z1 w1 := by
    refine ⟨⟨g4, g7, g8, ?_, ?_, ?_⟩, ⟨?_, ?_, by omega, ?_, ?_, fun i hi => absurd hi (Nat.not_lt_zero i)⟩, ⟨?_, ?_, ?_⟩, ?_⟩
    · rw [g5.1 12 (by decide)]; exact r10
    · rw [g6.1 13 (by decide)]; exact s10
    · rw [g6.1 6 (by decide)]; exact s6
    · rw [g5.1 10 (by decide)]; exact r8
    · rw [g6.1 5 (by decide)]; exact s5
    · rw [g5.1 20 (by decide)]; exact r14
    · rw [g6.1 3 (by decide)]; exact s4
    · rw [g5.1 11 (by decide), g6.1 7 (by decide), r9, s7]
      exact fun v _ => by rw [b_0, b_0]
    · rw [g6.1 7 (by decide), s7]
      exact fun v _ => b_0 v
    · rw [g6.1 7 (by decide), s7]; exact pc_0
    · unfold ruR
      rw [g5.1 17 (by decide), g5.1 18 (by decide), g5.1 19 (by decide), g5.2 4 List.not_mem_nil, g6.2 3 List.not_mem_nil]
      refine ⟨⟨0, by omega, r11, by rw [s12 6 (by omega) (by omega)]; rfl⟩, ⟨10, by omega, r12, by rw [s12 10 (by omega) (by omega)]; rfl⟩, ⟨5, by omega, r13, by rw [s12 11 (by omega) (by omega)]; rfl⟩, fun j hj => ⟨0, by omega, r15 j hj, ?_⟩⟩
      rw [s12 (7 + j) (by omega) (by omega), if_neg (by omega), if_neg (by omega)]; rfl
  have hfs : fsR 0 z1 w1 := Or.inl ⟨by rw [g6.1 7 (by decide), s7, b_0], rfl⟩
  have fz0 : fr [1, 2, 3, 4, 5, 6, 7, 8, 9, 10, 11, 12, 13, 14, 15, 16, 17, 18, 19, 20] [1, 2, 3, 4, 5, 6] z z1 := fr_t (fr_m r2 (by decide) (by decide)) (fr_m g5 (by decide) (by decide))
  have fw0 : fr [0, 1, 2, 3, 4, 5, 6, 7, 8, 9, 10, 11, 12, 13, 14, 15, 16, 17, 18, 19] [1, 2, 3, 4] w w1 := fr_t (fr_m s2 (by decide) (by decide)) (fr_m g6 (by decide) (by decide))
  have z1t : z1.1 1 = 0 := by rw [g5.1 1 (by decide)]; exact r3
  have w1t : w1.1 1 = 0 := by rw [g6.1 1 (by decide)]; exact s3
  rcases read_loop (n := n) 100000 0 a1 0 z1 w1 hl hfs (by omega) with ⟨z', w', l1, l2, l3, l4, l5⟩ | ⟨z', w', a', m', l', l1, l2, l3, l4, l5, l6⟩
  · have l1' : F_X6_read_60 100000 z1 0 = some (-1, z') := l1
    rw [l1', l2]
    simp only [oC_s, ↓reduceIte]
    unfold F_X12_terms_134
    simp only [oL_s]
    have e13 : ¬ (sI (sI w' 15 (w'.1 13)) 16 ((sI w' 15 (w'.1 13)).1 14)).1 13 = 0 := bad_ne l5
    rw [if_neg e13]
    refine ⟨-1, z', false, _, rfl, rfl, ?_⟩
    obtain ⟨f, f1, f2, f3, f4, f5⟩ := l5
    refine Inv_t h' (fr_t fz0 (fr_m l3 (by decide) (by decide))) (fr_t fw0 (fr_t (fr_m l4.1 (by decide) (by decide)) (fr_I (fr_I fr_0 (by decide)) (by decide)))) ?_ ?_ ?_
    · refine ⟨0, by omega, by rw [l3.1 1 (by decide)]; exact z1t, ?_, ?_, fun i hi => absurd hi (Nat.not_lt_zero i)⟩
      · show w'.1 1 = _
        rw [l4.1.1 1 (by decide)]; exact w1t
      · show z'.2.1 0 = w'.2.1 0
        rw [l3.2 0 (by decide), l4.1.2 0 (by decide), g5.2 0 List.not_mem_nil, g6.2 0 List.not_mem_nil, r2.2 0 (by decide), s2.2 0 (by decide)]; exact e3
    · exact ⟨f4.trans f3.symm, f5.symm⟩
    · have lo3 : ∀ i, i < 6 → w'.2.1 3 i = w.2.1 3 i := fun i hi => by rw [l4.2.2 i hi, g6.2 3 List.not_mem_nil, s11 i hi]
      have lo1 : ∀ i, i < 64 → w'.2.1 1 i = w.2.1 1 i ∧ w'.2.1 2 i = w.2.1 2 i := fun i hi => by
        rw [(l4.2.1 i hi).1, (l4.2.1 i hi).2, g6.2 1 List.not_mem_nil, g6.2 2 List.not_mem_nil, s2.2 1 (by decide), s2.2 2 (by decide)]; exact ⟨rfl, rfl⟩
      have zi : ∀ k, k = 13 ∨ k = 14 ∨ k = 15 ∨ k = 16 → z'.1 k = z.1 k := by
        rintro k (e | e | e | e) <;> subst e
        · rw [l3.1 13 (by decide), g5.1 13 (by decide), r2.1 13 (by decide)]
        · rw [l3.1 14 (by decide), g5.1 14 (by decide), r2.1 14 (by decide)]
        · rw [l3.1 15 (by decide), g5.1 15 (by decide), r2.1 15 (by decide)]
        · rw [l3.1 16 (by decide), g5.1 16 (by decide), r2.1 16 (by decide)]
      have za : ∀ k, k = 1 ∨ k = 2 ∨ k = 3 → z'.2.1 k = z.2.1 k := by
        rintro k (e | e | e) <;> subst e
        · rw [l3.2 1 (by decide), g5.2 1 List.not_mem_nil, r2.2 1 (by decide)]
        · rw [l3.2 2 (by decide), g5.2 2 List.not_mem_nil, r2.2 2 (by decide)]
        · rw [l3.2 3 (by decide), g5.2 3 List.not_mem_nil, r2.2 3 (by decide)]
      have wi : ∀ k, k = 2 ∨ k = 4 ∨ k = 19 → w'.1 k = w.1 k := by
        rintro k (e | e | e) <;> subst e
        · rw [l4.1.1 2 (by decide), g6.1 2 (by decide), s2.1 2 (by decide)]
        · rw [l4.1.1 4 (by decide), g6.1 4 (by decide), s2.1 4 (by decide)]
        · rw [l4.1.1 19 (by decide), g6.1 19 (by decide), s2.1 19 (by decide)]
      obtain ⟨⟨u, u1, u2, u3⟩, ⟨v, v1, v2, v3⟩, ⟨y, y1, y2, y3⟩, wt, m, m1, m2, m3, m4, m5⟩ := hR
      refine ⟨⟨u, u1, by rw [zi 13 (by omega)]; exact u2, ?_⟩, ⟨v, v1, by rw [zi 14 (by omega)]; exact v2, ?_⟩, ⟨y, y1, by rw [zi 15 (by omega)]; exact y2, ?_⟩, fun j hj => ?_, m, m1, by rw [zi 16 (by omega)]; exact m2, ?_, ?_, ?_⟩
      · show w'.2.1 3 0 = _
        rw [lo3 0 (by omega)]; exact u3
      · show w'.2.1 3 4 = _
        rw [lo3 4 (by omega)]; exact v3
      · show w'.2.1 3 5 = _
        rw [lo3 5 (by omega)]; exact y3
      · obtain ⟨f', q1, q2, q3⟩ := wt j hj
        refine ⟨f', q1, by rw [za 1 (by omega)]; exact q2, ?_⟩
        show w'.2.1 3 (j + 1) = _
        rw [lo3 (j + 1) (by omega)]; exact q3
      · show w'.1 2 = _
        rw [wi 2 (by omega)]; exact m3
      · show w'.1 19 = _
        rw [wi 19 (by omega)]; exact m4
      · have e4' : (sI (sI w' 15 (w'.1 13)) 16 ((sI w' 15 (w'.1 13)).1 14)).1 4 = w.1 4 := wi 4 (by omega)
        rw [e4', za 2 (by omega), za 3 (by omega)]
        rcases m5 with q | ⟨q1, q2⟩
        · exact Or.inl q
        · exact Or.inr ⟨q1, knots_cong (fun i hi => lo1 i (by omega)) q2⟩
  · have l1' : F_X6_read_60 100000 z1 0 = some (nI l', z') := l1
    have l7 := td_7 l5.2.2.1
    rw [l1', l2]
    simp only [oC_s]
    rw [if_neg (nI_nm1 (by omega))]
    obtain ⟨⟨a1', a2, a3, a4, a5, a6⟩, ⟨b1', b2', b3, b4, b5, b6⟩, td, ru⟩ := l5
    unfold F_X12_terms_134
    simp only [oL_s]
    have e13 : (sI (sI w' 15 (w'.1 13)) 16 ((sI w' 15 (w'.1 13)).1 14)).1 13 = 0 := a5
    rw [if_pos e13]
    generalize hw2 : sI (sI w' 15 (w'.1 13)) 16 ((sI w' 15 (w'.1 13)).1 14) = w2
    have x15 : w2.1 15 = 0 := by rw [← hw2]; exact a5
    have x16 : w2.1 16 = w'.1 14 := by rw [← hw2]; rfl
    have xf : fr [15, 16] [] w' w2 := by rw [← hw2]; exact fr_I (fr_I fr_0 (by decide)) (by decide)
    clear hw2 e13
    obtain ⟨w3, t1, t2, t3, t4, t5, t6, t7⟩ := p_t161 (w := w2)
    rw [t1]
    have e6 : w2.1 6 = nI l' := by rw [xf.1 6 (by decide)]; exact a6
    rw [e6]
    refine ⟨nI l', swS z', true, w3, rfl, rfl, ?_⟩
    have fz3 : fr [1, 2, 3, 4, 5, 6, 7, 8, 9, 10, 11, 12, 13, 14, 15, 16, 17, 18, 19, 20] [1, 2, 3, 4, 5, 6] z (swS z') := fr_t (fr_t fz0 (fr_m l3 (by decide) (by decide))) (fr_m (sw_fr z') (by decide) (by decide))
    have fw3 : fr [0, 1, 2, 3, 4, 5, 6, 7, 8, 9, 10, 11, 12, 13, 14, 15, 16, 17, 18, 19] [1, 2, 3, 4] w w3 := fr_t (fr_t fw0 (fr_m l4.1 (by decide) (by decide))) (fr_t (fr_m xf (by decide) (fun k hk => absurd hk List.not_mem_nil)) (fr_m t2 (by decide) (by decide)))
    refine Inv_t h' fz3 fw3 ?_ ?_ ?_
    · refine ⟨0, by omega, ?_, ?_, ?_, fun i hi => absurd hi (Nat.not_lt_zero i)⟩
      · rw [(sw_fr z').1 1 (by decide), l3.1 1 (by decide)]; exact z1t
      · rw [t2.1 1 (by decide), xf.1 1 (by decide), l4.1.1 1 (by decide)]; exact w1t
      · rw [fz3.2 0 (by decide), fw3.2 0 (by decide)]; exact e3
    · refine ⟨?_, ?_⟩
      · rw [t2.1 15 (by decide), x15, (sw_fr z').1 2 (by decide)]
        exact a1'.2.2.2.2.2.2.2.2.1.symm
      · rw [t2.1 16 (by decide), x16, (sw_fr z').1 3 (by decide)]
        exact a1'.2.2.2.2.2.2.2.2.2.symm
    · obtain ⟨⟨u, u1, u2, u3⟩, ⟨v, v1, v2, v3⟩, ⟨y, y1, y2, y3⟩, wt⟩ := ru
      have c3 : ∀ i, i < 6 → w3.2.1 3 i = w'.2.1 3 (6 + i) := fun i hi => by rw [t6 i hi, xf.2 3 List.not_mem_nil]
      refine ⟨⟨u, u1, u2, by rw [c3 0 (by omega)]; exact u3⟩, ⟨v, v1, v2, by rw [c3 4 (by omega)]; exact v3⟩, ⟨y, y1, y2, by rw [c3 5 (by omega)]; exact y3⟩, fun j hj => ?_, m', b3, b4, ?_, ?_, ?_⟩
      · obtain ⟨f', q1, q2, q3⟩ := wt j hj
        refine ⟨f', q1, q2, ?_⟩
        rw [c3 (j + 1) (by omega), show 6 + (j + 1) = 7 + j by omega]; exact q3
      · rw [t3, xf.1 3 (by decide)]; exact b5
      · rw [t4, xf.1 5 (by decide)]; exact b2'
      · rw [t5, xf.1 7 (by decide)]
        rcases l6 with ⟨q1, q2⟩ | ⟨q1, q2⟩
        · left
          rw [q1]; exact ⟨q2, rfl⟩
        · right
          rw [q1]
          refine ⟨rfl, ?_⟩
          refine knots_cong (s := fun i => w'.2.1 1 (64 + i)) (v := fun i => w'.2.1 2 (64 + i)) (fun i hi => ?_) (kn_of q2 b6)
          rw [(t7 i (by omega)).1, (t7 i (by omega)).2, xf.2 1 List.not_mem_nil, xf.2 2 List.not_mem_nil]
          exact ⟨rfl, rfl⟩
