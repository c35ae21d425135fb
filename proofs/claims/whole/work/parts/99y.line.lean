/-! PURE: terms: each kind of line -/
theorem mu_bd {n a : Nat} {t : Int32} (hn : n ≤ 400) : muT n a t ≤ 401 := by
  unfold muT
  split <;> omega
theorem l125_bad {w : St} (h : ¬ w.1 13 = 0) : F_X12_line_125 w = some w := by
  unfold F_X12_line_125
  rw [if_neg h]
theorem expr_both {n a l : Nat} {z w : St} (h : lR0 n a 0 (l + 1) l z w) (hb1 : bt (w.1 7) 1 = true) : lnP (oC (f_X6_row 80 z 0 0) fun v => if v.1 = 0 then some (0, v.2) else f_X6_pass v.2 33) (oC (f_X12_expression w) fun s => F_X12_line_125 s) n a l z w := by
  obtain ⟨⟨a1, a2, a3, a4, a5, a6⟩, ⟨b1', b2', b3, b4, b5, b6⟩, td, ru⟩ := id h
  have hn := a1.2.1
  have n1 : ¬ (1 : Int32) = 0 := by decide
  have pr : pR n a 0 0 0 0 0 0 z (sI (sI w 17 0) 18 0) := ⟨⟨a1, a2, a3, a4⟩, ⟨b1', b2', by omega, by omega, by omega, by omega⟩, ⟨b4, b5, rfl, rfl, a5⟩, fun i hi => absurd hi (Nat.not_lt_zero i), fun i hi => absurd hi (Nat.not_lt_zero i)⟩
  have row : rowP (f_X6_row 80 z 0 0) n a 0 0 0 0 0 0 0 z (sI (sI w 17 0) 18 0) := rows_ok 80 0 0 (by omega) (by omega) (by omega) n a 0 0 0 0 0 z (sI (sI w 17 0) 18 0) pr rfl (fun q => by omega) (fun q => by omega)
  have f0 : fwT w (sI (sI w 17 0) 18 0) := fwT_n (fr_I (fr_I fr_0 (by decide)) (by decide))
  have ex : f_X12_expression w = F_X12_expression_14 100000 (sI (sI w 17 0) 18 0) 0 1 := by
    unfold f_X12_expression F_X12_expression_0
    simp only [oL_s]
  have mb := mu_bd (a := a) (t := z.1 6) hn
  rcases row with ⟨z', w', j, e1, e2, e3, e4, e5, e6⟩ | ⟨z2, w2, a2', c2', m2, q2, j2, f1, ⟨f2, f2'⟩, f3, f4, f5, f6, f7, f8, f9, f10⟩
  · have e3' := e3 (100000 - j)
    rw [Nat.sub_add_cancel (by omega)] at e3'
    rw [e1, ex, e3']
    simp only [oC_s, ↓reduceIte]
    rw [l125_bad (bad_ne e6)]
    exact Or.inl ⟨z', w', rfl, rfl, fzL_T e4, fwL_T (fwT_t f0 e5), e6⟩
  · have f3' := f3 (99998 - j2 + 2)
    rw [show 99998 - j2 + 2 + j2 = 100000 by omega] at f3'
    rw [f1, ex, f3']
    simp only [oC_s, n1, ↓reduceIte]
    obtain ⟨⟨x1, x2, x3, x4⟩, ⟨x5, x6, x7, x8, x9, x10⟩, ⟨x11, x12, x13, x14, x15⟩, x16, x17⟩ := id f6
    rcases f10 with l1 | ⟨l1, l2⟩
    · obtain ⟨w3, p1, p2, p3, p4⟩ := p_pour (n := n) (a := a2') (c := c2') (q1 := 0) (p := 0) (o := 0) (K := 0) (z := z2) (l := 1) (by omega) (by omega) q2 m2 w2 100000 (by rw [Nat.zero_add]; exact f6) (fun q => by omega) (fun i i1 i2 => f9 i (by omega) (by omega)) (by omega)
      have st : ∀ k, F_X12_expression_14 (k + 2) w2 1 1 = some w3 := by
        intro k
        obtain ⟨x, hx, hx2⟩ := p_between x2
        have x0 : x = 0 := by
          rcases hx2 with ⟨q, _⟩ | ⟨_, _, _, q⟩
          · exact q
          · omega
        subst x0
        have is41 := p_isSign (i := 11) (by omega) x2
        have is41' : f_X12_isSign w2 41 = some (b2 (decide (z2.1 6 = nI (21 + 11))), w2) := is41
        rw [show k + 2 = k + 1 + 1 from rfl]
        show F_X12_expression_14_b (F_X12_expression_14 (k + 1)) w2 1 1 = _
        unfold F_X12_expression_14_b F_X12_expression_104 F_X12_expression_106
        rw [if_pos x15, if_neg n1, if_neg n1, hx]
        simp only [oC_s, oL_s, ↓reduceIte]
        rw [is41']
        simp only [oC_s, oL_s]
        rw [x14, if_pos (show nI 0 ≤ (0 : Int32) by decide), ite_self]
        show F_X12_expression_14_b (F_X12_expression_14 k) w2 1 0 = _
        unfold F_X12_expression_14_b F_X12_expression_109 F_X12_expression_129 F_X12_expression_141
        have p1' : f_X12_pour w2 1 = some w3 := p1
        rw [if_pos x15, if_pos rfl, if_pos x15, x14, if_pos (show nI 0 ≤ (0 : Int32) by decide), if_pos x15, p1']
        rfl
      rw [st]
      simp only [oC_s]
      obtain ⟨⟨y1, y2, y3, y4⟩, ⟨v1, v2, v3, v4, v5, v6⟩, ⟨u5, u6, u7, u8, u9⟩, u10, u11⟩ := id p2
      have fw : fwT w w3 := fwT_t f0 (fwT_t f5 p3)
      have h3 : lR0 n a2' (m2 + q2) (l + 1) l z2 w3 := by
        refine ⟨⟨y1, y2, y3, y4, u9, ?_⟩, ⟨?_, ?_, by omega, u5, u6, u10⟩, ?_, ?_⟩
        · rw [fw.1.1 6 (by decide)]; exact a6
        · rw [v1]; congr 1
        · rw [v2]; congr 1
        · unfold tdR at td ⊢
          rw [f4.1 11 (by decide), fw.1.1 7 (by decide)]; exact td
        · unfold ruR at ru ⊢
          rw [f4.1 17 (by decide), f4.1 18 (by decide), f4.1 19 (by decide), f4.2 4 (by decide), fw.1.2 3 (by decide)]; exact ru
      refine lnP_t (fzL_T f4) (fwL_T fw) (by omega) (semi h3 (Or.inr ⟨?_, f7⟩))
      rw [fw.1.1 7 (by decide)]; exact hb1
    · obtain ⟨w5, c1, c2, c3⟩ := cmp_bad f6 l1 l2
      rw [c1]
      simp only [oC_s]
      rw [l125_bad (bad_ne c3)]
      have q33 : ¬ z2.1 6 = 33 := fun q => by rw [q] at l1; exact absurd l1 (by decide)
      unfold f_X6_pass F_X6_pass_0
      rw [if_neg q33, p_refuse]
      exact Or.inl ⟨_, w5, rfl, rfl, fzL_T (fr_t f4 (fz_ref z2 _ _)), fwL_T (fwT_t f0 (fwT_t f5 c2)), c3⟩
/-- a line of the class, with its end -/
def clL (z : St) : Option (Int32 × St) := oC (f_X6_lineOfTerms z) fun v => if v.1 = 0 then some (0, v.2) else f_X6_pass v.2 33
theorem cl_0 {z z' : St} (h : F_X6_lineOfTerms_0 z = some (0, z')) : clL z = some (0, z') := by
  unfold clL f_X6_lineOfTerms
  rw [h]
  rfl
theorem cl_1 {z z' : St} (h : F_X6_lineOfTerms_0 z = some (1, z')) : clL z = f_X6_pass z' 33 := by
  unfold clL f_X6_lineOfTerms
  rw [h]
  have n1 : ¬ (1 : Int32) = 0 := by decide
  show (if (1 : Int32) = 0 then some (0, z') else f_X6_pass z' 33) = _
  rw [if_neg n1]
theorem k_unit : ∀ j, j < 20 → ((5 ≤ pmW j ∧ pmW j ≤ 7) ↔ (5 ≤ j ∧ j ≤ 7)) ∧ ((8 ≤ pmW j ∧ pmW j ≤ 10) ↔ (8 ≤ j ∧ j ≤ 10)) ∧ (5 ≤ j → j ≤ 10 → pmW j = j) := by decide +kernel
/-- which token it is: a word, or none below 20 -/
theorem tok_w {tk nm st vl : Int32} (h : tokR tk nm st vl) : (st = 0 ∧ ∃ j, j < 20 ∧ vl = nI j ∧ tk = nI (pmW j)) ∨ (¬ st = 0 ∧ ∃ t, 20 ≤ t ∧ t < 40 ∧ tk = nI t) := by
  rcases h with h | ⟨s1, s2, _⟩ | ⟨s1, i, hi, s2, _⟩ | ⟨s1, s2⟩ | ⟨s1, s2⟩
  · exact Or.inl h
  · exact Or.inr ⟨by rw [s1]; decide, 20, by omega, by omega, s2⟩
  · exact Or.inr ⟨by rw [s1]; decide, 21 + i, by omega, by omega, s2⟩
  · exact Or.inr ⟨by rw [s1]; decide, 34, by omega, by omega, s2⟩
  · exact Or.inr ⟨by rw [s1]; decide, 35, by omega, by omega, s2⟩
theorem bad_I {z w : St} {k : Nat} {x : Int32} (h : bad z w) (h2 : k ≠ 2) (h3 : k ≠ 3) : bad (sI z k x) w := by
  obtain ⟨f, q1, q2, q3, q4, q5⟩ := h
  refine ⟨f, q1, q2, ?_, q4, ?_⟩
  · rw [sI_i, if_neg (fun e => h2 e.symm)]; exact q3
  · rw [sI_i, if_neg (fun e => h3 e.symm)]; exact q5
theorem bad_A {z w : St} {k : Nat} {g : Nat → Int32} (h : bad z w) : bad (sA z k g) w := h
/-- unit -/
theorem unit_both {n a m l : Nat} {z w : St} (h : lR0 n a m (l + 1) l z w) (hf : fsR m z w) : lnP (oC (f_X6_unitLine z) fun v => if v.1 = 0 then some (0, v.2) else f_X6_pass v.2 33) (oC (f_X12_unit w) fun s => F_X12_line_125 s) n a l z w := by
  obtain ⟨⟨a1, a2, a3, a4, a5, a6⟩, hb, td, ru⟩ := id h
  have n1 : ¬ (1 : Int32) = 0 := by decide
  have tt : ∀ c : Option (Int32 × St), oT (2 : Int32) c = c := fun c => rfl
  unfold f_X6_unitLine F_X6_unitLine_0 F_X6_unitLine_17 f_X12_unit F_X12_unit_0 F_X12_unit_24
  have hbd : bad (sI (sI z 2 1) 3 (z.1 7)) (sI (sI w 13 1) 14 (w.1 10)) := bad_mk (f := 1) (by omega) (by omega) a3
  rw [p_refuse, p_wrong0 a5]
  simp only [oC_s, oL_s]
  have no : lnP (some (0, sI (sI z 2 1) 3 (z.1 7))) (F_X12_line_125 (sI (sI w 13 1) 14 (w.1 10))) n a l z w := Or.inl ⟨_, _, rfl, l125_bad (bad_ne hbd), fzL_T (fz_ref z _ _), fwL_T (fw_wr w _ _), hbd⟩
  rcases tok_w a2 with ⟨s1, j, hj, s2, s3⟩ | ⟨s1, t, t20, t40, s3⟩
  · obtain ⟨k1, _, k3⟩ := k_unit j hj
    have pj := (k_pw j hj).2.2.2.2.2.2.2.2.2
    rw [if_pos s1, s2, s3]
    by_cases c : 5 ≤ j ∧ j ≤ 7
    · have ej := k3 (by omega) (by omega)
      rw [ej] at s3 ⊢
      have q1 : ¬ nI j < (5 : Int32) := nI_nlt (b := 5) (by omega) (by omega)
      have q2 : nI j ≤ (7 : Int32) := nI_le (b := 7) (by omega) (by omega)
      have e5 : nI j - (5 : Int32) = nI (j - 5) := nI_sub (b := 5) (by omega)
      have i6 : vp_in (6 : Int32) 12 := by unfold vp_in; decide
      have c6 : Int32.toNatClampNeg (6 : Int32) = 6 := by decide
      rw [if_neg q1, if_pos q2, if_neg q1, if_pos q2, a4, tt, e5, oA_in _ i6, c6]
      have hr1 : rdR n a (sI z 17 (nI (j - 5))) (sA w 3 (upd (w.2.1 3) 6 (nI (j - 5)))) := a1
      obtain ⟨z', w', a', g1, g2, g3, g4, g5, g6, g7, g8⟩ := p_adv hr1 (by show z.1 6 ≠ 34; rw [s3]; exact fun q => by have := (nI_eq (b := 34) (by omega) (by omega)).mp q; omega)
      rw [g1, g2]
      simp only [oC_s]
      have f1 : fr [5, 6, 7, 8, 9, 17, 18, 19] [4] z z' := fr_t (fr_I fr_0 (by decide)) (fr_m g4 (by decide) (by decide))
      have f2 : fr [9, 10, 11, 12] [3] w w' := fr_t (fr_A fr_0 (by decide)) (fr_m g5 (by decide) (by decide))
      have e3 : w'.2.1 3 = upd (w.2.1 3) (6 + 0) (nI (j - 5)) := by rw [g5.2 3 List.not_mem_nil, sA_eq]
      have h' : lR0 n a' m (l + 1) l z' w' := lR_mk h f1 f2 g3 g6 g7 (by
        obtain ⟨⟨u, u1, u2, u3⟩, ⟨v, v1, v2, v3⟩, ⟨x, x1, x2, x3⟩, wt⟩ := ru
        refine ⟨⟨j - 5, by omega, by rw [g4.1 17 (by decide)]; rfl, by rw [e3]; rfl⟩, ⟨v, v1, by rw [g4.1 18 (by decide)]; exact v2, by rw [e3]; exact v3⟩, ⟨x, x1, by rw [g4.1 19 (by decide)]; exact x2, by rw [e3]; exact x3⟩, fun i hi => ?_⟩
        obtain ⟨f, y1, y2, y3⟩ := wt i hi
        refine ⟨f, y1, by rw [g4.2 4 List.not_mem_nil]; exact y2, ?_⟩
        rw [e3, upd_i, if_neg (by omega)]; exact y3)
      have st : lnP (f_X6_pass z' 33) (F_X12_line_125 w') n a' l z' w' := semi h' (fs_fr hf (by rw [g4.2 5 List.not_mem_nil]; rfl) (by rw [g5.1 7 (by decide)]; rfl))
      have g8' : muT n a' (z'.1 6) + 1 ≤ muT n a (z.1 6) := g8
      refine lnP_t (a := a') (fr_m f1 (by decide) (by decide)) (fwL_3 (s := 0) (fr_m f2 (by decide) (by decide)) e3) (by omega) ?_
      show lnP (if (1 : Int32) = 0 then some (0, z') else f_X6_pass z' 33) (F_X12_line_125 w') n a' l z' w'
      rw [if_neg n1]
      exact st
    · have c' : ¬ (5 ≤ pmW j ∧ pmW j ≤ 7) := fun q => c (k1.mp q)
      by_cases d1 : pmW j < 5
      · rw [if_pos (show nI (pmW j) < (5 : Int32) from nI_lt (b := 5) d1 (by omega))]
        by_cases d2 : j < 5
        · rw [if_pos (show nI j < (5 : Int32) from nI_lt (b := 5) d2 (by omega))]
          exact no
        · rw [if_neg (show ¬ nI j < (5 : Int32) from nI_nlt (b := 5) (by omega) (by omega)), if_neg (show ¬ nI j ≤ (7 : Int32) from nI_ge (a := 7) (by omega) (by omega))]
          exact no
      · rw [if_neg (show ¬ nI (pmW j) < (5 : Int32) from nI_nlt (b := 5) (by omega) (by omega)), if_neg (show ¬ nI (pmW j) ≤ (7 : Int32) from nI_ge (a := 7) (by omega) (by omega))]
        by_cases d2 : j < 5
        · rw [if_pos (show nI j < (5 : Int32) from nI_lt (b := 5) d2 (by omega))]
          exact no
        · rw [if_neg (show ¬ nI j < (5 : Int32) from nI_nlt (b := 5) (by omega) (by omega)), if_neg (show ¬ nI j ≤ (7 : Int32) from nI_ge (a := 7) (by omega) (by omega))]
          exact no
  · rw [if_neg s1, s3, if_neg (show ¬ nI t < (5 : Int32) from nI_nlt (b := 5) (by omega) (by omega)), if_neg (show ¬ nI t ≤ (7 : Int32) from nI_ge (a := 7) (by omega) (by omega))]
    exact no
/-- fear and lose: the class keeps the number in field q, the reference in slot s -/
theorem pct_both {n a m l s q : Nat} {z w : St} (hq : (s = 4 ∧ q = 18) ∨ (s = 5 ∧ q = 19)) (h : lR0 n a m (l + 1) l z w) (hf : fsR m z w) {g : Option (Int32 × St)} (hg : g = oC (f_X6_amount z 100) fun v => oT (v.2.1 12) (some (v.1, sI v.2 q (v.2.1 9)))) : lnP (oC g fun v => if v.1 = 0 then some (0, v.2) else f_X6_pass v.2 33) (oC (f_X12_number w (nI s) 100) fun t => F_X12_line_125 t) n a l z w := by
  obtain ⟨⟨a1, a2, a3, a4, a5, a6⟩, hb, td, ru⟩ := id h
  have n1 : ¬ (1 : Int32) = 0 := by decide
  have hq2 : q ≠ 2 ∧ q ≠ 3 ∧ q ∈ [17, 18, 19] := by rcases hq with ⟨_, e⟩ | ⟨_, e⟩ <;> subst e <;> decide
  rcases amt_both (M := 100) (s := s) h (by omega) (by omega) with ⟨z', w', g1, g2, g3, g4, g5, g6⟩ | ⟨z', w', a', k, hk, g1, g2, g3, g4, g5, g6, g7, g8, g9, g10⟩
  · have g1' : f_X6_amount z 100 = some (0, z') := g1
    have g2' : f_X12_number w (nI s) 100 = some w' := g2
    rw [hg, g1', g2']
    simp only [oC_s, g6]
    rw [l125_bad (bad_ne g5)]
    refine Or.inl ⟨sI z' q (z'.1 9), w', rfl, rfl, fr_t g3 (fr_I fr_0 ?_), g4, bad_I g5 hq2.1 hq2.2.1⟩
    rcases hq with ⟨_, e⟩ | ⟨_, e⟩ <;> subst e <;> decide
  · have g1' : f_X6_amount z 100 = some (1, z') := g1
    have g2' : f_X12_number w (nI s) 100 = some w' := g2
    have e12 : z'.1 12 = 2 := by rw [g4.1 12 (by decide)]; exact a4
    rw [hg, g1', g2']
    simp only [oC_s, e12, g3]
    have f1 : fr [5, 6, 7, 8, 9, 17, 18, 19] [4] z (sI z' q (nI k)) := fr_t (fr_m g4 (by decide) (by decide)) (fr_I fr_0 (by rcases hq with ⟨_, e⟩ | ⟨_, e⟩ <;> subst e <;> decide))
    have eo : ∀ i, i ≠ q → (sI z' q (nI k)).1 i = z'.1 i := fun i hi => by rw [sI_i, if_neg hi]
    have ii : 5 ≠ q ∧ 6 ≠ q ∧ 7 ≠ q ∧ 8 ≠ q ∧ 4 ≠ q ∧ 17 ≠ q := by omega
    have hr : rdR n a' (sI z' q (nI k)) w' := by
      obtain ⟨r1, r2, r3, r4, r5, r6, r7, r8⟩ := g7
      exact ⟨r1, r2, by rw [eo 4 ii.2.2.2.2.1]; exact r3, r4, by rw [eo 5 ii.1]; exact r5, r6, r7, r8.1, by rw [eo 2 (by omega)]; exact r8.2.1, by rw [eo 3 (by omega)]; exact r8.2.2⟩
    have h' : lR0 n a' m (l + 1) l (sI z' q (nI k)) w' := lR_mk h f1 g5 hr (by rw [eo 6 ii.2.1, eo 8 ii.2.2.2.1]; exact g8) (by rw [eo 7 ii.2.2.1]; exact g9) (by
      obtain ⟨⟨u, u1, u2, u3⟩, ⟨v, v1, v2, v3⟩, ⟨x, x1, x2, x3⟩, wt⟩ := ru
      refine ⟨⟨u, u1, by rw [eo 17 ii.2.2.2.2.2, g4.1 17 (by decide)]; exact u2, by rw [g6, upd_i, if_neg (by omega)]; exact u3⟩, ?_, ?_, fun i hi => ?_⟩
      · rcases hq with ⟨es, eq⟩ | ⟨es, eq⟩
        · subst es eq
          exact ⟨k, hk, rfl, by rw [g6]; rfl⟩
        · subst es eq
          exact ⟨v, v1, by show z'.1 18 = _; rw [g4.1 18 (by decide)]; exact v2, by rw [g6]; exact v3⟩
      · rcases hq with ⟨es, eq⟩ | ⟨es, eq⟩
        · subst es eq
          exact ⟨x, x1, by show z'.1 19 = _; rw [g4.1 19 (by decide)]; exact x2, by rw [g6]; exact x3⟩
        · subst es eq
          exact ⟨k, hk, rfl, by rw [g6]; rfl⟩
      · obtain ⟨f, y1, y2, y3⟩ := wt i hi
        refine ⟨f, y1, by show z'.2.1 4 i = _; rw [g4.2 4 List.not_mem_nil]; exact y2, ?_⟩
        rw [g6, upd_i, if_neg (by omega)]; exact y3)
    have st : lnP (f_X6_pass (sI z' q (nI k)) 33) (F_X12_line_125 w') n a' l (sI z' q (nI k)) w' := semi h' (fs_fr hf (by show z'.2.1 5 = _; rw [g4.2 5 List.not_mem_nil]) (by rw [g5.1 7 (by decide)]))
    refine lnP_t (a := a') (fr_m f1 (by decide) (by decide)) (fwL_3 (s := s) (fr_m g5 (by decide) (by decide)) g6) (by rw [eo 6 ii.2.1]; omega) ?_
    show lnP (if (1 : Int32) = 0 then some (0, sI z' q (nI k)) else f_X6_pass (sI z' q (nI k)) 33) (F_X12_line_125 w') n a' l (sI z' q (nI k)) w'
    rw [if_neg n1]
    exact st
