/-! PURE: knows, explained -/
theorem c_person (z w : St) (x : Int32) : (f_X11_isPerson z x = some (0, z) ∧ f_X12_isPerson w x = some (0, w)) ∨ ∃ p, p < 8 ∧ x = nI p ∧ f_X11_isPerson z x = some (1, z) ∧ f_X12_isPerson w x = some (1, w) := by
  rw [p_isPerson, p_isPersonR]
  by_cases a : x < 0 ∨ (8 : Int32) ≤ x
  · left; rw [if_pos a]; exact ⟨rfl, rfl⟩
  · right
    obtain ⟨j, hj, rfl⟩ := nI_of (fun q => a (Or.inl q))
    refine ⟨j, ?_, rfl, ?_, ?_⟩
    · rcases Nat.lt_or_ge j 8 with q | q
      · exact q
      · exact absurd (Or.inr (nI_le q hj)) a
    · rw [if_neg a]
    · rw [if_neg a]
theorem c_draft {z w : St} {d : Nat} (hd : d ≤ 12) (e1 : z.1 30 = nI d) (e2 : w.1 25 = nI d) (x : Int32) : (f_X1_has z x = some (0, z) ∧ f_X12_isDraft w x = some (0, w)) ∨ ∃ p, p < d ∧ x = nI p ∧ f_X1_has z x = some (1, z) ∧ f_X12_isDraft w x = some (1, w) := by
  rw [p_has1, p_isDraft, e1, e2]
  by_cases a : x < 0 ∨ nI d ≤ x
  · left; rw [if_pos a]; exact ⟨rfl, rfl⟩
  · right
    obtain ⟨j, hj, rfl⟩ := nI_of (fun q => a (Or.inl q))
    refine ⟨j, ?_, rfl, ?_, ?_⟩
    · rcases Nat.lt_or_ge j d with q | q
      · exact q
      · exact absurd (Or.inr (nI_le q hj)) a
    · rw [if_neg a]
    · rw [if_neg a]
theorem knZ_of {z w : St} {x : Int32} {m : Nat} {g : Nat → Int32} (hz : ntZ z w m) (hg : ∀ i, i < m → g i = b2 (kn w x m i)) : knZ (sA z 17 g) w x m := ⟨hz.1, hz.2.1, hz.2.2.1, hz.2.2.2.1, hz.2.2.2.2.1, hg⟩
theorem knW_of {w : St} {x : Int32} {m n : Nat} {g h : Nat → Int32} (hw : ntW w m n) (hg : ∀ i, i < m → h i = b2 (kn w x m i)) : knW (sA (sA w 22 g) 23 h) w x m := ⟨hw.2.1, rfl, rfl, rfl, rfl, rfl, rfl, hg⟩
theorem q_knows {z w : St} (h : Inv z w) (x1 x2 x3 : Int32) : Ok (f_X11_knows z x1 x2 x3) (f_X12_knows w x1 x2 x3) := by
  have h' := h
  obtain ⟨W, H, hDy, hL, hV, hC, hN, hE, ⟨dn, hdn, d1, d2, _⟩, hK, hT, hF, hR⟩ := h
  unfold f_X11_knows F_X11_knows_0 F_X11_knows_25 F_X11_knows_72 f_X12_knows F_X12_knows_0 F_X12_knows_27 F_X12_knows_62
  rcases c_person z (sI w 0 0) x1 with ⟨g1, g2⟩ | ⟨p, hp, rfl, g1, g2⟩
  · simp only [oL_s, g1, g2, oC_s, ↓reduceIte]
    exact ⟨-1, _, _, rfl, rfl, Inv_0 h'⟩
  simp only [oL_s, g1, g2, oC_s, i10, ↓reduceIte]
  rcases c_draft (w := sI w 0 0) hdn d1 d2 x2 with ⟨u1, u2⟩ | ⟨d, hd, rfl, u1, u2⟩
  · simp only [oL_s, u1, u2, oC_s, ↓reduceIte]
    exact ⟨-1, _, _, rfl, rfl, Inv_0 h'⟩
  simp only [oL_s, u1, u2, oC_s, i10, ↓reduceIte]
  rcases c_day z (sI w 0 0) x3 with ⟨v1, v2⟩ | ⟨k, hk, rfl, v1, v2⟩
  · simp only [v1, v2, oC_s, oL_s, ↓reduceIte]
    exact ⟨-1, _, _, rfl, rfl, Inv_0 h'⟩
  simp only [v1, v2, oC_s, oL_s, i10, ↓reduceIte]
  obtain ⟨m, hz, hw⟩ := nt_of (w := sI w 0 0) hN
  obtain ⟨g, t1, hg⟩ := p_sift hz hw (nI k)
  obtain ⟨ga, gb, t2, hgb⟩ := p_knows hw (nI k)
  obtain ⟨g35, s1, a1⟩ := p_spread (knZ_of hz hg) hw (nI d) (-1)
  obtain ⟨g26, s2, a2⟩ := p_spreads (knW_of (g := ga) hw hgb) hw (nI d) (-1)
  have hin : vp_in (nI p) 8 := vp_in_nI hp (by omega)
  rw [t1, t2]
  simp only [oC_s]
  rw [s1, s2]
  simp only [oC_s, oA_in _ hin, nI_clamp (show p < 2 ^ 31 by omega), sA_eq, (a1 p hp).1, (a2 p hp).1]
  have hi : Inv (sA (sA z 17 g) 35 g35) (sA (sA (sA (sI w 0 0) 22 ga) 23 gb) 26 g26) := Inv_q h' (fr_A (fr_A fr_0 (by decide)) (by decide)) (fr_A (fr_A (fr_A (fr_I fr_0 (by decide)) (by decide)) (by decide)) (by decide))
  by_cases c : nI (spr (sI w 0 0) (nI k) m (nI d) (-1) p) = (1000 : Int32)
  · rw [if_pos c, if_pos c]; exact ⟨_, _, _, rfl, rfl, hi⟩
  · rw [if_neg c, if_neg c]; exact ⟨_, _, _, rfl, rfl, hi⟩
/-- a sight that makes the act a sure -/
def sure (w : St) (x : Int32) (m a i : Nat) : Prop := kn w x m i = true ∧ w.2.1 16 i = 0 ∧ w.2.1 18 i = w.2.1 18 a ∧ w.2.1 19 i = w.2.1 19 a ∧ ¬ w.2.1 20 a < w.2.1 20 i
theorem q_explained {z w : St} (h : Inv z w) (x1 x2 : Int32) : Ok (f_X11_explained z x1 x2) (f_X12_explained w x1 x2) := by
  have h' := h
  obtain ⟨W, H, hDy, hL, hV, hC, hN, hE, hD, hK, hT, hF, hR⟩ := h
  obtain ⟨m, hz, hw⟩ := nt_of (w := sI w 0 0) hN
  have hm := hw.1
  have e27 : (sI w 0 0).1 27 = nI m := hw.2.1
  unfold f_X11_explained F_X11_explained_0 F_X11_explained_18 f_X12_explained F_X12_explained_0 F_X12_explained_34 F_X12_explained_98
  rw [p_has, hz.1]
  simp only [oC_s, oL_s, e27]
  by_cases a0 : x1 < 0
  · rw [if_pos (Or.inl a0), if_pos rfl, if_pos a0]
    exact ⟨-1, _, _, rfl, rfl, Inv_0 h'⟩
  by_cases a1 : nI m ≤ x1
  · rw [if_pos (Or.inr a1), if_pos rfl, if_neg a0, if_pos a1]
    exact ⟨-1, _, _, rfl, rfl, Inv_0 h'⟩
  rw [if_neg (fun q => Or.elim q a0 a1), if_neg (by decide), if_neg a0, if_neg a1]
  obtain ⟨a, ha0, rfl⟩ := nI_of a0
  have ha : a < m := by rcases Nat.lt_or_ge a m with q | q; exact q; exact absurd (nI_le q ha0) a1
  have hin : vp_in (nI a) 80 := vp_in_nI (by omega) (by omega)
  rw [oA_in _ hin, nI_clamp (by omega)]
  rcases c_day z (sI w 0 0) x2 with ⟨v1, v2⟩ | ⟨k, hk, rfl, v1, v2⟩
  · simp only [v1, v2, oC_s, oL_s, ↓reduceIte]
    refine ⟨-1, _, sI w 0 0, rfl, ?_, Inv_0 h'⟩
    by_cases q : (sI w 0 0).2.1 16 a = (2 : Int32)
    · rw [if_pos q]
    · rw [if_neg q]
  simp only [v1, v2, oC_s, oL_s, i10, ↓reduceIte]
  obtain ⟨g, t1, hg⟩ := p_sift hz hw (nI k)
  obtain ⟨ga, gb, t2, hgb⟩ := p_knows hw (nI k)
  rw [t1, t2]
  simp only [oC_s, oL_s, oA_in _ hin]
  rw [p_isKnown _ _ (show a < 80 by omega)]
  have e17 : (sA z 17 g).2.1 17 a = b2 (kn (sI w 0 0) (nI k) m a) := hg a ha
  have e11 : (sA z 17 g).2.1 11 a = (sI w 0 0).2.1 16 a := congrFun hz.2.1 a
  have e23 : (sA (sA (sI w 0 0) 22 ga) 23 gb).2.1 23 a = b2 (kn (sI w 0 0) (nI k) m a) := hgb a ha
  rw [e17, e11, e23]
  simp only [oC_s, oL_s, b2_0]
  have i1 : Inv (sA z 17 g) (sI w 0 0) := Inv_q h' (fr_A fr_0 (by decide)) (fr_I fr_0 (by decide))
  have i2 : Inv (sA z 17 g) (sA (sA (sI w 0 0) 22 ga) 23 gb) := Inv_q h' (fr_A fr_0 (by decide)) (fr_A (fr_A (fr_I fr_0 (by decide)) (by decide)) (by decide))
  by_cases k2 : (sI w 0 0).2.1 16 a = (2 : Int32)
  · rw [if_pos k2, if_pos k2]
    by_cases kk : kn (sI w 0 0) (nI k) m a = false
    · rw [if_pos kk, if_pos kk, if_pos rfl]
      exact ⟨-1, _, _, rfl, rfl, i2⟩
    · rw [if_neg kk, if_neg kk, if_neg (by decide)]
      obtain ⟨h1, h2, h3, h4, h5, h6⟩ := nt_sight hw ha (Or.inr k2)
      have kz := knZ_of hz hg
      have kw := knW_of (g := ga) hw hgb
      obtain ⟨g35, s1, b1⟩ := p_spread kz hw ((sI w 0 0).2.1 18 a) (-1)
      obtain ⟨g26, s2, b2'⟩ := p_spreads kw hw ((sI w 0 0).2.1 18 a) (-1)
      have hin8 : vp_in (nI (n2 (sI w 0 0) a)) 8 := vp_in_nI h2 (by omega)
      have i3 : Inv (sA (sA z 17 g) 35 g35) (sA (sA (sA (sI w 0 0) 22 ga) 23 gb) 26 g26) := Inv_q i2 (fr_A fr_0 (by decide)) (fr_A fr_0 (by decide))
      -- the class
      have cC := lp_find (fun n i => F_X7_explain_34 n (sA z 17 g) ((sI w 0 0).2.1 18 a) ((sI w 0 0).2.1 19 a) ((sI w 0 0).2.1 20 a) (nI i)) (sure (sI w 0 0) (nI k) m a) m (some ((2 : Int32), sA z 17 g)) (some (if (sI w 0 0).2.1 20 a < nI (spr (sI w 0 0) (nI k) m ((sI w 0 0).2.1 18 a) (-1) (n2 (sI w 0 0) a)) then 0 else 1, sA (sA z 17 g) 35 g35)) ?_ ?_ ?_ 100000 (by omega)
      rotate_left
      · intro n'
        show F_X7_explain_34_b _ (sA z 17 g) _ _ _ (nI m) = _
        unfold F_X7_explain_34_b F_X7_explain_132
        rw [kz.1, if_pos (Int32.le_refl _), s1]
        simp only [oC_s, oL_s]
        rw [h5, oA_in _ hin8, nI_clamp (by omega), sA_eq, (b1 _ h2).1]
        by_cases c : (sI w 0 0).2.1 20 a < nI (spr (sI w 0 0) (nI k) m ((sI w 0 0).2.1 18 a) (-1) (n2 (sI w 0 0) a))
        · rw [if_pos c, if_pos c]
        · rw [if_neg c, if_neg c]
      · intro n' i hi hp
        have hini : vp_in (nI i) 80 := vp_in_nI (by omega) (by omega)
        obtain ⟨p1, p2, p3, p4, p5⟩ := hp
        show F_X7_explain_34_b _ (sA z 17 g) _ _ _ (nI i) = _
        unfold F_X7_explain_34_b
        rw [p_isKnown _ _ (show i < 80 by omega), kz.1, if_neg (nI_ge hi (by omega)), kz.2.1, kz.2.2.2.2.2 i hi]
        simp only [oC_s, oL_s, b2_0]
        rw [if_neg (show ¬ kn (sI w 0 0) (nI k) m i = false by rw [p1]; decide), if_pos p2, if_neg (by decide), oA_in _ hini, nI_clamp (by omega), kz.2.2.1, if_pos p3, oA_in _ hini, kz.2.2.2.1, if_pos p4, oA_in _ hini, kz.2.2.2.2.1, if_neg p5]
      · intro n' i hi hp
        have hini : vp_in (nI i) 80 := vp_in_nI (by omega) (by omega)
        show F_X7_explain_34_b (F_X7_explain_34 n') (sA z 17 g) _ _ _ (nI i) = F_X7_explain_34 n' (sA z 17 g) _ _ _ (nI (i + 1))
        unfold F_X7_explain_34_b F_X7_explain_104
        rw [p_isKnown _ _ (show i < 80 by omega), kz.1, if_neg (nI_ge hi (by omega)), kz.2.1, kz.2.2.2.2.2 i hi]
        simp only [oC_s, oL_s, b2_0, nI_1, oA_in _ hini, nI_clamp (show i < 2 ^ 31 by omega)]
        rw [kz.2.2.1, kz.2.2.2.1, kz.2.2.2.2.1]
        by_cases p1 : kn (sI w 0 0) (nI k) m i = false
        · rw [if_pos p1, if_pos rfl]
        · rw [if_neg p1]
          by_cases p2 : (sI w 0 0).2.1 16 i = 0
          · rw [if_pos p2, if_neg (by decide)]
            by_cases p3 : (sI w 0 0).2.1 18 i = (sI w 0 0).2.1 18 a
            · rw [if_pos p3]
              by_cases p4 : (sI w 0 0).2.1 19 i = (sI w 0 0).2.1 19 a
              · rw [if_pos p4]
                by_cases p5 : (sI w 0 0).2.1 20 a < (sI w 0 0).2.1 20 i
                · rw [if_pos p5]
                · exact absurd ⟨by simpa using p1, p2, p3, p4, p5⟩ hp
              · rw [if_neg p4]
            · rw [if_neg p3]
          · rw [if_neg p2, if_pos rfl]
      -- the reference
      have cR := lp_find (fun n i => F_X12_isSure_2 n (sA (sA (sI w 0 0) 22 ga) 23 gb) (nI a) (nI i)) (sure (sI w 0 0) (nI k) m a) m (some ((1 : Int32), sA (sA (sI w 0 0) 22 ga) 23 gb)) (some ((0 : Int32), sA (sA (sI w 0 0) 22 ga) 23 gb)) ?_ ?_ ?_ 100000 (by omega)
      rotate_left
      · intro n'
        show F_X12_isSure_2_b _ _ (nI a) (nI m) = _
        unfold F_X12_isSure_2_b
        rw [kw.1, if_pos (Int32.le_refl _)]
      · intro n' i hi hp
        have hini : vp_in (nI i) 80 := vp_in_nI (by omega) (by omega)
        obtain ⟨p1, p2, p3, p4, p5⟩ := hp
        show F_X12_isSure_2_b _ _ (nI a) (nI i) = _
        unfold F_X12_isSure_2_b
        simp only [oA_in _ hini, oA_in _ hin, nI_clamp (show i < 2 ^ 31 by omega), nI_clamp (show a < 2 ^ 31 by omega)]
        rw [kw.1, if_neg (nI_ge hi (by omega)), kw.2.2.2.2.2.2.2 i hi, if_neg (show ¬ b2 (kn (sI w 0 0) (nI k) m i) = 0 by rw [p1]; decide), kw.2.2.1, if_pos p2, kw.2.2.2.1, if_pos p3, kw.2.2.2.2.1, if_pos p4, kw.2.2.2.2.2.1, if_neg p5]
      · intro n' i hi hp
        have hini : vp_in (nI i) 80 := vp_in_nI (by omega) (by omega)
        show F_X12_isSure_2_b (F_X12_isSure_2 n') _ (nI a) (nI i) = F_X12_isSure_2 n' _ (nI a) (nI (i + 1))
        unfold F_X12_isSure_2_b F_X12_isSure_75
        simp only [oA_in _ hini, oA_in _ hin, nI_clamp (show i < 2 ^ 31 by omega), nI_clamp (show a < 2 ^ 31 by omega), oL_s, nI_1]
        rw [kw.1, if_neg (nI_ge hi (by omega)), kw.2.2.2.2.2.2.2 i hi, kw.2.2.1, kw.2.2.2.1, kw.2.2.2.2.1, kw.2.2.2.2.2.1]
        simp only [b2_0]
        by_cases p1 : kn (sI w 0 0) (nI k) m i = false
        · rw [if_pos p1]
        · rw [if_neg p1]
          by_cases p2 : (sI w 0 0).2.1 16 i = 0
          · rw [if_pos p2]
            by_cases p3 : (sI w 0 0).2.1 18 i = (sI w 0 0).2.1 18 a
            · rw [if_pos p3]
              by_cases p4 : (sI w 0 0).2.1 19 i = (sI w 0 0).2.1 19 a
              · rw [if_pos p4]
                by_cases p5 : (sI w 0 0).2.1 20 a < (sI w 0 0).2.1 20 i
                · rw [if_pos p5]
                · exact absurd ⟨by simpa using p1, p2, p3, p4, p5⟩ hp
              · rw [if_neg p4]
            · rw [if_neg p3]
          · rw [if_neg p2]
      have fC : f_X7_explain (sA z 17 g) (nI a) = F_X7_explain_34 100000 (sA z 17 g) ((sI w 0 0).2.1 18 a) ((sI w 0 0).2.1 19 a) ((sI w 0 0).2.1 20 a) (nI 0) := by
        unfold f_X7_explain F_X7_explain_0
        simp only [oA_in _ hin, nI_clamp (show a < 2 ^ 31 by omega), oL_s]
        rw [kz.2.2.1, kz.2.2.2.1, kz.2.2.2.2.1]
        rfl
      have fR : f_X12_isSure (sA (sA (sI w 0 0) 22 ga) 23 gb) (nI a) = oC (F_X12_isSure_2 100000 (sA (sA (sI w 0 0) 22 ga) 23 gb) (nI a) (nI 0)) fun w => oZ w.1 (some w) := by
        unfold f_X12_isSure F_X12_isSure_0
        rw [oL_s]
        rfl
      rw [fC, fR]
      rcases cC with ⟨⟨j, hj, pj⟩, cC⟩ | ⟨pn, cC⟩
      · rcases cR with ⟨_, cR⟩ | ⟨pn, _⟩
        · rw [cC, cR]
          exact ⟨2, _, _, rfl, rfl, i2⟩
        · exact absurd pj (pn j hj)
      · rcases cR with ⟨⟨j, hj, pj⟩, _⟩ | ⟨_, cR⟩
        · exact absurd pj (pn j hj)
        · rw [cC, cR]
          have z0 : oC (some ((0 : Int32), sA (sA (sI w 0 0) 22 ga) 23 gb)) (fun w => oZ w.1 (some w)) = some ((0 : Int32), sA (sA (sI w 0 0) 22 ga) 23 gb) := by rw [oC_s]; exact oZ_0 _
          rw [z0]
          simp only [oC_s, ↓reduceIte]
          have w18 : (sA (sA (sI w 0 0) 22 ga) 23 gb).2.1 18 a = (sI w 0 0).2.1 18 a := rfl
          rw [w18, s2]
          simp only [oC_s, sA_eq]
          have w19 : (sA (sA (sA (sI w 0 0) 22 ga) 23 gb) 26 g26).2.1 19 a = nI (n2 (sI w 0 0) a) := h5
          have w20 : (sA (sA (sA (sI w 0 0) 22 ga) 23 gb) 26 g26).2.1 20 a = (sI w 0 0).2.1 20 a := rfl
          rw [w19, w20, oA_in _ hin8, nI_clamp (show n2 (sI w 0 0) a < 2 ^ 31 by omega), (b2' _ h2).1]
          by_cases c : (sI w 0 0).2.1 20 a < nI (spr (sI w 0 0) (nI k) m ((sI w 0 0).2.1 18 a) (-1) (n2 (sI w 0 0) a))
          · rw [if_pos c, if_pos c]; exact ⟨0, _, _, rfl, rfl, i3⟩
          · rw [if_neg c, if_neg c]; exact ⟨1, _, _, rfl, rfl, i3⟩
  · rw [if_neg k2, if_neg k2]
    refine ⟨-1, _, _, ?_, rfl, i1⟩
    by_cases kk : kn (sI w 0 0) (nI k) m a = false
    · rw [if_pos kk, if_pos rfl]
    · rw [if_neg kk, if_pos rfl]
