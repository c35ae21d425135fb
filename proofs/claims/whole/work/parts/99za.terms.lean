/-! PURE: terms -/
theorem tok_end {tk nm st vl : Int32} (h : tokR tk nm st vl) : tk = 34 ↔ st = 3 := by
  rcases h with ⟨s1, j, hj, s2, s3⟩ | ⟨s1, s2, _⟩ | ⟨s1, i, hi, s2, _⟩ | ⟨s1, s2⟩ | ⟨s1, s2⟩
  · have := (k_pw j hj).2.2.2.2.2.2.1
    rw [s1, s3]
    exact ⟨fun q => absurd q this, fun q => absurd q (by decide)⟩
  · rw [s1, s2]; decide
  · have kk : ∀ i, i < 13 → ¬ nI (21 + i) = (34 : Int32) := by decide +kernel
    rw [s1, s2]
    exact ⟨fun q => absurd q (kk i hi), fun q => absurd q (by decide)⟩
  · rw [s1, s2]; decide
  · rw [s1, s2]; decide
theorem read_loop {n : Nat} (k : Nat) : ∀ l a m z w, lR0 n a m l l z w → fsR m z w → 8 - l < k → (∃ z' w', F_X6_read_60 k z (nI l) = some (-1, z') ∧ F_X12_terms_112 k w = F_X12_terms_134 w' ∧ fzL z z' ∧ fwL w w' ∧ bad z' w') ∨ (∃ z' w' a' m' l', F_X6_read_60 k z (nI l) = some (nI l', z') ∧ F_X12_terms_112 k w = F_X12_terms_134 w' ∧ fzL z z' ∧ fwL w w' ∧ lR0 n a' m' l' l' z' w' ∧ fsR m' z' w') := by
  induction k with
  | zero => intro l a m z w _ _ h; omega
  | succ k ih =>
    intro l a m z w h hf hk
    obtain ⟨⟨a1, a2, a3, a4, a5, a6⟩, hb, td, ru⟩ := id h
    have l7 := td_7 td
    show (∃ z' w', F_X6_read_60_b (F_X6_read_60 k) z (nI l) = some (-1, z') ∧ F_X12_terms_112_b (F_X12_terms_112 k) w = F_X12_terms_134 w' ∧ _) ∨ (∃ z' w' a' m' l', F_X6_read_60_b (F_X6_read_60 k) z (nI l) = some (nI l', z') ∧ F_X12_terms_112_b (F_X12_terms_112 k) w = F_X12_terms_134 w' ∧ _)
    unfold F_X6_read_60_b F_X6_read_99 F_X6_read_91 F_X12_terms_112_b
    rw [if_neg (show ¬ (7 : Int32) < nI l from nI_nlt (a := 7) l7 (by omega)), if_pos a5]
    by_cases ce : z.1 6 = 34
    · rw [if_pos ce, if_pos ((tok_end a2).mp ce)]
      exact Or.inr ⟨z, w, a, m, l, rfl, rfl, fr_0, fwL_0, h, hf⟩
    · rw [if_neg ce, if_neg (fun q => ce ((tok_end a2).mpr q))]
      have ecl : (oC (f_X6_lineOfTerms z) fun w3 => oL w3.1 fun v1 => oL w3.2 fun s2 => if v1 = 0 then some ((-1 : Int32), s2) else oC (f_X6_pass s2 33) fun w6 => oL w6.1 fun v4 => oL w6.2 fun s5 => if v4 = 0 then some (-1, s5) else oL (nI l + 1) fun y7 => F_X6_read_60 k s5 y7) = oC (clL z) fun v => if v.1 = 0 then some (-1, v.2) else F_X6_read_60 k v.2 (nI (l + 1)) := by
        unfold clL
        cases f_X6_lineOfTerms z with
        | none => rfl
        | some v =>
          simp only [oC_s, oL_s]
          by_cases cv : v.1 = 0
          · rw [if_pos cv, if_pos cv]; rfl
          · rw [if_neg cv, if_neg cv, nI_1]
      rw [ecl]
      rcases line_both h hf with ⟨z', w', g1, g2, g3, g4, g5⟩ | ⟨z', w', a', m', g1, g2, g3, g4, g5, g6, g7⟩
      · rw [g1, g2]
        simp only [oC_s, oL_s, ↓reduceIte]
        obtain ⟨k', rfl⟩ : ∃ k', k = k' + 1 := ⟨k - 1, by omega⟩
        have e : F_X12_terms_112 (k' + 1) w' = F_X12_terms_134 w' := by
          show F_X12_terms_112_b _ w' = _
          unfold F_X12_terms_112_b
          rw [if_neg (bad_ne g5)]
        exact Or.inl ⟨z', w', rfl, e, g3, g4, g5⟩
      · rw [g1, g2]
        have n1 : ¬ (1 : Int32) = 0 := by decide
        simp only [oC_s, oL_s, n1, ↓reduceIte]
        have l7' := td_7 g5.2.2.1
        rcases ih (l + 1) a' m' z' w' g5 g6 (by omega) with ⟨y, x, e1, e2, e3, e4, e5⟩ | ⟨y, x, b', m2, l', e1, e2, e3, e4, e5, e6⟩
        · exact Or.inl ⟨y, x, e1, e2, fr_t g3 e3, fwL_t g4 e4, e5⟩
        · exact Or.inr ⟨y, x, b', m2, l', e1, e2, fr_t g3 e3, fwL_t g4 e4, e5, e6⟩
/-- all but tape, fault and terms holds on -/
theorem Inv_t {z w z' w' : St} (h : Inv z w) (hz : fr [1, 2, 3, 4, 5, 6, 7, 8, 9, 10, 11, 12, 13, 14, 15, 16, 17, 18, 19, 20] [1, 2, 3, 4, 5, 6] z z') (hw : fr [0, 1, 2, 3, 4, 5, 6, 7, 8, 9, 10, 11, 12, 13, 14, 15, 16, 17, 18, 19] [1, 2, 3, 4] w w') (h1 : ivTape z' w') (h2 : ivFault z' w') (h3 : ivTerms z' w') : Inv z' w' := by
  obtain ⟨W, H, g1, g2, g3, g4, g5, g6, g7, g8, _⟩ := h
  refine ⟨W, H, ?_, ?_, ?_, ?_, ?_, ?_, ?_, ?_, h1, h2, h3⟩
  · unfold ivDay at *
    rw [hz.1 0 (by decide), hw.1 21 (by decide)]; exact g1
  · unfold ivLand at *
    rw [hz.1 21 (by decide), hz.1 22 (by decide), hz.1 26 (by decide), hz.1 27 (by decide), hz.1 28 (by decide), hw.1 22 (by decide), hw.1 23 (by decide)]; exact g2
  · unfold ivVil at *
    rw [hz.1 23 (by decide), hz.2 7 (by decide), hz.2 8 (by decide), hw.2 7 (by decide), hw.2 8 (by decide), hw.2 9 (by decide)]; exact g3
  · unfold ivCan canOK at *
    rw [hz.1 24 (by decide), hz.1 25 (by decide), hz.2 9 (by decide), hz.2 10 (by decide), hw.1 24 (by decide), hw.2 11 (by decide), hw.2 12 (by decide)]; exact g4
  · unfold ivNote noteOK at *
    rw [hz.1 29 (by decide), hz.2 11 (by decide), hz.2 12 (by decide), hz.2 13 (by decide), hz.2 14 (by decide), hz.2 15 (by decide), hz.2 16 (by decide), hw.1 27 (by decide), hw.2 16 (by decide), hw.2 17 (by decide), hw.2 18 (by decide), hw.2 19 (by decide), hw.2 20 (by decide), hw.2 21 (by decide)]; exact g5
  · unfold ivErr at *
    rw [hz.2 18 (by decide), hw.2 10 (by decide)]; exact g6
  · unfold ivDraft at *
    rw [hz.1 30 (by decide), hz.2 28 (by decide), hz.2 29 (by decide), hw.1 25 (by decide), hw.2 13 (by decide), hw.2 14 (by decide)]; exact g7
  · unfold ivCand at *
    rw [hz.1 37 (by decide), hz.2 37 (by decide), hw.1 26 (by decide), hw.2 15 (by decide)]; exact g8
theorem knots_cong {a b s v s' v' : Nat → Int32} : ∀ {m d : Nat}, (∀ i, i < m → s' i = s i ∧ v' i = v i) → knotsR a b s v m d → knotsR a b s' v' m d
  | 0, _, _, h => h
  | m + 1, _, hc, ⟨e, t, h1, h2, h3, h4⟩ => ⟨e, t, knots_cong (fun i hi => hc i (by omega)) h1, by rw [(hc m (by omega)).1, (hc m (by omega)).2]; exact h2, h3, h4⟩
/-- the reference takes over what it read -/
theorem p_t205 {w : St} : ∃ w', F_X12_terms_205 100000 w 0 = some (w.1 6, w') ∧ fr [2, 4, 19] [3] w w' ∧ w'.1 2 = w.1 3 ∧ w'.1 19 = w.1 5 ∧ w'.1 4 = b2 (bt (w.1 7) 1) ∧ ∀ i, i < 6 → w'.2.1 3 i = w.2.1 3 (6 + i) := by
  refine loop_i (fun k i s => ∃ w', F_X12_terms_205 k s (nI i) = some (w.1 6, w') ∧ fr [2, 4, 19] [3] w w' ∧ w'.1 2 = w.1 3 ∧ w'.1 19 = w.1 5 ∧ w'.1 4 = b2 (bt (w.1 7) 1) ∧ ∀ i, i < 6 → w'.2.1 3 i = w.2.1 3 (6 + i)) (fun i s => fr [] [3] w s ∧ ∀ j, s.2.1 3 j = if j < i then w.2.1 3 (6 + j) else w.2.1 3 j) 6 ?_ ?_ 100000 0 w (Nat.zero_le _) (by omega) ⟨fr_0, fun j => by rw [if_neg (Nat.not_lt_zero j)]⟩
  · rintro k s ⟨f, hs⟩
    show ∃ w', F_X12_terms_205_b _ s (nI 6) = _ ∧ _
    unfold F_X12_terms_205_b F_X12_terms_258
    rw [if_pos (show (6 : Int32) ≤ nI 6 from Int32.le_refl _)]
    simp only [oL_s]
    have e7 : (sI s 2 (s.1 3)).1 7 = w.1 7 := f.1 7 List.not_mem_nil
    have e3 : s.1 3 = w.1 3 := f.1 3 List.not_mem_nil
    have e5 : s.1 5 = w.1 5 := f.1 5 List.not_mem_nil
    have e6 : s.1 6 = w.1 6 := f.1 6 List.not_mem_nil
    have tb : ((w.1 7 >>> ((1 : Int32) &&& 31)) &&& (1 : Int32)) = if bt (w.1 7) 1 then 1 else 0 := b_test (w.1 7) (v := 1) (by omega)
    have fin : ∀ x : Int32, (x = 0 ∨ x = 1) → x = b2 (bt (w.1 7) 1) → ∃ w', oZ x (some ((sI (sI (sI s 2 (s.1 3)) 4 x) 19 ((sI (sI s 2 (s.1 3)) 4 x).1 5)).1 6, sI (sI (sI s 2 (s.1 3)) 4 x) 19 ((sI (sI s 2 (s.1 3)) 4 x).1 5))) = some (w.1 6, w') ∧ fr [2, 4, 19] [3] w w' ∧ w'.1 2 = w.1 3 ∧ w'.1 19 = w.1 5 ∧ w'.1 4 = b2 (bt (w.1 7) 1) ∧ ∀ i, i < 6 → w'.2.1 3 i = w.2.1 3 (6 + i) := by
      intro x hx ex
      refine ⟨sI (sI (sI s 2 (s.1 3)) 4 x) 19 ((sI (sI s 2 (s.1 3)) 4 x).1 5), ?_, ?_, e3, e5, ex, ?_⟩
      · unfold oZ
        rw [if_pos hx]
        show some (s.1 6, _) = _
        rw [e6]
      · exact fr_t (fr_m f (fun k hk => absurd hk List.not_mem_nil) (fun _ h => h)) (fr_I (fr_I (fr_I fr_0 (by decide)) (by decide)) (by decide))
      · intro i hi
        show s.2.1 3 i = _
        rw [hs, if_pos hi]
    rw [e7, tb]
    cases hb : bt (w.1 7) 1
    · rw [if_neg (by decide)]
      rw [hb] at fin
      exact fin 0 (Or.inl rfl) rfl
    · rw [if_pos (by decide)]
      rw [hb] at fin
      exact fin 1 (Or.inr rfl) rfl
  · rintro k i s hi ⟨f, hs⟩ K
    show ∃ w', F_X12_terms_205_b (F_X12_terms_205 k) s (nI i) = _ ∧ _
    unfold F_X12_terms_205_b
    have e6 : (6 : Int32) + nI i = nI (6 + i) := nI_add 6 i
    rw [if_neg (show ¬ (6 : Int32) ≤ nI i from nI_ge (b := 6) hi (by omega)), e6, oA_in _ (vp_in_nI (show 6 + i < 12 by omega) (by omega)), oA_in _ (vp_in_nI (show i < 12 by omega) (by omega)), nI_clamp (show i < 2 ^ 31 by omega), nI_clamp (show 6 + i < 2 ^ 31 by omega)]
    simp only [oL_s, nI_1]
    refine K _ ⟨fr_A f (by decide), fun j => ?_⟩
    rw [sA_eq, upd_i, hs, hs]
    by_cases ej : j = i
    · rw [if_pos ej, if_neg (by omega), if_pos (by omega), ej]
    · rw [if_neg ej]
      by_cases c : j < i
      · rw [if_pos c, if_pos (by omega)]
      · rw [if_neg c, if_neg (by omega)]
theorem p_t161 {w : St} : ∃ w', F_X12_terms_161 100000 w 0 = some (w.1 6, w') ∧ fr [2, 4, 19] [1, 2, 3] w w' ∧ w'.1 2 = w.1 3 ∧ w'.1 19 = w.1 5 ∧ w'.1 4 = b2 (bt (w.1 7) 1) ∧ (∀ i, i < 6 → w'.2.1 3 i = w.2.1 3 (6 + i)) ∧ ∀ i, i < 64 → w'.2.1 1 i = w.2.1 1 (64 + i) ∧ w'.2.1 2 i = w.2.1 2 (64 + i) := by
  refine loop_i (fun k i s => ∃ w', F_X12_terms_161 k s (nI i) = some (w.1 6, w') ∧ fr [2, 4, 19] [1, 2, 3] w w' ∧ w'.1 2 = w.1 3 ∧ w'.1 19 = w.1 5 ∧ w'.1 4 = b2 (bt (w.1 7) 1) ∧ (∀ i, i < 6 → w'.2.1 3 i = w.2.1 3 (6 + i)) ∧ ∀ i, i < 64 → w'.2.1 1 i = w.2.1 1 (64 + i) ∧ w'.2.1 2 i = w.2.1 2 (64 + i)) (fun i s => fr [] [1, 2] w s ∧ ∀ j, (s.2.1 1 j = if j < i then w.2.1 1 (64 + j) else w.2.1 1 j) ∧ (s.2.1 2 j = if j < i then w.2.1 2 (64 + j) else w.2.1 2 j)) 64 ?_ ?_ 100000 0 w (Nat.zero_le _) (by omega) ⟨fr_0, fun j => ⟨by rw [if_neg (Nat.not_lt_zero j)], by rw [if_neg (Nat.not_lt_zero j)]⟩⟩
  · rintro k s ⟨f, hs⟩
    show ∃ w', F_X12_terms_161_b _ s (nI 64) = _ ∧ _
    unfold F_X12_terms_161_b
    rw [if_pos (show (64 : Int32) ≤ nI 64 from Int32.le_refl _)]
    simp only [oL_s]
    obtain ⟨w', g1, g2, g3, g4, g5, g6⟩ := p_t205 (w := s)
    have e : ∀ j, s.1 j = w.1 j := fun j => f.1 j List.not_mem_nil
    refine ⟨w', by rw [g1, e], fr_t (fr_m f (fun k hk => absurd hk List.not_mem_nil) (by decide)) (fr_m g2 (fun _ h => h) (by decide)), by rw [g3, e], by rw [g4, e], by rw [g5, e], fun i hi => by rw [g6 i hi, f.2 3 (by decide)], fun i hi => ?_⟩
    rw [g2.2 1 (by decide), g2.2 2 (by decide), (hs i).1, (hs i).2, if_pos hi, if_pos hi]
    exact ⟨rfl, rfl⟩
  · rintro k i s hi ⟨f, hs⟩ K
    show ∃ w', F_X12_terms_161_b (F_X12_terms_161 k) s (nI i) = _ ∧ _
    unfold F_X12_terms_161_b
    have e64 : (64 : Int32) + nI i = nI (64 + i) := nI_add 64 i
    have i1 : vp_in (nI (64 + i)) 128 := vp_in_nI (by omega) (by omega)
    have i2 : vp_in (nI i) 128 := vp_in_nI (by omega) (by omega)
    rw [if_neg (show ¬ (64 : Int32) ≤ nI i from nI_ge (b := 64) hi (by omega)), e64, oA_in _ i1, oA_in _ i2, nI_clamp (show i < 2 ^ 31 by omega), nI_clamp (show 64 + i < 2 ^ 31 by omega)]
    simp only [oL_s, nI_1, oA_in _ i1, oA_in _ i2]
    refine K _ ⟨fr_A (fr_A f (by decide)) (by decide), fun j => ⟨?_, ?_⟩⟩
    · rw [sA_ne _ 2 _ _ (by omega), sA_eq, upd_i, (hs j).1, (hs (64 + i)).1]
      by_cases ej : j = i
      · rw [if_pos ej, if_neg (by omega), if_pos (by omega), ej]
      · rw [if_neg ej]
        by_cases c : j < i
        · rw [if_pos c, if_pos (by omega)]
        · rw [if_neg c, if_neg (by omega)]
    · rw [sA_eq, upd_i, sA_ne _ 1 _ _ (by omega), (hs j).2, (hs (64 + i)).2]
      by_cases ej : j = i
      · rw [if_pos ej, if_neg (by omega), if_pos (by omega), ej]
      · rw [if_neg ej]
        by_cases c : j < i
        · rw [if_pos c, if_pos (by omega)]
        · rw [if_neg c, if_neg (by omega)]
/-- the reference begins anew -/
theorem p_t68 {w : St} : ∃ s : St, F_X12_terms_68 100000 w 6 = (oC (f_X12_next s) fun s2 => F_X12_terms_112 100000 s2) ∧ fr [] [3] w s ∧ (∀ i, i < 6 → s.2.1 3 i = w.2.1 3 i) ∧ (∀ i, 6 ≤ i → i < 12 → s.2.1 3 i = if i = 10 then 10 else if i = 11 then 5 else 0) := by
  refine loop_i (fun k i s => ∃ s' : St, F_X12_terms_68 k s (nI i) = (oC (f_X12_next s') fun s2 => F_X12_terms_112 100000 s2) ∧ fr [] [3] w s' ∧ (∀ i, i < 6 → s'.2.1 3 i = w.2.1 3 i) ∧ (∀ i, 6 ≤ i → i < 12 → s'.2.1 3 i = if i = 10 then 10 else if i = 11 then 5 else 0)) (fun i s => 6 ≤ i ∧ fr [] [3] w s ∧ (∀ j, j < 6 → s.2.1 3 j = w.2.1 3 j) ∧ ∀ j, 6 ≤ j → j < i → s.2.1 3 j = if j = 10 then 10 else if j = 11 then 5 else 0) 12 ?_ ?_ 100000 6 w (by omega) (by omega) ⟨Nat.le_refl _, fr_0, fun _ _ => rfl, fun j h1 h2 => by omega⟩
  · rintro k s ⟨_, f, h1, h2⟩
    refine ⟨s, ?_, f, h1, h2⟩
    show F_X12_terms_68_b _ s (nI 12) = _
    unfold F_X12_terms_68_b
    rw [if_pos (show (12 : Int32) ≤ nI 12 from Int32.le_refl _)]
    simp only [oL_s]
  · rintro k i s hi ⟨h6, f, h1, h2⟩ K
    show ∃ s' : St, F_X12_terms_68_b (F_X12_terms_68 k) s (nI i) = _ ∧ _
    unfold F_X12_terms_68_b F_X12_terms_101
    rw [if_neg (show ¬ (12 : Int32) ≤ nI i from nI_ge (b := 12) hi (by omega)), oA_in _ (vp_in_nI (show i < 12 by omega) (by omega)), oA_in _ (vp_in_nI (show i < 12 by omega) (by omega)), oA_in _ (vp_in_nI (show i < 12 by omega) (by omega)), nI_clamp (show i < 2 ^ 31 by omega)]
    simp only [oL_s, nI_1]
    have go : ∀ v : Int32, v = (if i = 10 then 10 else if i = 11 then 5 else 0) → ∃ s' : St, F_X12_terms_68 k (sA s 3 (upd (s.2.1 3) i v)) (nI (i + 1)) = (oC (f_X12_next s') fun s2 => F_X12_terms_112 100000 s2) ∧ fr [] [3] w s' ∧ (∀ i, i < 6 → s'.2.1 3 i = w.2.1 3 i) ∧ (∀ i, 6 ≤ i → i < 12 → s'.2.1 3 i = if i = 10 then 10 else if i = 11 then 5 else 0) := by
      intro v hv
      refine K _ ⟨by omega, fr_A f (by decide), fun j hj => ?_, fun j j1 j2 => ?_⟩
      · rw [sA_eq, upd_i, if_neg (by omega)]; exact h1 j hj
      · rw [sA_eq, upd_i]
        by_cases ej : j = i
        · rw [if_pos ej, ej]; exact hv
        · rw [if_neg ej]; exact h2 j j1 (by omega)
    by_cases c10 : i = 10
    · rw [if_pos (show nI i = (10 : Int32) by rw [c10]; rfl)]
      exact go 10 (by rw [if_pos c10])
    · rw [if_neg (show ¬ nI i = (10 : Int32) from fun q => c10 ((nI_eq (b := 10) (by omega) (by omega)).mp q))]
      by_cases c11 : i = 11
      · rw [if_pos (show nI i = (11 : Int32) by rw [c11]; rfl)]
        exact go 5 (by rw [if_neg c10, if_pos c11])
      · rw [if_neg (show ¬ nI i = (11 : Int32) from fun q => c11 ((nI_eq (b := 11) (by omega) (by omega)).mp q))]
        exact go 0 (by rw [if_neg c10, if_neg c11])
