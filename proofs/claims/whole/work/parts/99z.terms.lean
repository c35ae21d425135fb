/-! PURE: terms: weigh; all lines; terms -/
theorem weigh_both {n a m l : Nat} {z w : St} (h : lR0 n a m l l z w) (hf : fsR m z w) : lnP (oC (f_X6_weighLine z) fun v => if v.1 = 0 then some (0, v.2) else f_X6_pass v.2 33) (oC (f_X12_once w 8 10) fun w19 => if w19.1 = 0 then some w19.2 else oC (f_X12_next w19.2) fun s22 => oC (f_X12_number s22 (((1 : Int32) + (w19.2.1 12)) - (8 : Int32)) 999) fun s25 => F_X12_line_125 s25) n a l z w := by
  obtain ⟨⟨a1, a2, a3, a4, a5, a6⟩, hb, td, ru⟩ := id h
  have n1 : ¬ (1 : Int32) = 0 := by decide
  have tt : ∀ c : Option (Int32 × St), oT (2 : Int32) c = c := fun c => rfl
  have hbd : bad (sI (sI z 2 1) 3 (z.1 7)) (sI (sI w 13 1) 14 (w.1 10)) := bad_mk (f := 1) (by omega) (by omega) a3
  have no : (z.1 6 < 8 ∨ ¬ z.1 6 ≤ 10) → f_X12_once w 8 10 = some (0, sI (sI w 13 1) 14 (w.1 10)) → lnP (oC (f_X6_weighLine z) fun v => if v.1 = 0 then some (0, v.2) else f_X6_pass v.2 33) (oC (f_X12_once w 8 10) fun w19 => if w19.1 = 0 then some w19.2 else oC (f_X12_next w19.2) fun s22 => oC (f_X12_number s22 (((1 : Int32) + (w19.2.1 12)) - (8 : Int32)) 999) fun s25 => F_X12_line_125 s25) n a l z w := by
    intro q1 q2
    have e : f_X6_weighLine z = some (0, sI (sI z 2 1) 3 (z.1 7)) := by
      unfold f_X6_weighLine F_X6_weighLine_0 F_X6_weighLine_18
      rw [p_refuse]
      simp only [oC_s, oL_s]
      rcases q1 with q | q
      · rw [if_pos q]; rfl
      · rw [if_neg q, ite_self]; rfl
    rw [e, q2]
    simp only [oC_s, ↓reduceIte]
    exact Or.inl ⟨_, _, rfl, rfl, fzL_T (fz_ref z _ _), fwL_T (fw_wr w _ _), hbd⟩
  have o51 : F_X12_once_51 (sI (sI w 13 1) 14 (w.1 10)) = some (0, sI (sI w 13 1) 14 (w.1 10)) := by
    unfold F_X12_once_51
    rw [if_neg (bad_ne hbd)]
  rcases tok_w a2 with ⟨s1, j, hj, s2, s3⟩ | ⟨s1, t, t20, t40, s3⟩
  · obtain ⟨_, k2, k3⟩ := k_unit j hj
    have pj := (k_pw j hj).2.2.2.2.2.2.2.2.2
    by_cases c : 8 ≤ j ∧ j ≤ 10
    · have ej := k3 (by omega) (by omega)
      have hk : kK j = true := by
        rcases (show j = 8 ∨ j = 9 ∨ j = 10 by omega) with e | e | e <;> subst e <;> rfl
      have q1 : ¬ z.1 6 < 8 := by rw [s3, ej]; exact nI_nlt (b := 8) (by omega) (by omega)
      have q2 : z.1 6 ≤ 10 := by rw [s3, ej]; exact nI_le (b := 10) (by omega) (by omega)
      have r1 : ¬ w.1 12 < 8 := by rw [s2]; exact nI_nlt (b := 8) (by omega) (by omega)
      have r2 : w.1 12 ≤ 10 := by rw [s2]; exact nI_le (b := 10) (by omega) (by omega)
      have e8 : z.1 6 - (8 : Int32) = nI (j - 8) := by rw [s3, ej]; exact nI_sub (b := 8) (by omega)
      have i3 : vp_in (nI (j - 8)) 3 := vp_in_nI (by omega) (by omega)
      have wl : f_X6_weighLine z = oC (oC (f_X6_once z) fun w4 => if w4.1 = 0 then F_X6_weighLine_53 w4.2 (nI (j - 8)) else oC (f_X6_amount w4.2 999) fun w7 => if w7.1 = 0 then F_X6_weighLine_53 w7.2 (nI (j - 8)) else F_X6_weighLine_54 w7.2 (nI (j - 8)) 1) fun w => oZ w.1 (some w) := by
        unfold f_X6_weighLine F_X6_weighLine_0
        rw [if_neg q1, if_pos q2, e8]
        simp only [oL_s]
      have w54 : ∀ (s : St) (x : Int32), s.1 12 = 2 → F_X6_weighLine_54 s (nI (j - 8)) x = some (x, sA s 4 (upd (s.2.1 4) (j - 8) (s.1 9))) := by
        intro s x es
        unfold F_X6_weighLine_54
        rw [es, tt, oA_in _ i3, nI_clamp (by omega)]
        simp only [oL_s]
      rw [wl]
      unfold F_X6_weighLine_53
      rcases once_both h hk s1 s2 s3 r1 r2 with ⟨z', w', g1, g2, g3, g4, g5⟩ | ⟨z1, w1, w', a', g1, g2, g2', g3, g4, g5, g6, g7, g8, g9, g10⟩
      · rw [g1, g2]
        have e12 : z'.1 12 = 2 := by rw [g3.1 12 (by decide)]; exact a4
        simp only [oC_s, ↓reduceIte]
        rw [w54 z' 0 e12]
        exact Or.inl ⟨_, w', rfl, rfl, fr_A g3 (by decide), g4, bad_A g5⟩
      · rw [g1, g2]
        simp only [oC_s, n1, ↓reduceIte]
        rw [g3]
        simp only [oC_s]
        have es : ((1 : Int32) + w1.1 12) - (8 : Int32) = nI (j - 7) := by
          rw [g2', s2, show (1 : Int32) + nI j = nI (1 + j) from nI_add 1 j, show (8 : Int32) = nI 8 from rfl, nI_sub (by omega)]
          congr 1; omega
        rw [es]
        have hf1 : fsR m z1 w' := by
          unfold fsR
          rw [g10, g8, decide_eq_false (by omega), Bool.or_false]
          exact hf
        rcases amt_both (M := 999) (s := j - 7) g4 (by omega) (by omega) with ⟨z2, w2, m1, m2, m3, m4, m5, m6⟩ | ⟨z2, w2, a2', k, hk9, m1, m2, m3, m4, m5, m6, m7, m8, m9, m10⟩
        · have m1' : f_X6_amount z1 999 = some (0, z2) := m1
          have m2' : f_X12_number w' (nI (j - 7)) 999 = some w2 := m2
          rw [m1', m2']
          simp only [oC_s, ↓reduceIte]
          rw [w54 z2 0 m6, l125_bad (bad_ne m5)]
          exact Or.inl ⟨_, w2, rfl, rfl, fr_A (fr_t g5 m3) (by decide), fwL_t g6 m4, bad_A m5⟩
        · have m1' : f_X6_amount z1 999 = some (1, z2) := m1
          have m2' : f_X12_number w' (nI (j - 7)) 999 = some w2 := m2
          have e12 : z2.1 12 = 2 := by rw [m4.1 12 (by decide)]; exact g4.1.2.2.2.1
          rw [m1', m2']
          simp only [oC_s, n1, ↓reduceIte]
          rw [w54 z2 1 e12, m3]
          have f1 : fr [5, 6, 7, 8, 9, 17, 18, 19] [4] z1 (sA z2 4 (upd (z2.2.1 4) (j - 8) (nI k))) := fr_A (fr_m m4 (by decide) (by decide)) (by decide)
          have h' : lR0 n a2' m (l + 1) l (sA z2 4 (upd (z2.2.1 4) (j - 8) (nI k))) w2 := lR_mk g4 f1 m5 m7 m8 m9 (by
            obtain ⟨⟨u, u1, u2, u3⟩, ⟨v, v1, v2, v3⟩, ⟨x, x1, x2, x3⟩, wt⟩ := g4.2.2.2
            refine ⟨⟨u, u1, by show z2.1 17 = _; rw [m4.1 17 (by decide)]; exact u2, by rw [m6, upd_i, if_neg (by omega)]; exact u3⟩, ⟨v, v1, by show z2.1 18 = _; rw [m4.1 18 (by decide)]; exact v2, by rw [m6, upd_i, if_neg (by omega)]; exact v3⟩, ⟨x, x1, by show z2.1 19 = _; rw [m4.1 19 (by decide)]; exact x2, by rw [m6, upd_i, if_neg (by omega)]; exact x3⟩, fun i hi => ?_⟩
            rw [sA_eq, m6, upd_i, upd_i]
            by_cases ei : i = j - 8
            · rw [if_pos ei, if_pos (by omega)]
              exact ⟨k, hk9, rfl, rfl⟩
            · rw [if_neg ei, if_neg (by omega), m4.2 4 List.not_mem_nil]
              exact wt i hi)
          have st : lnP (f_X6_pass (sA z2 4 (upd (z2.2.1 4) (j - 8) (nI k))) 33) (F_X12_line_125 w2) n a2' l (sA z2 4 (upd (z2.2.1 4) (j - 8) (nI k))) w2 := semi h' (fs_fr hf1 (by show z2.2.1 5 = _; rw [m4.2 5 List.not_mem_nil]) (by rw [m5.1 7 (by decide)]))
          have mm : muT n a2' ((sA z2 4 (upd (z2.2.1 4) (j - 8) (nI k))).1 6) ≤ muT n a (z.1 6) := by
            show muT n a2' (z2.1 6) ≤ _
            omega
          refine lnP_t (a := a2') (fr_t g5 (fr_m f1 (by decide) (by decide))) (fwL_t g6 (fwL_3 (s := j - 7) (fr_m m5 (by decide) (by decide)) m6)) mm ?_
          show lnP (if (1 : Int32) = 0 then some (0, sA z2 4 (upd (z2.2.1 4) (j - 8) (nI k))) else f_X6_pass (sA z2 4 (upd (z2.2.1 4) (j - 8) (nI k))) 33) (F_X12_line_125 w2) n a2' l (sA z2 4 (upd (z2.2.1 4) (j - 8) (nI k))) w2
          rw [if_neg n1]
          exact st
    · have c' : ¬ (8 ≤ pmW j ∧ pmW j ≤ 10) := fun q => c (k2.mp q)
      apply no
      · rw [s3]
        by_cases d : pmW j < 8
        · exact Or.inl (nI_lt (b := 8) d (by omega))
        · exact Or.inr (nI_ge (a := 10) (by omega) (by omega))
      · unfold f_X12_once F_X12_once_0 F_X12_once_23
        rw [if_pos s1, s2, p_wrong0 a5]
        simp only [oC_s, oL_s]
        rw [o51]
        by_cases d : j < 8
        · rw [if_pos (show nI j < (8 : Int32) from nI_lt (b := 8) d (by omega))]; rfl
        · rw [if_neg (show ¬ nI j < (8 : Int32) from nI_nlt (b := 8) (by omega) (by omega)), if_neg (show ¬ nI j ≤ (10 : Int32) from nI_ge (a := 10) (by omega) (by omega))]; rfl
  · apply no
    · rw [s3]; exact Or.inr (nI_ge (a := 10) (by omega) (by omega))
    · unfold f_X12_once F_X12_once_0 F_X12_once_23
      rw [if_neg s1, p_wrong0 a5]
      simp only [oC_s, oL_s]
      rw [o51]; rfl
/-- a boolean answer is 0 or 1 -/
theorem oZ_01 {f : Option (Int32 × St)} {v : Int32} {s : St} (h : (oC f fun w => oZ w.1 (some w)) = some (v, s)) : v = 0 ∨ v = 1 := by
  cases f with
  | none => cases h
  | some u =>
    rw [oC_s] at h
    unfold oZ at h
    by_cases c : u.1 = 0 ∨ u.1 = 1
    · rw [if_pos c] at h; cases h; exact c
    · rw [if_neg c] at h; cases h
theorem amt_z (z : St) (x : Int32) : ∀ v s, f_X6_amount z x = some (v, s) → v = 0 ∨ v = 1 := fun _ _ h => oZ_01 h
theorem pct_z (f : Option (Int32 × St)) (k : St → St) (hf : ∀ v s, f = some (v, s) → v = 0 ∨ v = 1) : (oC (oC f fun w3 => oL w3.1 fun v1 => oL w3.2 fun s2 => oT (s2.1 12) <| oL (k s2) fun s5 => some (v1, s5)) fun w => oZ w.1 (some w)) = oC f fun v => oT (v.2.1 12) (some (v.1, k v.2)) := by
  cases f with
  | none => rfl
  | some u =>
    simp only [oC_s, oL_s]
    by_cases c : u.2.1 12 = 2
    · unfold oT
      rw [if_pos c, oC_s]
      unfold oZ
      rw [if_pos (hf u.1 u.2 rfl)]
    · unfold oT
      rw [if_neg c]; rfl
theorem k_line : ∀ j, j < 20 → (j = 0 → pmW j = 0) ∧ (j = 1 → pmW j = 1) ∧ (j = 2 → pmW j = 4) ∧ (j = 3 → pmW j = 2) ∧ (j = 4 → pmW j = 3) ∧ (5 ≤ j → 5 ≤ pmW j) := by decide +kernel
theorem line_both {n a m l : Nat} {z w : St} (h : lR0 n a m l l z w) (hf : fsR m z w) : lnP (clL z) (f_X12_line w) n a l z w := by
  obtain ⟨⟨a1, a2, a3, a4, a5, a6⟩, hb, td, ru⟩ := id h
  have n1 : ¬ (1 : Int32) = 0 := by decide
  have hbd : bad (sI (sI z 2 1) 3 (z.1 7)) (sI (sI w 13 1) 14 (w.1 10)) := bad_mk (f := 1) (by omega) (by omega) a3
  have no : ¬ z.1 6 = 0 → ¬ z.1 6 = 1 → ¬ z.1 6 = 2 → ¬ z.1 6 = 3 → ¬ z.1 6 = 4 → f_X12_line w = some (sI (sI w 13 1) 14 (w.1 10)) → lnP (clL z) (f_X12_line w) n a l z w := by
    intro q0 q1 q2 q3 q4 q5
    rw [q5, cl_0 (z' := sI (sI z 2 1) 3 (z.1 7)) (by
      unfold F_X6_lineOfTerms_0
      rw [if_neg q0, if_neg q1, if_neg q2, if_neg q3, if_neg q4, p_refuse]
      rfl)]
    exact Or.inl ⟨_, _, rfl, rfl, fzL_T (fz_ref z _ _), fwL_T (fw_wr w _ _), hbd⟩
  have l15 : F_X12_line_15 w = some (sI (sI w 13 1) 14 (w.1 10)) := by
    unfold F_X12_line_15
    rw [p_wrong0 a5]
    rfl
  rcases tok_w a2 with ⟨s1, j, hj, s2, s3⟩ | ⟨s1, t, t20, t40, s3⟩
  · obtain ⟨k0, k1, k2, k3, k4, k5⟩ := k_line j hj
    have pj := (k_pw j hj).2.2.2.2.2.2.2.2.2
    by_cases c4 : j ≤ 4
    case neg =>
      have p5 := k5 (by omega)
      have ne : ∀ i, i < 5 → ¬ z.1 6 = nI i := fun i hi q => by
        rw [s3] at q
        have := (nI_eq (by omega) (by omega)).mp q
        omega
      refine no (ne 0 (by omega)) (ne 1 (by omega)) (ne 2 (by omega)) (ne 3 (by omega)) (ne 4 (by omega)) ?_
      unfold f_X12_line F_X12_line_0
      rw [if_pos s1, s2, if_neg (show ¬ nI j ≤ (4 : Int32) from nI_ge (a := 4) (by omega) (by omega)), l15]
    have lj : nI j ≤ (4 : Int32) := nI_le (b := 4) c4 (by omega)
    by_cases c2 : j = 2
    · -- weigh
      subst c2
      have tk : z.1 6 = 4 := by rw [s3, k2 rfl]; rfl
      obtain ⟨z', w', a', g1, g2, g3, g4, g5, g6⟩ := lR_adv h (by rw [tk]; decide)
      have hf' : fsR m z' w' := fs_fr hf (by rw [g4.2 5 List.not_mem_nil]) (by rw [g5.1 7 (by decide)])
      have W := weigh_both g3 hf'
      have ec : clL z = oC (f_X6_weighLine z') fun v => if v.1 = 0 then some (0, v.2) else f_X6_pass v.2 33 := by
        unfold clL f_X6_lineOfTerms F_X6_lineOfTerms_0
        have q0 : ¬ (4 : Int32) = 0 := by decide
        have q1 : ¬ (4 : Int32) = 1 := by decide
        have q2 : ¬ (4 : Int32) = 2 := by decide
        have q3 : ¬ (4 : Int32) = 3 := by decide
        rw [tk, if_neg q0, if_neg q1, if_neg q2, if_neg q3, if_pos rfl, g1]
        simp only [oC_s, oL_s]
        rcases W with ⟨y', x', e1, _⟩ | ⟨y', x', b', m', e1, _⟩
        all_goals
          generalize hwl : f_X6_weighLine z' = res at e1 ⊢
          have hz : res = none ∨ ∃ v s, res = some (v, s) ∧ (v = 0 ∨ v = 1) := by
            rw [← hwl]
            unfold f_X6_weighLine
            cases F_X6_weighLine_0 z' with
            | none => exact Or.inl rfl
            | some v =>
              rw [oC_s]
              unfold oZ
              by_cases cv : v.1 = 0 ∨ v.1 = 1
              · rw [if_pos cv]; exact Or.inr ⟨v.1, v.2, rfl, cv⟩
              · rw [if_neg cv]; exact Or.inl rfl
          rcases hz with e | ⟨v, s, e, ev⟩
          · rw [e]; rfl
          · rw [e]
            rcases ev with ev | ev <;> subst ev <;> rfl
      have er : f_X12_line w = oC (f_X12_once w' 8 10) fun w19 => if w19.1 = 0 then some w19.2 else oC (f_X12_next w19.2) fun s22 => oC (f_X12_number s22 (((1 : Int32) + (w19.2.1 12)) - (8 : Int32)) 999) fun s25 => F_X12_line_125 s25 := by
        unfold f_X12_line F_X12_line_0
        rw [if_pos s1, s2, if_pos lj]
        simp only [oL_s]
        rw [if_pos (show nI 2 = (2 : Int32) from rfl), g2]
        simp only [oC_s]
      rw [ec, er]
      exact lnP_t (fr_m g4 (by decide) (by decide)) (fwL_n (fr_m g5 (by decide) (by decide))) (by omega) W
    have hk : kK j = true := by
      rcases (show j = 0 ∨ j = 1 ∨ j = 3 ∨ j = 4 by omega) with e | e | e | e <;> subst e <;> rfl
    have n2 : ¬ nI j = (2 : Int32) := fun q => c2 ((nI_eq (b := 2) (by omega) (by omega)).mp q)
    have er : f_X12_line w = oC (f_X12_once w (nI j) (nI j)) fun w4 => if w4.1 = 0 then some w4.2 else oC (f_X12_next w4.2) fun s6 => if nI j = 0 then oC (f_X12_unit s6) fun s12 => F_X12_line_125 s12 else if nI j = 1 then oC (f_X12_expression s6) fun s9 => F_X12_line_125 s9 else if nI j = 3 then oC (f_X12_number s6 4 100) fun s => F_X12_line_125 s else oC (f_X12_number s6 5 100) fun s => F_X12_line_125 s := by
      unfold f_X12_line F_X12_line_0 F_X12_line_120
      rw [if_pos s1, s2, if_pos lj]
      simp only [oL_s]
      rw [if_neg n2]
    have r1 : ¬ w.1 12 < nI j := by rw [s2]; exact nI_nlt (Nat.le_refl _) (by omega)
    have r2 : w.1 12 ≤ nI j := by rw [s2]; exact Int32.le_refl _
    -- the class: what the line does behind its word
    have ecl' : ∀ X : St → Option (Int32 × St), F_X6_lineOfTerms_0 z = (oC (f_X6_once z) fun w3 => if w3.1 = 0 then some (0, w3.2) else oC (X w3.2) fun w6 => if w6.1 = 0 then some (0, w6.2) else some (1, w6.2)) → clL z = oC (f_X6_once z) fun w3 => if w3.1 = 0 then some (0, w3.2) else oC (X w3.2) fun v => if v.1 = 0 then some (0, v.2) else f_X6_pass v.2 33 := by
      intro X hX
      unfold clL f_X6_lineOfTerms
      rw [hX]
      cases f_X6_once z with
      | none => rfl
      | some v =>
        simp only [oC_s]
        by_cases cv : v.1 = 0
        · rw [if_pos cv, if_pos cv]; rfl
        · rw [if_neg cv, if_neg cv]
          cases X v.2 with
          | none => rfl
          | some u =>
            simp only [oC_s]
            by_cases cu : u.1 = 0
            · rw [if_pos cu, if_pos cu]; rfl
            · rw [if_neg cu, if_neg cu]; rfl
    rcases once_both h hk s1 s2 s3 r1 r2 with ⟨z', w', g1, g2, g3, g4, g5⟩ | ⟨z1, w1, w', a', g1, g2, g2', g3, g4, g5, g6, g7, g8, g9, g10⟩
    · have ec : clL z = some (0, z') := by
        refine cl_0 ?_
        unfold F_X6_lineOfTerms_0 F_X6_lineOfTerms_58 F_X6_lineOfTerms_59 F_X6_lineOfTerms_80 F_X6_lineOfTerms_81 F_X6_lineOfTerms_100 F_X6_lineOfTerms_101 F_X6_lineOfTerms_120 F_X6_lineOfTerms_121
        rw [g1]
        simp only [oC_s, oL_s, ↓reduceIte]
        rcases (show j = 0 ∨ j = 1 ∨ j = 3 ∨ j = 4 by omega) with e | e | e | e
        · rw [s3, k0 e]; rfl
        · rw [s3, k1 e]; rfl
        · rw [s3, k3 e]; rfl
        · rw [s3, k4 e]; rfl
      rw [ec, er, g2]
      simp only [oC_s, ↓reduceIte]
      exact Or.inl ⟨z', w', rfl, rfl, g3, g4, g5⟩
    · have mm : muT n a' (z1.1 6) ≤ muT n a (z.1 6) := by omega
      have er' : ∀ Y : St → Option St, (∀ s, (if nI j = 0 then oC (f_X12_unit s) fun s12 => F_X12_line_125 s12 else if nI j = 1 then oC (f_X12_expression s) fun s9 => F_X12_line_125 s9 else if nI j = 3 then oC (f_X12_number s 4 100) fun s => F_X12_line_125 s else oC (f_X12_number s 5 100) fun s => F_X12_line_125 s) = Y s) → f_X12_line w = Y w' := by
        intro Y hY
        rw [er, g2]
        simp only [oC_s, n1, ↓reduceIte]
        rw [g3, oC_s]
        exact hY w'
      have hfn : 1 ≠ j → fsR m z1 w' := by
        intro q
        unfold fsR
        rw [g10, g8, decide_eq_false q, Bool.or_false]
        exact hf
      rcases (show j = 0 ∨ j = 1 ∨ j = 3 ∨ j = 4 by omega) with e | e | e | e
      · subst e
        have ec := ecl' f_X6_unitLine (by
          unfold F_X6_lineOfTerms_0 F_X6_lineOfTerms_58 F_X6_lineOfTerms_59
          rw [s3, k0 rfl]; rfl)
        rw [ec, g1, er' (fun s => oC (f_X12_unit s) fun s12 => F_X12_line_125 s12) (fun s => rfl)]
        simp only [oC_s, n1, ↓reduceIte]
        exact lnP_t g5 g6 mm (unit_both g4 (hfn (by omega)))
      · subst e
        have ec := ecl' (fun s => f_X6_row 80 s 0 0) (by
          unfold F_X6_lineOfTerms_0 F_X6_lineOfTerms_80 F_X6_lineOfTerms_81
          rw [s3, k1 rfl]; rfl)
        have m0 : m = 0 := by
          rcases hf with q | q
          · exact q.2
          · rw [g9] at q; cases q.1
        subst m0
        rw [ec, g1, er' (fun s => oC (f_X12_expression s) fun s12 => F_X12_line_125 s12) (fun s => rfl)]
        simp only [oC_s, n1, ↓reduceIte]
        exact lnP_t g5 g6 mm (expr_both g4 (by rw [g8, decide_eq_true rfl, Bool.or_true]))
      · subst e
        have ec := ecl' f_X6_fearLine (by
          unfold F_X6_lineOfTerms_0 F_X6_lineOfTerms_100 F_X6_lineOfTerms_101
          rw [s3, k3 rfl]; rfl)
        rw [ec, g1, er' (fun s => oC (f_X12_number s 4 100) fun s => F_X12_line_125 s) (fun s => rfl)]
        simp only [oC_s, n1, ↓reduceIte]
        refine lnP_t g5 g6 mm (pct_both (s := 4) (q := 18) (Or.inl ⟨rfl, rfl⟩) g4 (hfn (by omega)) ?_)
        unfold f_X6_fearLine F_X6_fearLine_0
        exact pct_z (f_X6_amount z1 100) (fun s => sI s 18 (s.1 9)) (amt_z z1 100)
      · subst e
        have ec := ecl' f_X6_loseLine (by
          unfold F_X6_lineOfTerms_0 F_X6_lineOfTerms_120 F_X6_lineOfTerms_121
          rw [s3, k4 rfl]; rfl)
        rw [ec, g1, er' (fun s => oC (f_X12_number s 5 100) fun s => F_X12_line_125 s) (fun s => rfl)]
        simp only [oC_s, n1, ↓reduceIte]
        refine lnP_t g5 g6 mm (pct_both (s := 5) (q := 19) (Or.inr ⟨rfl, rfl⟩) g4 (hfn (by omega)) ?_)
        unfold f_X6_loseLine F_X6_loseLine_0
        exact pct_z (f_X6_amount z1 100) (fun s => sI s 19 (s.1 9)) (amt_z z1 100)
  · have ne : ∀ i, i < 5 → ¬ z.1 6 = nI i := fun i hi q => by
      rw [s3] at q
      have := (nI_eq (by omega) (by omega)).mp q
      omega
    refine no (ne 0 (by omega)) (ne 1 (by omega)) (ne 2 (by omega)) (ne 3 (by omega)) (ne 4 (by omega)) ?_
    unfold f_X12_line F_X12_line_0
    rw [if_neg s1, l15]
