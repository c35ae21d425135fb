/-! PURE: terms: which word stands in the text -/
def wl0 (j : Nat) : Nat := [4, 5, 4, 4, 5, 7, 8, 4, 6, 4, 5, 4, 6, 7, 5, 5, 8, 3, 3, 2].getD j 0
def ws0 (j : Nat) : Nat := [0, 5, 11, 16, 21, 27, 35, 44, 49, 56, 61, 67, 72, 79, 87, 93, 99, 108, 112, 116, 119].getD j 0
def wl1 (j : Nat) : Nat := [4, 5, 5, 4, 4, 7, 8, 4, 6, 4, 5, 2, 3, 3, 4, 6, 7, 5, 5, 8].getD j 0
def ws1 (j : Nat) : Nat := [0, 5, 11, 17, 22, 27, 35, 44, 49, 56, 61, 67, 70, 74, 78, 83, 90, 98, 104, 110, 119].getD j 0
/-- the class's number of the reference's j-th word -/
def pmW (j : Nat) : Nat := [0, 1, 4, 2, 3, 5, 6, 7, 8, 9, 10, 19, 18, 17, 11, 12, 13, 14, 15, 16].getD j 0
theorem k_w0 : ∀ j, j < 20 → ws0 j + wl0 j < 119 ∧ chN 0 (ws0 j + wl0 j) = 32 ∧ ws0 (j + 1) = ws0 j + wl0 j + 1 ∧ ∀ m, m < wl0 j → chN 0 (ws0 j + m) ≠ 32 := by decide +kernel
theorem k_w1 : ∀ j, j < 20 → ws1 j + wl1 j < 119 ∧ chN 1 (ws1 j + wl1 j) = 32 ∧ ws1 (j + 1) = ws1 j + wl1 j + 1 ∧ ∀ m, m < wl1 j → chN 1 (ws1 j + m) ≠ 32 := by decide +kernel
theorem k_tx : (txN 0 = nI 119 ∧ txL.getD 0 0 = 119) ∧ (txN 1 = nI 119 ∧ txL.getD 1 0 = 119) := by decide +kernel
theorem k_pm : ∀ j, j < 20 → pmW j < 20 ∧ wl0 (pmW j) = wl1 j ∧ ∀ m, m < wl1 j → chN 0 (ws0 (pmW j) + m) = chN 1 (ws1 j + m) := by decide +kernel
theorem k_sur : ∀ j, j < 20 → ∃ i, i < 20 ∧ pmW i = j := by decide +kernel
theorem k_dist : ∀ i, i < 20 → ∀ j, j < 20 → i ≠ j → wl0 i = wl0 j → ∃ m, m < wl0 i ∧ chN 0 (ws0 i + m) ≠ chN 0 (ws0 j + m) := by decide +kernel
/-- the letters from p to e are those of text x from b on, l of them -/
def mtW (T : Nat → Int32) (p e x b l : Nat) : Prop := e = p + l ∧ ∀ m, m < l → T (p + m) = chN x (b + m)
theorem mt_one {T : Nat → Int32} {p e i j : Nat} (hi : i < 20) (hj : j < 20) (a : mtW T p e 0 (ws0 i) (wl0 i)) (b : mtW T p e 0 (ws0 j) (wl0 j)) : i = j := by
  rcases Classical.em (i = j) with q | q
  · exact q
  · obtain ⟨m, hm, hne⟩ := k_dist i hi j hj q (by have := a.1; have := b.1; omega)
    exact absurd ((a.2 m hm).symm.trans (b.2 m (by have := a.1; have := b.1; omega))) hne
theorem mt_pm {T : Nat → Int32} {p e j : Nat} (hj : j < 20) : mtW T p e 0 (ws0 (pmW j)) (wl0 (pmW j)) ↔ mtW T p e 1 (ws1 j) (wl1 j) := by
  obtain ⟨_, h2, h3⟩ := k_pm j hj
  unfold mtW
  rw [h2]
  constructor
  · rintro ⟨a, b⟩
    exact ⟨a, fun m hm => by rw [b m hm, h3 m hm]⟩
  · rintro ⟨a, b⟩
    exact ⟨a, fun m hm => by rw [b m hm, h3 m hm]⟩
/-- the class: along one word -/
theorem wb_run {s : St} {p e j : Nat} (hj : j < 20) (hp : p ≤ e) (he : e ≤ 400) : ∀ m, m ≤ wl0 j → ∀ k, ∃ b : Bool, (b = true ↔ ∀ i, i < m → p + i < e ∧ s.2.1 0 (p + i) = chN 0 (ws0 j + i)) ∧ F_X6_wordBetween_11 (k + m) s (nI p) (nI e) (nI j) (nI p) 1 (nI (ws0 j)) = F_X6_wordBetween_11 k s (nI p) (nI e) (nI j) (nI (p + m)) (b2 b) (nI (ws0 j + m)) := by
  obtain ⟨w1, w2, w3, w4⟩ := k_w0 j hj
  intro m
  induction m with
  | zero => intro _ k; exact ⟨true, ⟨fun _ i hi => absurd hi (Nat.not_lt_zero i), fun _ => rfl⟩, rfl⟩
  | succ m ih =>
    intro hm k
    obtain ⟨b, hb, e1⟩ := ih (by omega) (k + 1)
    rw [show k + (m + 1) = k + 1 + m by omega, e1]
    have hne := w4 m (by omega)
    show ∃ b', _ ∧ F_X6_wordBetween_11_b (F_X6_wordBetween_11 k) s (nI p) (nI e) (nI j) (nI (p + m)) (b2 b) (nI (ws0 j + m)) = _
    unfold F_X6_wordBetween_11_b F_X6_wordBetween_64 F_X6_wordBetween_65 F_X6_wordBetween_95
    rw [k_tx.1.1, k_tx.1.2, if_neg (nI_ge (by omega) (by omega)), oA_in _ (vp_in_nI (by omega) (by omega)), nI_clamp (show ws0 j + m < 2 ^ 31 by omega)]
    simp only [oL_s, nI_1]
    rw [if_neg hne]
    have no : ¬ (∀ i, i < m + 1 → p + i < e ∧ s.2.1 0 (p + i) = chN 0 (ws0 j + i)) → ∃ b' : Bool, (b' = true ↔ ∀ i, i < m + 1 → p + i < e ∧ s.2.1 0 (p + i) = chN 0 (ws0 j + i)) ∧ F_X6_wordBetween_11 k s (nI p) (nI e) (nI j) (nI (p + m + 1)) 0 (nI (ws0 j + m + 1)) = F_X6_wordBetween_11 k s (nI p) (nI e) (nI j) (nI (p + (m + 1))) (b2 b') (nI (ws0 j + (m + 1))) :=
      fun h => ⟨false, ⟨fun q => (by cases q), fun q => absurd q h⟩, rfl⟩
    cases b with
    | false =>
      have z : b2 false = 0 := rfl
      rw [if_pos z]
      exact no (fun h => by
        have := hb.mpr (fun i hi => h i (by omega))
        cases this)
    | true =>
      have z : ¬ b2 true = 0 := by decide
      rw [if_neg z]
      have h0 := hb.mp rfl
      by_cases c1 : e ≤ p + m
      · rw [if_pos (nI_le c1 (by omega))]
        exact no (fun h => by have := (h m (by omega)).1; omega)
      · rw [if_neg (nI_ge (by omega) (by omega)), oA_in _ (vp_in_nI (show p + m < 400 by omega) (by omega)), nI_clamp (show p + m < 2 ^ 31 by omega)]
        by_cases c2 : s.2.1 0 (p + m) = chN 0 (ws0 j + m)
        · rw [if_pos c2]
          refine ⟨true, ⟨fun _ i hi => ?_, fun _ => rfl⟩, rfl⟩
          by_cases ei : i = m
          · subst ei; exact ⟨by omega, c2⟩
          · exact h0 i (by omega)
        · rw [if_neg c2]
          exact no (fun h => c2 (h m (by omega)).2)
theorem wb_word {s : St} {p e j : Nat} (hj : j < 20) (hp : p ≤ e) (he : e ≤ 400) (k : Nat) : (mtW (s.2.1 0) p e 0 (ws0 j) (wl0 j) → F_X6_wordBetween_11 (k + 1 + wl0 j) s (nI p) (nI e) (nI j) (nI p) 1 (nI (ws0 j)) = some (nI j, s)) ∧ (¬ mtW (s.2.1 0) p e 0 (ws0 j) (wl0 j) → F_X6_wordBetween_11 (k + 1 + wl0 j) s (nI p) (nI e) (nI j) (nI p) 1 (nI (ws0 j)) = F_X6_wordBetween_11 k s (nI p) (nI e) (nI (j + 1)) (nI p) 1 (nI (ws0 (j + 1)))) := by
  obtain ⟨w1, w2, w3, w4⟩ := k_w0 j hj
  obtain ⟨b, hb, e1⟩ := wb_run (s := s) hj hp he (wl0 j) (Nat.le_refl _) (k + 1)
  rw [e1, w3]
  have step : F_X6_wordBetween_11 (k + 1) s (nI p) (nI e) (nI j) (nI (p + wl0 j)) (b2 b) (nI (ws0 j + wl0 j)) = if b = true ∧ p + wl0 j = e then some (nI j, s) else F_X6_wordBetween_11 k s (nI p) (nI e) (nI (j + 1)) (nI p) 1 (nI (ws0 j + wl0 j + 1)) := by
    show F_X6_wordBetween_11_b (F_X6_wordBetween_11 k) s (nI p) (nI e) (nI j) (nI (p + wl0 j)) (b2 b) (nI (ws0 j + wl0 j)) = _
    unfold F_X6_wordBetween_11_b F_X6_wordBetween_86 F_X6_wordBetween_95
    rw [k_tx.1.1, k_tx.1.2, if_neg (nI_ge (by omega) (by omega)), oA_in _ (vp_in_nI (by omega) (by omega)), nI_clamp (show ws0 j + wl0 j < 2 ^ 31 by omega)]
    simp only [oL_s, nI_1]
    rw [if_pos w2]
    cases b with
    | false =>
      have z : b2 false = 0 := rfl
      rw [if_pos z, if_neg (fun q => by cases q.1)]
    | true =>
      have z : ¬ b2 true = 0 := by decide
      rw [if_neg z]
      by_cases c : p + wl0 j = e
      · rw [if_pos ((nI_eq (by omega) (by omega)).mpr c), if_pos ⟨rfl, c⟩]
      · rw [if_neg (fun q => c ((nI_eq (by omega) (by omega)).mp q)), if_neg (fun q => c q.2)]
  rw [step]
  constructor
  · rintro ⟨a1, a2⟩
    rw [if_pos ⟨hb.mpr (fun i hi => ⟨by omega, a2 i hi⟩), a1.symm⟩]
  · intro h
    rw [if_neg]
    rintro ⟨q1, q2⟩
    exact h ⟨q2.symm, fun m hm => ((hb.mp q1) m hm).2⟩
theorem p_wordB {s : St} {p e : Nat} (hp : p ≤ e) (he : e ≤ 400) : (∃ j, j < 20 ∧ mtW (s.2.1 0) p e 0 (ws0 j) (wl0 j) ∧ f_X6_wordBetween s (nI p) (nI e) = some (nI j, s)) ∨ ((∀ j, j < 20 → ¬ mtW (s.2.1 0) p e 0 (ws0 j) (wl0 j)) ∧ f_X6_wordBetween s (nI p) (nI e) = some (35, s)) := by
  have base : f_X6_wordBetween s (nI p) (nI e) = F_X6_wordBetween_11 100000 s (nI p) (nI e) (nI 0) (nI p) 1 (nI (ws0 0)) := rfl
  rw [base]
  have go : ∀ j, j ≤ 20 → (∀ i, i < j → ¬ mtW (s.2.1 0) p e 0 (ws0 i) (wl0 i)) → ∀ k K, K = k + ws0 j → F_X6_wordBetween_11 K s (nI p) (nI e) (nI 0) (nI p) 1 (nI (ws0 0)) = F_X6_wordBetween_11 k s (nI p) (nI e) (nI j) (nI p) 1 (nI (ws0 j)) := by
    intro j
    induction j with
    | zero => intro _ _ k K hK; subst hK; rfl
    | succ j ih =>
      intro hj hno k K hK
      have w3 := (k_w0 j (by omega)).2.2.1
      rw [ih (by omega) (fun i hi => hno i (by omega)) (k + 1 + wl0 j) K (by omega)]
      exact (wb_word (by omega) hp he k).2 (hno j (by omega))
  by_cases h : ∃ j, j < 20 ∧ mtW (s.2.1 0) p e 0 (ws0 j) (wl0 j)
  · left
    obtain ⟨j, hj, hm, hfirst⟩ := @fb_first (fun j => mtW (s.2.1 0) p e 0 (ws0 j) (wl0 j)) (fun _ => Classical.propDecidable _) 20 h
    refine ⟨j, hj, hm, ?_⟩
    have w1 := (k_w0 j hj).1
    rw [go j (by omega) hfirst (99998 - ws0 j - wl0 j + 1 + 1 + wl0 j) 100000 (by omega)]
    exact (wb_word hj hp he _).1 hm
  · right
    refine ⟨fun j hj hm => h ⟨j, hj, hm⟩, ?_⟩
    have fin : ∀ k, F_X6_wordBetween_11 (k + 1) s (nI p) (nI e) (nI 20) (nI p) 1 (nI (ws0 20)) = some (35, s) := by
      intro k
      show F_X6_wordBetween_11_b _ s (nI p) (nI e) (nI 20) (nI p) 1 (nI 119) = _
      unfold F_X6_wordBetween_11_b
      rw [k_tx.1.1, if_pos (Int32.le_refl _)]
    rw [go 20 (Nat.le_refl _) (fun i hi hm => h ⟨i, hi, hm⟩) (99880 + 1) 100000 (by decide)]
    exact fin 99880
/-- the reference: to the next word -/
theorem w97 {s : St} {j : Nat} (hj : j < 20) (k4 : St → Int32 → Int32 → Option (Int32 × St)) : F_X12_word_97 k4 100000 s (nI j) (nI (ws1 j)) = k4 s (nI (j + 1)) (nI (ws1 (j + 1))) := by
  obtain ⟨w1, w2, w3, w4⟩ := k_w1 j hj
  rw [w3]
  refine loop_i (fun k i (_ : Unit) => F_X12_word_97 k4 k s (nI j) (nI (ws1 j + i)) = k4 s (nI (j + 1)) (nI (ws1 j + wl1 j + 1))) (fun _ _ => True) (wl1 j) ?_ ?_ 100000 0 () (Nat.zero_le _) (by omega) trivial
  · intro k _ _
    show F_X12_word_97_b k4 _ s (nI j) (nI (ws1 j + wl1 j)) = _
    unfold F_X12_word_97_b
    rw [k_tx.2.2, oA_in _ (vp_in_nI (by omega) (by omega)), nI_clamp (by omega), if_pos w2]
    simp only [oL_s, nI_1]
  · intro k i _ hi _ K
    show F_X12_word_97_b k4 (F_X12_word_97 k4 k) s (nI j) (nI (ws1 j + i)) = _
    unfold F_X12_word_97_b
    rw [k_tx.2.2, oA_in _ (vp_in_nI (by omega) (by omega)), nI_clamp (by omega), if_neg (w4 i hi)]
    simp only [oL_s, nI_1]
    exact K () trivial
theorem w15 {s : St} {p e j : Nat} (hj : j < 20) (hp : p ≤ e) (he : e ≤ 400) (e10 : s.1 10 = nI p) (e9 : s.1 9 = nI e) (k4 : St → Int32 → Int32 → Option (Int32 × St)) : (mtW (s.2.1 0) p e 1 (ws1 j) (wl1 j) → F_X12_word_15 k4 100000 s (nI j) (nI (ws1 j)) 0 = some (nI j, s)) ∧ (¬ mtW (s.2.1 0) p e 1 (ws1 j) (wl1 j) → F_X12_word_15 k4 100000 s (nI j) (nI (ws1 j)) 0 = k4 s (nI (j + 1)) (nI (ws1 (j + 1)))) := by
  obtain ⟨w1, w2, w3, w4⟩ := k_w1 j hj
  refine loop_i (fun k i (_ : Unit) => (mtW (s.2.1 0) p e 1 (ws1 j) (wl1 j) → F_X12_word_15 k4 k s (nI j) (nI (ws1 j)) (nI i) = some (nI j, s)) ∧ (¬ mtW (s.2.1 0) p e 1 (ws1 j) (wl1 j) → F_X12_word_15 k4 k s (nI j) (nI (ws1 j)) (nI i) = k4 s (nI (j + 1)) (nI (ws1 (j + 1))))) (fun i _ => ∀ m, m < i → p + m < e ∧ s.2.1 0 (p + m) = chN 1 (ws1 j + m)) (wl1 j) ?_ ?_ 100000 0 () (Nat.zero_le _) (by omega) (fun m hm => absurd hm (Nat.not_lt_zero m))
  · intro k _ hI
    have st : F_X12_word_15 k4 (k + 1) s (nI j) (nI (ws1 j)) (nI (wl1 j)) = if p + wl1 j = e then some (nI j, s) else k4 s (nI (j + 1)) (nI (ws1 (j + 1))) := by
      show F_X12_word_15_b k4 _ s (nI j) (nI (ws1 j)) (nI (wl1 j)) = _
      unfold F_X12_word_15_b F_X12_word_69
      rw [nI_add, k_tx.2.2, oA_in _ (vp_in_nI (by omega) (by omega)), nI_clamp (show ws1 j + wl1 j < 2 ^ 31 by omega), if_pos w2, oA_in _ (vp_in_nI (by omega) (by omega)), if_pos w2, e10, e9, nI_add, w97 hj]
      by_cases c : p + wl1 j = e
      · rw [if_pos c, if_pos ((nI_eq (by omega) (by omega)).mpr c)]
      · rw [if_neg c, if_neg (fun q => c ((nI_eq (by omega) (by omega)).mp q))]
    rw [st]
    constructor
    · rintro ⟨a, _⟩
      rw [if_pos a.symm]
    · intro h
      rw [if_neg (fun q => h ⟨q.symm, fun m hm => (hI m hm).2⟩)]
  · intro k i _ hi hI K
    have hne := w4 i hi
    have no : F_X12_word_69 k4 s (nI j) (nI (ws1 j)) (nI i) = k4 s (nI (j + 1)) (nI (ws1 (j + 1))) := by
      unfold F_X12_word_69
      rw [nI_add, k_tx.2.2, oA_in _ (vp_in_nI (by omega) (by omega)), nI_clamp (show ws1 j + i < 2 ^ 31 by omega), if_neg hne, w97 hj]
    show (_ → F_X12_word_15_b k4 (F_X12_word_15 k4 k) s (nI j) (nI (ws1 j)) (nI i) = _) ∧ (_ → F_X12_word_15_b k4 (F_X12_word_15 k4 k) s (nI j) (nI (ws1 j)) (nI i) = _)
    unfold F_X12_word_15_b
    rw [no, nI_add, k_tx.2.2, oA_in _ (vp_in_nI (by omega) (by omega)), nI_clamp (show ws1 j + i < 2 ^ 31 by omega), if_neg hne, e10, e9, nI_add]
    by_cases c1 : e ≤ p + i
    · rw [if_pos (nI_le c1 (by omega))]
      exact ⟨fun h => by have := h.1; omega, fun _ => rfl⟩
    · rw [if_neg (nI_ge (by omega) (by omega)), oA_in _ (vp_in_nI (show p + i < 400 by omega) (by omega)), nI_clamp (show p + i < 2 ^ 31 by omega), oA_in _ (vp_in_nI (by omega) (by omega))]
      simp only [oL_s, nI_1]
      by_cases c2 : s.2.1 0 (p + i) = chN 1 (ws1 j + i)
      · rw [if_pos c2]
        refine K () (fun m hm => ?_)
        by_cases em : m = i
        · subst em; exact ⟨by omega, c2⟩
        · exact hI m (by omega)
      · rw [if_neg c2]
        exact ⟨fun h => absurd (h.2 i hi) c2, fun _ => rfl⟩
theorem p_wordR {s : St} {p e : Nat} (hp : p ≤ e) (he : e ≤ 400) (e10 : s.1 10 = nI p) (e9 : s.1 9 = nI e) : (∃ j, j < 20 ∧ mtW (s.2.1 0) p e 1 (ws1 j) (wl1 j) ∧ f_X12_word s = some (nI j, s)) ∨ ((∀ j, j < 20 → ¬ mtW (s.2.1 0) p e 1 (ws1 j) (wl1 j)) ∧ f_X12_word s = some (-1, s)) := by
  have base : f_X12_word s = F_X12_word_4 100000 s (nI 0) (nI (ws1 0)) := rfl
  rw [base]
  refine loop_i (fun k j (_ : Unit) => (∃ i, i < 20 ∧ mtW (s.2.1 0) p e 1 (ws1 i) (wl1 i) ∧ F_X12_word_4 k s (nI j) (nI (ws1 j)) = some (nI i, s)) ∨ ((∀ i, i < 20 → ¬ mtW (s.2.1 0) p e 1 (ws1 i) (wl1 i)) ∧ F_X12_word_4 k s (nI j) (nI (ws1 j)) = some (-1, s))) (fun j _ => ∀ i, i < j → ¬ mtW (s.2.1 0) p e 1 (ws1 i) (wl1 i)) 20 ?_ ?_ 100000 0 () (Nat.zero_le _) (by omega) (fun i hi => absurd hi (Nat.not_lt_zero i))
  · intro k _ hI
    right
    refine ⟨hI, ?_⟩
    show F_X12_word_4_b _ s (nI 20) (nI 119) = _
    unfold F_X12_word_4_b
    rw [k_tx.2.1, if_pos (Int32.le_refl _)]
  · intro k j _ hj hI K
    have w1 := (k_w1 j hj).1
    have st : F_X12_word_4 (k + 1) s (nI j) (nI (ws1 j)) = F_X12_word_15 (F_X12_word_4 k) 100000 s (nI j) (nI (ws1 j)) 0 := by
      show F_X12_word_4_b (F_X12_word_4 k) s (nI j) (nI (ws1 j)) = _
      unfold F_X12_word_4_b
      rw [k_tx.2.1, if_neg (nI_ge (by omega) (by omega))]
      simp only [oL_s]
    rw [st]
    by_cases c : mtW (s.2.1 0) p e 1 (ws1 j) (wl1 j)
    · rw [(w15 hj hp he e10 e9 _).1 c]
      exact Or.inl ⟨j, hj, c, rfl⟩
    · rw [(w15 hj hp he e10 e9 _).2 c]
      refine K () (fun i hi => ?_)
      by_cases ei : i = j
      · subst ei; exact c
      · exact hI i (by omega)
/-- both find the same word -/
theorem word_both {z w : St} {p e : Nat} (hp : p ≤ e) (he : e ≤ 400) (e10 : w.1 10 = nI p) (e9 : w.1 9 = nI e) (eT : z.2.1 0 = w.2.1 0) : (∃ j, j < 20 ∧ f_X6_wordBetween z (nI p) (nI e) = some (nI (pmW j), z) ∧ f_X12_word w = some (nI j, w)) ∨ (f_X6_wordBetween z (nI p) (nI e) = some (35, z) ∧ f_X12_word w = some (-1, w)) := by
  have a := p_wordB (s := z) hp he
  have b := p_wordR (s := w) hp he e10 e9
  rw [eT] at a
  rcases b with ⟨j, hj, hm, eb⟩ | ⟨hno, eb⟩
  · left
    refine ⟨j, hj, ?_, eb⟩
    have hm' := (mt_pm hj).mpr hm
    rcases a with ⟨i, hi, hmi, ea⟩ | ⟨hno, ea⟩
    · rw [ea, mt_one hi (k_pm j hj).1 hmi hm']
    · exact absurd hm' (hno _ (k_pm j hj).1)
  · right
    refine ⟨?_, eb⟩
    rcases a with ⟨i, hi, hmi, ea⟩ | ⟨_, ea⟩
    · obtain ⟨j, hj, ej⟩ := k_sur i hi
      subst ej
      exact absurd ((mt_pm hj).mp hmi) (hno j hj)
    · exact ea
