/-! PURE: terms: the next token -/
/-- n bytes are read, a of them behind -/
def rdR (n a : Nat) (z w : St) : Prop := a ≤ n ∧ n ≤ 400 ∧ z.1 4 = nI n ∧ w.1 8 = nI n ∧ z.1 5 = nI a ∧ w.1 9 = nI a ∧ z.2.1 0 = w.2.1 0 ∧ (∀ i, i < n → ∃ b, b < 256 ∧ w.2.1 0 i = nI b) ∧ z.1 2 = 0 ∧ z.1 3 = w.1 14
theorem rd_mk {n a a' : Nat} {z w z' w' : St} (h : rdR n a z w) (fz : fr [5, 6, 7, 8] [] z z') (fw : fr [9, 10, 11, 12] [] w w') (e5 : z'.1 5 = nI a') (e9 : w'.1 9 = nI a') (ha : a' ≤ n) : rdR n a' z' w' := by
  obtain ⟨h1, h2, h3, h4, h5, h6, h7, h8⟩ := h
  have ez : z'.2.1 0 = z.2.1 0 := fz.2 0 List.not_mem_nil
  have ew : w'.2.1 0 = w.2.1 0 := fw.2 0 List.not_mem_nil
  refine ⟨ha, h2, ?_, ?_, e5, e9, ?_, ?_⟩
  · rw [fz.1 4 (by decide)]; exact h3
  · rw [fw.1 8 (by decide)]; exact h4
  · rw [ez, ew]; exact h7
  · rw [ew, fz.1 2 (by decide), fz.1 3 (by decide), fw.1 14 (by decide)]; exact h8
/-- the signs: the class's kinds are 21 .. 33 -/
def sgV (i : Nat) : Nat := [43, 45, 42, 47, 60, 256, 61, 257, 258, 62, 40, 41, 59].getD i 0
/-- a token of the class (its kind, its number) and of the reference (its sort, its value) -/
def tokR (tk nm st vl : Int32) : Prop :=
  (st = 0 ∧ ∃ j, j < 20 ∧ vl = nI j ∧ tk = nI (pmW j)) ∨
  (st = 1 ∧ tk = 20 ∧ ∃ k, k ≤ 99999 ∧ vl = nI k ∧ nm = nI k) ∨
  (st = 2 ∧ ∃ i, i < 13 ∧ tk = nI (21 + i) ∧ vl = nI (sgV i)) ∨
  (st = 3 ∧ tk = 34) ∨ (st = 4 ∧ tk = 35)
def ltr (x : Int32) : Bool := decide (¬ x < 97 ∧ ¬ 122 < x)
def dgt (x : Int32) : Bool := decide (¬ x < 48 ∧ ¬ 57 < x)
theorem p_isLetter (z : St) (x : Int32) : f_X6_isLetter z x = some (b2 (ltr x), z) := by
  unfold f_X6_isLetter F_X6_isLetter_0 F_X6_isLetter_16 F_X6_isLetter_17 ltr
  by_cases h1 : x < 97
  · rw [if_pos h1, decide_eq_false (fun q => q.1 h1)]; rfl
  · rw [if_neg h1]
    by_cases h2 : (122 : Int32) < x
    · rw [if_pos h2, decide_eq_false (fun q => q.2 h2)]; rfl
    · rw [if_neg h2, decide_eq_true ⟨h1, h2⟩]; rfl
theorem p_isSmall (z : St) (x : Int32) : f_X12_isSmall z x = some (b2 (ltr x), z) := by
  unfold f_X12_isSmall F_X12_isSmall_0 F_X12_isSmall_16 F_X12_isSmall_17 ltr
  by_cases h1 : x < 97
  · rw [if_pos h1, decide_eq_false (fun q => q.1 h1)]; rfl
  · rw [if_neg h1]
    by_cases h2 : (122 : Int32) < x
    · rw [if_pos h2, decide_eq_false (fun q => q.2 h2)]; rfl
    · rw [if_neg h2, decide_eq_true ⟨h1, h2⟩]; rfl
theorem p_isDigit (z : St) (x : Int32) : f_X6_isDigit z x = some (b2 (dgt x), z) := by
  unfold f_X6_isDigit F_X6_isDigit_0 F_X6_isDigit_16 F_X6_isDigit_17 dgt
  by_cases h1 : x < 48
  · rw [if_pos h1, decide_eq_false (fun q => q.1 h1)]; rfl
  · rw [if_neg h1]
    by_cases h2 : (57 : Int32) < x
    · rw [if_pos h2, decide_eq_false (fun q => q.2 h2)]; rfl
    · rw [if_neg h2, decide_eq_true ⟨h1, h2⟩]; rfl
theorem p_isDigitR (z : St) (x : Int32) : f_X12_isDigit z x = some (b2 (dgt x), z) := by
  unfold f_X12_isDigit F_X12_isDigit_0 F_X12_isDigit_16 F_X12_isDigit_17 dgt
  by_cases h1 : x < 48
  · rw [if_pos h1, decide_eq_false (fun q => q.1 h1)]; rfl
  · rw [if_neg h1]
    by_cases h2 : (57 : Int32) < x
    · rw [if_pos h2, decide_eq_false (fun q => q.2 h2)]; rfl
    · rw [if_neg h2, decide_eq_true ⟨h1, h2⟩]; rfl
theorem p_here {w : St} {n a : Nat} (ha : a ≤ n) (hn : n ≤ 400) (e8 : w.1 8 = nI n) (e9 : w.1 9 = nI a) : f_X12_here w = some (if a < n then w.2.1 0 a else -1, w) := by
  unfold f_X12_here F_X12_here_0 F_X12_here_24
  rw [e8, e9]
  by_cases c : a < n
  · rw [if_neg (nI_ge c (by omega)), oA_in _ (vp_in_nI (by omega) (by omega)), nI_clamp (by omega), if_pos c]
  · rw [if_pos (nI_le (by omega) (by omega)), if_neg c]
theorem word_loop {n p : Nat} (k : Nat) : ∀ a z w, rdR n a z w → p ≤ a → z.1 7 = nI p → w.1 10 = nI p → n - a < k → ∃ z' w' a', F_X6_readWord_0 k z = some z' ∧ F_X12_next_62 k w = some w' ∧ a ≤ a' ∧ ¬ (a' < n ∧ ltr (w.2.1 0 a') = true) ∧ rdR n a' z' w' ∧ fr [5, 6] [] z z' ∧ fr [9, 11, 12] [] w w' ∧ tokR (z'.1 6) (z'.1 8) (w'.1 11) (w'.1 12) := by
  induction k with
  | zero => intro a z w _ _ _ _ h; omega
  | succ k ih =>
    intro a z w h hp e7 e10 hk
    obtain ⟨h1, h2, h3, h4, h5, h6, h7, h8⟩ := id h
    show ∃ z' w' a', F_X6_readWord_0_b (F_X6_readWord_0 k) z = some z' ∧ F_X12_next_62_b (F_X12_next_62 k) w = some w' ∧ _
    have stop : ltr (if a < n then w.2.1 0 a else -1) = false → ∃ z' w' a', F_X6_readWord_39 z = some z' ∧ F_X12_next_62_b (F_X12_next_62 k) w = some w' ∧ a ≤ a' ∧ ¬ (a' < n ∧ ltr (w.2.1 0 a') = true) ∧ rdR n a' z' w' ∧ fr [5, 6] [] z z' ∧ fr [9, 11, 12] [] w w' ∧ tokR (z'.1 6) (z'.1 8) (w'.1 11) (w'.1 12) := by
      intro hl
      unfold F_X6_readWord_39 F_X12_next_62_b F_X12_next_107
      rw [p_here h1 h2 h4 h6, e7, h5]
      simp only [oC_s, oL_s, p_isSmall, hl]
      rw [if_pos (show b2 false = 0 from rfl)]
      have hnl : ¬ (a < n ∧ ltr (w.2.1 0 a) = true) := by
        rintro ⟨q1, q2⟩
        rw [if_pos q1, q2] at hl
        cases hl
      rcases word_both hp (show a ≤ 400 by omega) e10 h6 h7 with ⟨j, hj, g1, g2⟩ | ⟨g1, g2⟩
      · rw [g1, g2]
        simp only [oC_s, oL_s]
        have ne : ¬ (sI w 12 (nI j)).1 12 = (-1 : Int32) := nI_nm1 (by omega)
        rw [if_neg ne]
        refine ⟨_, _, a, rfl, rfl, Nat.le_refl _, hnl, rd_mk h (fr_I fr_0 (by decide)) (fr_I (fr_I fr_0 (by decide)) (by decide)) h5 h6 h1, fr_I fr_0 (by decide), fr_I (fr_I fr_0 (by decide)) (by decide), Or.inl ⟨rfl, j, hj, rfl, rfl⟩⟩
      · rw [g1, g2]
        simp only [oC_s, oL_s]
        have ne : (sI w 12 (-1)).1 12 = (-1 : Int32) := rfl
        rw [if_pos ne]
        refine ⟨_, _, a, rfl, rfl, Nat.le_refl _, hnl, rd_mk h (fr_I fr_0 (by decide)) (fr_I (fr_I fr_0 (by decide)) (by decide)) h5 h6 h1, fr_I fr_0 (by decide), fr_I (fr_I fr_0 (by decide)) (by decide), Or.inr (Or.inr (Or.inr (Or.inr ⟨rfl, rfl⟩)))⟩
    unfold F_X6_readWord_0_b
    rw [h3, h5]
    by_cases c : a < n
    · rw [if_neg (nI_ge c (by omega)), oA_in _ (vp_in_nI (by omega) (by omega)), nI_clamp (by omega)]
      simp only [p_isLetter, oC_s, oL_s, h7]
      cases hl : ltr (w.2.1 0 a)
      · rw [if_pos (show b2 false = 0 from rfl)]
        exact stop (by rw [if_pos c]; exact hl)
      · have nz : ¬ b2 true = 0 := by decide
        rw [if_neg nz, h5]
        unfold F_X12_next_62_b
        rw [p_here h1 h2 h4 h6, if_pos c]
        simp only [oC_s, oL_s, p_isSmall, hl]
        rw [if_neg nz, h6, nI_1]
        obtain ⟨z', w', a', g1, g2, g3, g4, g5, g6, g7, g8⟩ := ih (a + 1) (sI z 5 (nI (a + 1))) (sI w 9 (nI (a + 1))) (rd_mk h (fr_I fr_0 (by decide)) (fr_I fr_0 (by decide)) rfl rfl (by omega)) (by omega) e7 e10 (by omega)
        exact ⟨z', w', a', g1, g2, by omega, g4, g5, fr_t (fr_I fr_0 (by decide)) g6, fr_t (fr_I fr_0 (by decide)) g7, g8⟩
    · rw [if_pos (nI_le (by omega) (by omega))]
      exact stop (by rw [if_neg c]; decide)
theorem num_loop {n : Nat} (k : Nat) : ∀ a v z w, rdR n a z w → v ≤ 99999 → z.1 8 = nI v → w.1 12 = nI v → w.1 11 = 1 → n - a < k → ∃ z' w' a', F_X6_readNumber_5 k z = some z' ∧ F_X12_next_128 k w = some w' ∧ a ≤ a' ∧ ¬ (a' < n ∧ dgt (w.2.1 0 a') = true) ∧ rdR n a' z' w' ∧ fr [5, 6, 8] [] z z' ∧ fr [9, 12] [] w w' ∧ tokR (z'.1 6) (z'.1 8) (w'.1 11) (w'.1 12) := by
  induction k with
  | zero => intro a v z w _ _ _ _ _ h; omega
  | succ k ih =>
    intro a v z w h hv e8 e12 e11 hk
    obtain ⟨h1, h2, h3, h4, h5, h6, h7, h8⟩ := id h
    show ∃ z' w' a', F_X6_readNumber_5_b (F_X6_readNumber_5 k) z = some z' ∧ F_X12_next_128_b (F_X12_next_128 k) w = some w' ∧ _
    have stop : dgt (if a < n then w.2.1 0 a else -1) = false → ∃ z' w' a', F_X6_readNumber_78 z = some z' ∧ F_X12_next_128_b (F_X12_next_128 k) w = some w' ∧ a ≤ a' ∧ ¬ (a' < n ∧ dgt (w.2.1 0 a') = true) ∧ rdR n a' z' w' ∧ fr [5, 6, 8] [] z z' ∧ fr [9, 12] [] w w' ∧ tokR (z'.1 6) (z'.1 8) (w'.1 11) (w'.1 12) := by
      intro hl
      unfold F_X6_readNumber_78 F_X12_next_128_b
      rw [p_here h1 h2 h4 h6]
      simp only [oC_s, oL_s, p_isDigitR, hl]
      rw [if_pos (show b2 false = 0 from rfl)]
      refine ⟨_, _, a, rfl, rfl, Nat.le_refl _, ?_, rd_mk h (fr_I fr_0 (by decide)) fr_0 h5 h6 h1, fr_I fr_0 (by decide), fr_0, Or.inr (Or.inl ⟨e11, rfl, v, hv, e12, e8⟩)⟩
      rintro ⟨q1, q2⟩
      rw [if_pos q1, q2] at hl
      cases hl
    unfold F_X6_readNumber_5_b F_X6_readNumber_65
    rw [h3, h5]
    by_cases c : a < n
    · have ia : vp_in (nI a) 400 := vp_in_nI (by omega) (by omega)
      rw [if_neg (nI_ge c (by omega)), oA_in _ ia, nI_clamp (by omega)]
      simp only [p_isDigit, oC_s, oL_s, h7]
      cases hl : dgt (w.2.1 0 a)
      · rw [if_pos (show b2 false = 0 from rfl)]
        exact stop (by rw [if_pos c]; exact hl)
      · have nz : ¬ b2 true = 0 := by decide
        obtain ⟨b, hb, eb⟩ := h8.1 a c
        have hd : 48 ≤ b ∧ b ≤ 57 := by
          rw [eb] at hl
          have q := of_decide_eq_true hl
          constructor
          · rcases Nat.lt_or_ge b 48 with r | r
            · exact absurd (nI_lt (b := 48) r (by omega)) q.1
            · exact r
          · rcases Nat.lt_or_ge 57 b with r | r
            · exact absurd (nI_lt (a := 57) r (by omega)) q.2
            · exact r
        rw [if_neg nz, h5, e8]
        unfold F_X12_next_128_b F_X12_next_171
        rw [p_here h1 h2 h4 h6, if_pos c]
        simp only [oC_s, oL_s, p_isDigitR, hl]
        rw [if_neg nz, e12, p_here h1 h2 h4 h6, if_pos c]
        simp only [oC_s, oL_s]
        by_cases c2 : v ≤ 9999
        · have q1 : ¬ (9999 : Int32) < nI v := nI_nlt (a := 9999) c2 (by omega)
          have q2 : nI v ≤ (9999 : Int32) := nI_le (b := 9999) c2 (by omega)
          have ev : ((nI v * (10 : Int32)) + nI b) - (48 : Int32) = nI (10 * v + b - 48) := by
            rw [show nI v * (10 : Int32) = nI (v * 10) from mulN v 10, nI_add, show (48 : Int32) = nI 48 from rfl, nI_sub (by omega), Nat.mul_comm v 10]
          have ew : (((10 : Int32) * nI v) + nI b) - (48 : Int32) = nI (10 * v + b - 48) := by
            rw [show (10 : Int32) * nI v = nI (10 * v) from mulN 10 v, nI_add, show (48 : Int32) = nI 48 from rfl, nI_sub (by omega)]
          rw [if_neg q1, if_pos q2, oA_in _ ia, nI_clamp (show a < 2 ^ 31 by omega), eb, ev, ew]
          have e5' : (sI z 8 (nI (10 * v + b - 48))).1 5 = nI a := h5
          have e9' : (sI w 12 (nI (10 * v + b - 48))).1 9 = nI a := h6
          rw [e5', e9', nI_1]
          obtain ⟨z', w', a', g1, g2, g3, g4, g5, g6, g7, g8⟩ := ih (a + 1) (10 * v + b - 48) (sI (sI z 8 (nI (10 * v + b - 48))) 5 (nI (a + 1))) (sI (sI w 12 (nI (10 * v + b - 48))) 9 (nI (a + 1))) (rd_mk h (fr_I (fr_I fr_0 (by decide)) (by decide)) (fr_I (fr_I fr_0 (by decide)) (by decide)) rfl rfl (by omega)) (by omega) rfl rfl e11 (by omega)
          exact ⟨z', w', a', g1, g2, by omega, g4, g5, fr_t (fr_I (fr_I fr_0 (by decide)) (by decide)) g6, fr_t (fr_I (fr_I fr_0 (by decide)) (by decide)) g7, g8⟩
        · have q1 : (9999 : Int32) < nI v := nI_lt (a := 9999) (by omega) (by omega)
          have q2 : ¬ nI v ≤ (9999 : Int32) := nI_ge (a := 9999) (by omega) (by omega)
          rw [if_pos q1, if_neg q2]
          have e9' : (sI w 12 (nI v)).1 9 = nI a := h6
          rw [e9', nI_1]
          obtain ⟨z', w', a', g1, g2, g3, g4, g5, g6, g7, g8⟩ := ih (a + 1) v (sI z 5 (nI (a + 1))) (sI (sI w 12 (nI v)) 9 (nI (a + 1))) (rd_mk h (fr_I fr_0 (by decide)) (fr_I (fr_I fr_0 (by decide)) (by decide)) rfl rfl (by omega)) hv e8 rfl e11 (by omega)
          exact ⟨z', w', a', g1, g2, by omega, g4, g5, fr_t (fr_I fr_0 (by decide)) g6, fr_t (fr_I (fr_I fr_0 (by decide)) (by decide)) g7, g8⟩
    · rw [if_pos (nI_le (by omega) (by omega))]
      exact stop (by rw [if_neg c]; decide)
theorem p_follows {z : St} {n a : Nat} (ha : a ≤ n) (hn : n ≤ 400) (e4 : z.1 4 = nI n) (e5 : z.1 5 = nI a) (x : Int32) : f_X6_follows z x = if a < n ∧ z.2.1 0 a = x then some (1, sI z 5 (nI (a + 1))) else some (0, z) := by
  unfold f_X6_follows F_X6_follows_0 F_X6_follows_36
  rw [e4, e5]
  by_cases c : a < n
  · rw [if_neg (nI_ge c (by omega)), oA_in _ (vp_in_nI (by omega) (by omega)), nI_clamp (by omega)]
    by_cases c2 : z.2.1 0 a = x
    · rw [if_pos c2, if_pos ⟨c, c2⟩, nI_1]; rfl
    · rw [if_neg c2, if_neg (fun q => c2 q.2)]; rfl
  · rw [if_pos (nI_le (by omega) (by omega)), if_neg (fun q => c q.1)]; rfl
/-- the reference reads a sign -/
def sgR (w : St) (v8 : Int32) : Option St :=
  oL (sI w 9 ((w.1 9) + (1 : Int32))) fun s17 =>
  oL (sI s17 11 (2 : Int32)) fun s18 =>
  oL (sI s18 12 v8) fun s19 =>
  if v8 = (60 : Int32) then (
    oC (f_X12_here s19) fun w22 =>
    oL w22.1 fun v20 => oL w22.2 fun s21 =>
    if v20 = (61 : Int32) then (
      oL (sI s21 12 (256 : Int32)) fun s23 =>
      F_X12_next_280 s23 v8)
    else (
      F_X12_next_233 s21 v8))
  else (
    F_X12_next_233 s19 v8)
theorem sg_both {n a : Nat} {z w : St} (h : rdR n a z w) (c : a < n) (x : Int32) : ∃ z' w' a', f_X6_readSign z x = some z' ∧ sgR w x = some w' ∧ a < a' ∧ rdR n a' z' w' ∧ fr [5, 6] [] z z' ∧ fr [9, 11, 12] [] w w' ∧ tokR (z'.1 6) (z'.1 8) (w'.1 11) (w'.1 12) := by
  obtain ⟨h1, h2, h3, h4, h5, h6, h7, h8⟩ := id h
  have one : ∀ (i : Nat) (t v : Int32), i < 13 → t = nI (21 + i) → v = nI (sgV i) → ∃ z' w' a', some (sI (sI z 5 (nI (a + 1))) 6 t) = some z' ∧ some (sI (sI (sI w 9 (nI (a + 1))) 11 2) 12 v) = some w' ∧ a < a' ∧ rdR n a' z' w' ∧ fr [5, 6] [] z z' ∧ fr [9, 11, 12] [] w w' ∧ tokR (z'.1 6) (z'.1 8) (w'.1 11) (w'.1 12) := by
    intro i t v hi et ev
    have f1 : fr [5, 6] [] z (sI (sI z 5 (nI (a + 1))) 6 t) := fr_I (fr_I fr_0 (by decide)) (by decide)
    have f2 : fr [9, 11, 12] [] w (sI (sI (sI w 9 (nI (a + 1))) 11 2) 12 v) := fr_I (fr_I (fr_I fr_0 (by decide)) (by decide)) (by decide)
    exact ⟨_, _, a + 1, rfl, rfl, by omega, rd_mk h (fr_m f1 (by decide) (by decide)) (fr_m f2 (by decide) (by decide)) rfl rfl (by omega), f1, f2, Or.inr (Or.inr (Or.inl ⟨rfl, i, hi, et, ev⟩))⟩
  have two : ∀ (i : Nat) (t v x' : Int32), a + 1 < n → i < 13 → t = nI (21 + i) → v = nI (sgV i) → ∃ z' w' a', some (sI (sI (sI z 5 (nI (a + 1))) 5 (nI (a + 1 + 1))) 6 t) = some z' ∧ some (sI (sI (sI (sI (sI w 9 (nI (a + 1))) 11 2) 12 x') 12 v) 9 (nI (a + 1 + 1))) = some w' ∧ a < a' ∧ rdR n a' z' w' ∧ fr [5, 6] [] z z' ∧ fr [9, 11, 12] [] w w' ∧ tokR (z'.1 6) (z'.1 8) (w'.1 11) (w'.1 12) := by
    intro i t v x' hlt hi et ev
    have f1 : fr [5, 6] [] z (sI (sI (sI z 5 (nI (a + 1))) 5 (nI (a + 1 + 1))) 6 t) := fr_I (fr_I (fr_I fr_0 (by decide)) (by decide)) (by decide)
    have f2 : fr [9, 11, 12] [] w (sI (sI (sI (sI (sI w 9 (nI (a + 1))) 11 2) 12 x') 12 v) 9 (nI (a + 1 + 1))) := fr_I (fr_I (fr_I (fr_I (fr_I fr_0 (by decide)) (by decide)) (by decide)) (by decide)) (by decide)
    exact ⟨_, _, a + 2, rfl, rfl, by omega, rd_mk h (fr_m f1 (by decide) (by decide)) (fr_m f2 (by decide) (by decide)) rfl rfl (by omega), f1, f2, Or.inr (Or.inr (Or.inl ⟨rfl, i, hi, et, ev⟩))⟩
  have e1 : f_X6_readSign z x = F_X6_readSign_0 z x := rfl
  have e5 : z.1 5 + (1 : Int32) = nI (a + 1) := by rw [h5, nI_1]
  have e9 : w.1 9 + (1 : Int32) = nI (a + 1) := by rw [h6, nI_1]
  have here : ∀ v : Int32, f_X12_here (sI (sI (sI w 9 (nI (a + 1))) 11 2) 12 v) = some (if a + 1 < n then w.2.1 0 (a + 1) else -1, sI (sI (sI w 9 (nI (a + 1))) 11 2) 12 v) := fun v => p_here (w := sI (sI (sI w 9 (nI (a + 1))) 11 2) 12 v) (show a + 1 ≤ n by omega) h2 h4 rfl
  have fol : ∀ v : Int32, f_X6_follows (sI z 5 (nI (a + 1))) v = if a + 1 < n ∧ z.2.1 0 (a + 1) = v then some (1, sI (sI z 5 (nI (a + 1))) 5 (nI (a + 1 + 1))) else some (0, sI z 5 (nI (a + 1))) := fun v => p_follows (z := sI z 5 (nI (a + 1))) (show a + 1 ≤ n by omega) h2 h3 rfl v
  rw [e1]
  unfold F_X6_readSign_0 sgR
  simp only [oL_s]
  rw [e5, e9]
  unfold F_X6_readSign_248 F_X6_readSign_147 F_X6_readSign_170 F_X6_readSign_254 F_X12_next_233 F_X12_next_258 F_X12_next_280 F_X12_next_366
  simp only [oL_s]
  have n1 : ¬ (1 : Int32) = 0 := by decide
  have e2 : ∀ v v' : Int32, (sI (sI (sI (sI w 9 (nI (a + 1))) 11 2) 12 v) 12 v').1 9 + 1 = nI (a + 1 + 1) := fun v v' => nI_1 (a + 1)
  by_cases c40 : x = 40
  · subst c40; exact one 10 31 40 (by omega) rfl rfl
  by_cases c41 : x = 41
  · subst c41; exact one 11 32 41 (by omega) rfl rfl
  by_cases c42 : x = 42
  · subst c42; exact one 2 23 42 (by omega) rfl rfl
  by_cases c43 : x = 43
  · subst c43; exact one 0 21 43 (by omega) rfl rfl
  by_cases c45 : x = 45
  · subst c45; exact one 1 22 45 (by omega) rfl rfl
  by_cases c47 : x = 47
  · subst c47; exact one 3 24 47 (by omega) rfl rfl
  by_cases c59 : x = 59
  · subst c59; exact one 12 33 59 (by omega) rfl rfl
  by_cases c61 : x = 61
  · subst c61; exact one 6 27 61 (by omega) rfl rfl
  by_cases c60 : x = 60
  · subst c60
    have nv : ∀ v : Int32, ¬ (sI (sI (sI (sI w 9 (nI (a + 1))) 11 2) 12 60) 12 256).1 12 = 60 ∧ ¬ (sI (sI (sI (sI w 9 (nI (a + 1))) 11 2) 12 60) 12 257).1 12 = 60 := fun _ => ⟨(show ¬ (256 : Int32) = 60 by decide), (show ¬ (257 : Int32) = 60 by decide)⟩
    simp only [show ¬ (60 : Int32) = 40 by decide, show ¬ (60 : Int32) = 41 by decide, show ¬ (60 : Int32) = 42 by decide, show ¬ (60 : Int32) = 43 by decide, show ¬ (60 : Int32) = 44 by decide, show ¬ (60 : Int32) = 45 by decide, show ¬ (60 : Int32) = 46 by decide, show ¬ (60 : Int32) = 47 by decide, show ¬ (60 : Int32) = 48 by decide, show ¬ (60 : Int32) = 49 by decide, show ¬ (60 : Int32) = 50 by decide, show ¬ (60 : Int32) = 51 by decide, show ¬ (60 : Int32) = 52 by decide, show ¬ (60 : Int32) = 53 by decide, show ¬ (60 : Int32) = 54 by decide, show ¬ (60 : Int32) = 55 by decide, show ¬ (60 : Int32) = 56 by decide, show ¬ (60 : Int32) = 57 by decide, show ¬ (60 : Int32) = 58 by decide, show ¬ (60 : Int32) = 59 by decide, show ¬ (60 : Int32) = 62 by decide, ↓reduceIte, here, oC_s]
    rw [fol]
    by_cases d : a + 1 < n
    · rw [if_pos d]
      by_cases d1 : w.2.1 0 (a + 1) = 61
      · rw [if_pos ⟨d, by rw [h7]; exact d1⟩, if_pos d1]
        simp only [oC_s, n1, ↓reduceIte]
        rw [if_neg (nv 0).1, e2]
        exact two 5 26 256 60 d (by omega) rfl rfl
      · rw [if_neg (fun q => d1 (by rw [← h7]; exact q.2)), if_neg d1]
        simp only [oC_s, ↓reduceIte]
        rw [fol]
        by_cases d2 : w.2.1 0 (a + 1) = 62
        · rw [if_pos ⟨d, by rw [h7]; exact d2⟩, if_pos d2]
          simp only [oC_s, n1, ↓reduceIte]
          rw [if_neg (nv 0).2, e2]
          exact two 7 28 257 60 d (by omega) rfl rfl
        · rw [if_neg (fun q => d2 (by rw [← h7]; exact q.2)), if_neg d2]
          simp only [oC_s, ↓reduceIte]
          exact one 4 25 60 (by omega) rfl rfl
    · have m1 : ¬ (-1 : Int32) = 61 := by decide
      have m2 : ¬ (-1 : Int32) = 62 := by decide
      rw [if_neg d, if_neg (fun q => d q.1), if_neg m1, if_neg m2]
      simp only [oC_s, ↓reduceIte]
      rw [fol, if_neg (fun q => d q.1)]
      simp only [oC_s, ↓reduceIte]
      exact one 4 25 60 (by omega) rfl rfl
  by_cases c62 : x = 62
  · subst c62
    simp only [show ¬ (62 : Int32) = 40 by decide, show ¬ (62 : Int32) = 41 by decide, show ¬ (62 : Int32) = 42 by decide, show ¬ (62 : Int32) = 43 by decide, show ¬ (62 : Int32) = 44 by decide, show ¬ (62 : Int32) = 45 by decide, show ¬ (62 : Int32) = 46 by decide, show ¬ (62 : Int32) = 47 by decide, show ¬ (62 : Int32) = 48 by decide, show ¬ (62 : Int32) = 49 by decide, show ¬ (62 : Int32) = 50 by decide, show ¬ (62 : Int32) = 51 by decide, show ¬ (62 : Int32) = 52 by decide, show ¬ (62 : Int32) = 53 by decide, show ¬ (62 : Int32) = 54 by decide, show ¬ (62 : Int32) = 55 by decide, show ¬ (62 : Int32) = 56 by decide, show ¬ (62 : Int32) = 57 by decide, show ¬ (62 : Int32) = 58 by decide, show ¬ (62 : Int32) = 59 by decide, show ¬ (62 : Int32) = 60 by decide, show ¬ (62 : Int32) = 61 by decide, ↓reduceIte, here, oC_s]
    rw [fol]
    by_cases d : a + 1 < n
    · rw [if_pos d]
      by_cases d1 : w.2.1 0 (a + 1) = 61
      · rw [if_pos ⟨d, by rw [h7]; exact d1⟩, if_pos d1]
        simp only [oC_s, n1, ↓reduceIte]
        rw [if_neg (show ¬ (sI (sI (sI (sI w 9 (nI (a + 1))) 11 2) 12 62) 12 258).1 12 = 62 from (show ¬ (258 : Int32) = 62 by decide)), e2]
        exact two 8 29 258 62 d (by omega) rfl rfl
      · rw [if_neg (fun q => d1 (by rw [← h7]; exact q.2)), if_neg d1]
        simp only [oC_s, ↓reduceIte]
        exact one 9 30 62 (by omega) rfl rfl
    · have m1 : ¬ (-1 : Int32) = 61 := by decide
      rw [if_neg d, if_neg (fun q => d q.1), if_neg m1]
      simp only [oC_s, ↓reduceIte]
      exact one 9 30 62 (by omega) rfl rfl
  have ex : (sI (sI (sI w 9 (nI (a + 1))) 11 2) 12 x).1 12 = x := rfl
  simp only [c40, c41, c42, c43, c45, c47, c59, c60, c61, c62, ex, ↓reduceIte, ite_self]
  have f1 : fr [5, 6] [] z (sI (sI z 5 (nI (a + 1))) 6 35) := fr_I (fr_I fr_0 (by decide)) (by decide)
  have f2 : fr [9, 11, 12] [] w (sI (sI (sI (sI w 9 (nI (a + 1))) 11 2) 12 x) 11 4) := fr_I (fr_I (fr_I (fr_I fr_0 (by decide)) (by decide)) (by decide)) (by decide)
  exact ⟨_, _, a + 1, rfl, rfl, by omega, rd_mk h (fr_m f1 (by decide) (by decide)) (fr_m f2 (by decide) (by decide)) rfl rfl (by omega), f1, f2, Or.inr (Or.inr (Or.inr (Or.inr ⟨rfl, rfl⟩)))⟩
/-- how much is left to read: the token in hand counts -/
def muT (n a : Nat) (tk : Int32) : Nat := (n - a) + (if tk = 34 then 0 else 1)
theorem adv_loop {n : Nat} (k : Nat) : ∀ a z w, rdR n a z w → n - a < k → n < 99999 → ∃ z' w' a', F_X6_advance_0 k z = some z' ∧ F_X12_next_0 k w = some w' ∧ a ≤ a' ∧ rdR n a' z' w' ∧ fr [5, 6, 7, 8] [] z z' ∧ fr [9, 10, 11, 12] [] w w' ∧ tokR (z'.1 6) (z'.1 8) (w'.1 11) (w'.1 12) ∧ z'.1 7 = w'.1 10 ∧ ((z'.1 6 = 34 ∧ a' = n) ∨ a < a') := by
  induction k with
  | zero => intro a z w _ h; omega
  | succ k ih =>
    intro a z w h hk hn9
    obtain ⟨h1, h2, h3, h4, h5, h6, h7, h8⟩ := id h
    show ∃ z' w' a', F_X6_advance_0_b (F_X6_advance_0 k) z = some z' ∧ F_X12_next_0_b (F_X12_next_0 k) w = some w' ∧ _
    unfold F_X6_advance_0_b F_X6_advance_39 F_X12_next_0_b F_X12_next_18
    rw [h3, h5, p_here h1 h2 h4 h6]
    simp only [oC_s, oL_s]
    rw [p_here h1 h2 h4 h6]
    simp only [oC_s, oL_s]
    by_cases c : a < n
    case neg =>
      have m1 : ¬ (-1 : Int32) = 10 := by decide
      have m2 : ¬ (-1 : Int32) = 32 := by decide
      rw [if_pos (nI_le (show n ≤ a by omega) (by omega)), if_neg c, if_neg m1, if_neg m2]
      have hh : f_X12_here (sI w 10 (w.1 9)) = some (if a < n then w.2.1 0 a else -1, sI w 10 (w.1 9)) := p_here (w := sI w 10 (w.1 9)) h1 h2 h4 h6
      rw [hh, if_neg c]
      simp only [oC_s, ↓reduceIte]
      unfold F_X6_advance_52 F_X6_advance_137
      simp only [oL_s]
      have e5' : (sI z 7 (z.1 5)).1 5 = nI a := h5
      have e4' : (sI z 7 (z.1 5)).1 4 = nI n := h3
      rw [e5', e4', if_neg (nI_nlt (show n ≤ a by omega) (by omega))]
      have f1 : fr [5, 6, 7, 8] [] z (sI (sI z 7 (z.1 5)) 6 34) := fr_I (fr_I fr_0 (by decide)) (by decide)
      have f2 : fr [9, 10, 11, 12] [] w (sI (sI w 10 (w.1 9)) 11 3) := fr_I (fr_I fr_0 (by decide)) (by decide)
      refine ⟨_, _, a, rfl, rfl, Nat.le_refl _, rd_mk h f1 f2 h5 h6 h1, f1, f2, Or.inr (Or.inr (Or.inr (Or.inl ⟨rfl, rfl⟩))), ?_, Or.inl ⟨rfl, by omega⟩⟩
      show z.1 5 = w.1 9
      rw [h5, h6]
    have ia : vp_in (nI a) 400 := vp_in_nI (by omega) (by omega)
    simp only [if_pos c, oA_in _ ia, nI_clamp (show a < 2 ^ 31 by omega), h7]
    rw [if_neg (nI_ge c (by omega))]
    have blank : ∃ z' w' a', F_X6_advance_0 k (sI z 5 (nI a + 1)) = some z' ∧ F_X12_next_0 k (sI w 9 (w.1 9 + 1)) = some w' ∧ a ≤ a' ∧ rdR n a' z' w' ∧ fr [5, 6, 7, 8] [] z z' ∧ fr [9, 10, 11, 12] [] w w' ∧ tokR (z'.1 6) (z'.1 8) (w'.1 11) (w'.1 12) ∧ z'.1 7 = w'.1 10 ∧ ((z'.1 6 = 34 ∧ a' = n) ∨ a < a') := by
      rw [h6, nI_1]
      obtain ⟨z', w', a', g1, g2, g3, g4, g5, g6, g7, g8, g9⟩ := ih (a + 1) (sI z 5 (nI (a + 1))) (sI w 9 (nI (a + 1))) (rd_mk h (fr_I fr_0 (by decide)) (fr_I fr_0 (by decide)) rfl rfl (by omega)) (by omega) hn9
      exact ⟨z', w', a', g1, g2, by omega, g4, fr_t (fr_I fr_0 (by decide)) g5, fr_t (fr_I fr_0 (by decide)) g6, g7, g8, Or.inr (by omega)⟩
    by_cases c32 : w.2.1 0 a = 32
    · have m1 : ¬ (32 : Int32) = 10 := by decide
      rw [c32, if_pos rfl, if_neg m1, if_pos rfl]
      exact blank
    by_cases c10 : w.2.1 0 a = 10
    · rw [if_neg c32, if_pos c10, if_pos c10]
      exact blank
    rw [if_neg c32, if_neg c10, if_neg c10, if_neg c32]
    have hh : f_X12_here (sI w 10 (w.1 9)) = some (if a < n then w.2.1 0 a else -1, sI w 10 (w.1 9)) := p_here (w := sI w 10 (w.1 9)) h1 h2 h4 h6
    rw [hh, if_pos c]
    simp only [oC_s]
    obtain ⟨b, hb, eb⟩ := h8.1 a c
    have nm : ¬ w.2.1 0 a = (-1 : Int32) := by rw [eb]; exact nI_nm1 (by omega)
    rw [if_neg nm]
    simp only [p_isSmall, p_isDigitR, oC_s]
    unfold F_X6_advance_52 F_X6_advance_137
    simp only [oL_s]
    have e5' : (sI z 7 (z.1 5)).1 5 = nI a := h5
    have e4' : (sI z 7 (z.1 5)).1 4 = nI n := h3
    have e7' : (sI z 7 (z.1 5)).2.1 0 = w.2.1 0 := h7
    have hR : rdR n a (sI z 7 (z.1 5)) (sI w 10 (w.1 9)) := rd_mk h (fr_I fr_0 (by decide)) (fr_I fr_0 (by decide)) h5 h6 h1
    have eT : (sI w 10 (w.1 9)).2.1 0 a = w.2.1 0 a := rfl
    rw [e5', e4', if_pos (nI_lt c (by omega)), oA_in _ ia, nI_clamp (by omega), e7']
    simp only [p_isLetter, p_isDigit, oC_s, e5', e7', oA_in _ ia, nI_clamp (show a < 2 ^ 31 by omega)]
    cases hl : ltr (w.2.1 0 a)
    · have z0 : b2 false = 0 := rfl
      rw [if_pos z0, if_pos z0]
      cases hd : dgt (w.2.1 0 a)
      · rw [if_pos z0, if_pos z0]
        obtain ⟨z', w', a', g1, g2, g3, g4, g5, g6, g7⟩ := sg_both hR c (w.2.1 0 a)
        rw [g1]
        simp only [oC_s]
        refine ⟨z', w', a', rfl, g2, by omega, g4, fr_t (fr_I fr_0 (by decide)) (fr_m g5 (by decide) (by decide)), fr_t (fr_I fr_0 (by decide)) (fr_m g6 (by decide) (by decide)), g7, ?_, Or.inr g3⟩
        rw [g5.1 7 (by decide), g6.1 10 (by decide)]
        show z.1 5 = w.1 9
        rw [h5, h6]
      · have z1 : ¬ b2 true = 0 := by decide
        rw [if_neg z1, if_neg z1]
        obtain ⟨z', w', a', g1, g2, g3, g4, g5, g6, g7, g8⟩ := num_loop (n := n) 100000 a 0 (sI (sI z 7 (z.1 5)) 8 0) (sI (sI (sI w 10 (w.1 9)) 11 1) 12 0) (rd_mk h (fr_I (fr_I fr_0 (by decide)) (by decide)) (fr_I (fr_I (fr_I fr_0 (by decide)) (by decide)) (by decide)) h5 h6 h1) (by omega) rfl rfl rfl (by omega)
        have g1' : f_X6_readNumber (sI z 7 (z.1 5)) = some z' := g1
        rw [g1', g2]
        simp only [oC_s]
        have f1 : fr [5, 6, 7, 8] [] z z' := fr_t (fr_I (fr_I fr_0 (by decide)) (by decide)) (fr_m g6 (by decide) (by decide))
        have f2 : fr [9, 10, 11, 12] [] w w' := fr_t (fr_I (fr_I (fr_I fr_0 (by decide)) (by decide)) (by decide)) (fr_m g7 (by decide) (by decide))
        refine ⟨z', w', a', rfl, rfl, g3, g5, f1, f2, g8, ?_, Or.inr ?_⟩
        · rw [g6.1 7 (by decide), g7.1 10 (by decide)]
          show z.1 5 = w.1 9
          rw [h5, h6]
        · rcases Nat.lt_or_ge a a' with q | q
          · exact q
          · exfalso
            have ea : a' = a := by omega
            subst ea
            exact g4 ⟨c, hd⟩
    · have z1 : ¬ b2 true = 0 := by decide
      rw [if_neg z1, if_neg z1]
      obtain ⟨z', w', a', g1, g2, g3, g4, g5, g6, g7, g8⟩ := word_loop (n := n) (p := a) 100000 a (sI z 7 (z.1 5)) (sI w 10 (w.1 9)) hR (Nat.le_refl _) h5 h6 (by omega)
      have g1' : f_X6_readWord (sI z 7 (z.1 5)) = some z' := g1
      rw [g1', g2]
      simp only [oC_s]
      have f1 : fr [5, 6, 7, 8] [] z z' := fr_t (fr_I fr_0 (by decide)) (fr_m g6 (by decide) (by decide))
      have f2 : fr [9, 10, 11, 12] [] w w' := fr_t (fr_I fr_0 (by decide)) (fr_m g7 (by decide) (by decide))
      refine ⟨z', w', a', rfl, rfl, g3, g5, f1, f2, g8, ?_, Or.inr ?_⟩
      · rw [g6.1 7 (by decide), g7.1 10 (by decide)]
        show z.1 5 = w.1 9
        rw [h5, h6]
      · rcases Nat.lt_or_ge a a' with q | q
        · exact q
        · exfalso
          have ea : a' = a := by omega
          subst ea
          exact g4 ⟨c, hl⟩
theorem p_adv {n a : Nat} {z w : St} (h : rdR n a z w) (ht : z.1 6 ≠ 34) : ∃ z' w' a', f_X6_advance z = some z' ∧ f_X12_next w = some w' ∧ rdR n a' z' w' ∧ fr [5, 6, 7, 8] [] z z' ∧ fr [9, 10, 11, 12] [] w w' ∧ tokR (z'.1 6) (z'.1 8) (w'.1 11) (w'.1 12) ∧ z'.1 7 = w'.1 10 ∧ muT n a' (z'.1 6) + 1 ≤ muT n a (z.1 6) := by
  have hb := h.2.1
  obtain ⟨z', w', a', g1, g2, g3, g4, g5, g6, g7, g8, g9⟩ := adv_loop (n := n) 100000 a z w h (by omega) (by omega)
  refine ⟨z', w', a', g1, g2, g4, g5, g6, g7, g8, ?_⟩
  unfold muT
  rw [if_neg ht]
  have := g4.1
  rcases g9 with ⟨q1, q2⟩ | q
  · rw [if_pos q1]; omega
  · split <;> omega
