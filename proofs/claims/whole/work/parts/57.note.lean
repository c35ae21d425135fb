/-! PURE: note, accepted or refused by what it tells -/
/-- the common end: a full book refuses, else a note more -/
theorem p_note_end (z w : St) (x1 x2 x3 x4 : Int32) (hn : w.1 27 = z.1 29) (h0 : 0 ≤ (z.1 29).toInt) (c' : (z.1 29).toInt ≤ 79) :
    F_X11_note_125 z x1 x2 x3 x4 1 = some (z.1 29 + 1 - 1, addC z x1 x2 x3 x4 0 (z.1 0)) ∧ F_X12_note_93 w x1 x2 x3 x4 = some (z.1 29 + 1 - 1, addR w x1 x2 x3 x4 0) := by
  have n1 : ¬ (1 : Int32) = 0 := by decide
  unfold F_X11_note_125 F_X12_note_93 F_X11_note_151
  rw [if_neg n1, p_add z _ _ _ _ _ _ h0 c', p_noted w _ _ _ _ _ (by rw [hn]; exact h0) (by rw [hn]; exact c'), oC_some, oC_some]
  exact ⟨rfl, by show some (w.1 27 + 1 - 1, _) = _; rw [hn]⟩
theorem p_note_no (z : St) (x1 x2 x3 x4 : Int32) : F_X11_note_125 z x1 x2 x3 x4 0 = some (-1, z) := by
  unfold F_X11_note_125 F_X11_note_151
  rw [if_pos rfl]
theorem p_note_full (z : St) (x1 x2 x3 x4 v : Int32) (c : z.1 29 = 80) : F_X11_note_125 z x1 x2 x3 x4 v = some (-1, z) := by
  unfold F_X11_note_125 F_X11_note_151
  by_cases h : v = 0
  · rw [if_pos h]
  · rw [if_neg h, p_addFull z _ _ _ _ _ _ c]; rfl
/-- note 1 (a meeting) -/
theorem p_note_1 (z w : St) (x2 x3 x4 : Int32) (ht : w.1 21 = z.1 0) (hn : w.1 27 = z.1 29) (h0 : 0 ≤ (z.1 29).toInt) (h1 : (z.1 29).toInt ≤ 80) (a : ¬ x4 < 0) (b : ¬ z.1 0 < x4) (e : ¬ (x3 < 0 ∨ (8 : Int32) ≤ x3)) :
    (f_X11_note z 1 x2 x3 x4 = some (-1, z) ∧ f_X12_note w 1 x2 x3 x4 = some (-1, sI w 0 0)) ∨ ((z.1 29).toInt ≤ 79 ∧ ¬ (x2 < 0 ∨ (8 : Int32) ≤ x2) ∧ ¬ x2 = x3 ∧ f_X11_note z 1 x2 x3 x4 = some (z.1 29 + 1 - 1, addC z 1 x2 x3 x4 0 (z.1 0)) ∧ f_X12_note w 1 x2 x3 x4 = some (z.1 29 + 1 - 1, addR (sI w 0 0) 1 x2 x3 x4 0)) := by
  have n1 : ¬ (1 : Int32) = 0 := by decide
  have n2 : ¬ (1 : Int32) < 0 := by decide
  have n3 : ¬ (2 : Int32) < 1 := by decide
  have e80 : ((80 : Int32)).toInt = 80 := by decide
  have k1 : (sI w 0 0).1 21 = z.1 0 := ht
  have k2 : (sI w 0 0).1 27 = z.1 29 := hn
  unfold f_X11_note f_X12_note F_X11_note_0 F_X12_note_0 F_X11_note_21 F_X12_note_44 F_X11_note_103 F_X11_note_104 F_X12_note_74 F_X12_note_76
  simp only [oL_eq, p_isPerson, p_isPersonR, oC_some, k1, k2]
  rw [if_neg a, if_neg b, if_neg e, if_neg n1, if_neg n1, if_pos trivial, if_neg n2, if_neg n3, if_neg n1, if_neg a, if_neg b]
  by_cases c : z.1 29 = (80 : Int32)
  · left
    rw [if_pos c]
    refine ⟨?_, rfl⟩
    by_cases f : x2 < 0 ∨ (8 : Int32) ≤ x2
    · rw [if_pos f, if_pos rfl]; exact p_note_no _ _ _ _ _
    · rw [if_neg f, if_neg n1]
      by_cases g : x2 = x3
      · rw [if_pos g]; exact p_note_no _ _ _ _ _
      · rw [if_neg g]; exact p_note_full _ _ _ _ _ _ c
  · rw [if_neg c, if_pos trivial]
    by_cases f : x2 < 0 ∨ (8 : Int32) ≤ x2
    · left
      rw [if_pos f, if_pos rfl, if_pos rfl]
      exact ⟨p_note_no _ _ _ _ _, rfl⟩
    · rw [if_neg f, if_neg n1, if_neg n1]
      by_cases g : x2 = x3
      · left
        rw [if_pos g, if_pos g]
        exact ⟨p_note_no _ _ _ _ _, rfl⟩
      · right
        have c' : (z.1 29).toInt ≤ 79 := by
          have : (z.1 29).toInt ≠ 80 := fun q => c (Int32.toInt_inj.mp (by rw [q, e80]))
          omega
        rw [if_neg g, if_neg g, if_neg n1]
        obtain ⟨g1, g2⟩ := p_note_end z (sI w 0 0) 1 x2 x3 x4 k2 h0 c'
        exact ⟨c', f, g, g1, g2⟩
