/-! PURE: note of another kind: refused alike -/
theorem p_note_x (z w : St) (x1 x2 x3 x4 : Int32) (ht : w.1 21 = z.1 0) (h0 : ¬ x1 = 0) (h1 : ¬ x1 = 1) (h2 : ¬ x1 = 2) : f_X11_note z x1 x2 x3 x4 = some (-1, z) ∧ f_X12_note w x1 x2 x3 x4 = some (-1, sI w 0 0) := by
  by_cases d : x4 < 0 ∨ z.1 0 < x4 ∨ x3 < 0 ∨ (8 : Int32) ≤ x3
  · exact p_note_day z w x1 x2 x3 x4 ht d
  have a : ¬ x4 < 0 := fun q => d (Or.inl q)
  have b : ¬ z.1 0 < x4 := fun q => d (Or.inr (Or.inl q))
  have e : ¬ (x3 < 0 ∨ (8 : Int32) ≤ x3) := fun q => d (Or.inr (Or.inr q))
  have n1 : ¬ (1 : Int32) = 0 := by decide
  have e0 : ((0 : Int32)).toInt = 0 := by decide
  have e1 : ((1 : Int32)).toInt = 1 := by decide
  have e2 : ((2 : Int32)).toInt = 2 := by decide
  unfold f_X11_note f_X12_note F_X11_note_0 F_X12_note_0 F_X11_note_21 F_X12_note_44
  simp only [oL_eq, p_isPerson, p_isPersonR, oC_some]
  refine ⟨?_, ?_⟩
  · rw [if_neg a, if_neg b, if_neg e, if_neg n1, if_neg h0, if_neg h1, if_neg h2]
    exact p_note_no _ _ _ _ _
  · by_cases c : x1 < 0
    · rw [if_pos c]
    · have c2 : (2 : Int32) < x1 := i_lt.mpr (by
        have q0 : ¬ x1.toInt < 0 := fun q => c (i_lt.mpr (by rw [e0]; exact q))
        have r0 : x1.toInt ≠ 0 := fun q => h0 (Int32.toInt_inj.mp (by rw [q, e0]))
        have r1 : x1.toInt ≠ 1 := fun q => h1 (Int32.toInt_inj.mp (by rw [q, e1]))
        have r2 : x1.toInt ≠ 2 := fun q => h2 (Int32.toInt_inj.mp (by rw [q, e2]))
        rw [e2]; omega)
      rw [if_neg c, if_pos c2]
