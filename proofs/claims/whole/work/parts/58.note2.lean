/-! PURE: note 2 (an act), note 0 (a sight), and any other kind -/
theorem n_full {z : St} (c : ¬ z.1 29 = (80 : Int32)) (h1 : (z.1 29).toInt ≤ 80) : (z.1 29).toInt ≤ 79 := by
  have e80 : ((80 : Int32)).toInt = 80 := by decide
  have : (z.1 29).toInt ≠ 80 := fun q => c (Int32.toInt_inj.mp (by rw [q, e80]))
  omega
theorem p_note_2 (z w : St) (x2 x3 x4 : Int32) (ht : w.1 21 = z.1 0) (hn : w.1 27 = z.1 29) (hd : w.1 25 = z.1 30) (h0 : 0 ≤ (z.1 29).toInt) (h1 : (z.1 29).toInt ≤ 80) (a : ¬ x4 < 0) (b : ¬ z.1 0 < x4) (e : ¬ (x3 < 0 ∨ (8 : Int32) ≤ x3)) :
    (f_X11_note z 2 x2 x3 x4 = some (-1, z) ∧ f_X12_note w 2 x2 x3 x4 = some (-1, sI w 0 0)) ∨ ((z.1 29).toInt ≤ 79 ∧ ¬ (x2 < 0 ∨ z.1 30 ≤ x2) ∧ f_X11_note z 2 x2 x3 x4 = some (z.1 29 + 1 - 1, addC z 2 x2 x3 x4 0 (z.1 0)) ∧ f_X12_note w 2 x2 x3 x4 = some (z.1 29 + 1 - 1, addR (sI w 0 0) 2 x2 x3 x4 0)) := by
  have n1 : ¬ (1 : Int32) = 0 := by decide
  have m0 : ¬ (2 : Int32) = 0 := by decide
  have m1 : ¬ (2 : Int32) = 1 := by decide
  have n2 : ¬ (2 : Int32) < 0 := by decide
  have n3 : ¬ (2 : Int32) < 2 := by decide
  have k1 : (sI w 0 0).1 21 = z.1 0 := ht
  have k2 : (sI w 0 0).1 27 = z.1 29 := hn
  have k3 : (sI w 0 0).1 25 = z.1 30 := hd
  unfold f_X11_note f_X12_note F_X11_note_0 F_X12_note_0 F_X11_note_21 F_X12_note_44 F_X12_note_74 F_X12_note_76
  simp only [oL_eq, p_isPerson, p_isPersonR, p_has1, p_isDraft, oC_some, k1, k2, k3]
  rw [if_neg a, if_neg b, if_neg e, if_neg n1, if_neg m0, if_neg m1, if_pos trivial, if_neg n2, if_neg n3, if_neg n1, if_neg a, if_neg b]
  by_cases c : z.1 29 = (80 : Int32)
  · left
    rw [if_pos c]
    exact ⟨p_note_full _ _ _ _ _ _ c, rfl⟩
  · rw [if_neg c, if_neg m1]
    by_cases f : x2 < 0 ∨ z.1 30 ≤ x2
    · left
      rw [if_pos f, if_pos rfl]
      exact ⟨p_note_no _ _ _ _ _, rfl⟩
    · right
      have c' := n_full c h1
      rw [if_neg f, if_neg n1, if_neg m0]
      obtain ⟨g1, g2⟩ := p_note_end z (sI w 0 0) 2 x2 x3 x4 k2 h0 c'
      exact ⟨c', f, g1, g2⟩
theorem p_note_0 (z w : St) (x2 x3 x4 : Int32) (ht : w.1 21 = z.1 0) (hn : w.1 27 = z.1 29) (hd : w.1 25 = z.1 30) (d1 : (z.1 30).toInt ≤ 12) (hday : ∀ i : Nat, i < 12 → w.2.1 14 i = z.2.1 29 i) (h0 : 0 ≤ (z.1 29).toInt) (h1 : (z.1 29).toInt ≤ 80) (a : ¬ x4 < 0) (b : ¬ z.1 0 < x4) (e : ¬ (x3 < 0 ∨ (8 : Int32) ≤ x3)) :
    (f_X11_note z 0 x2 x3 x4 = some (-1, z) ∧ f_X12_note w 0 x2 x3 x4 = some (-1, sI w 0 0)) ∨ ((z.1 29).toInt ≤ 79 ∧ ¬ (x2 < 0 ∨ z.1 30 ≤ x2) ∧ f_X11_note z 0 x2 x3 x4 = some (z.1 29 + 1 - 1, addC z 0 x2 x3 x4 0 (z.1 0)) ∧ f_X12_note w 0 x2 x3 x4 = some (z.1 29 + 1 - 1, addR (sI w 0 0) 0 x2 x3 x4 0)) := by
  have n1 : ¬ (1 : Int32) = 0 := by decide
  have m1 : ¬ (0 : Int32) = 1 := by decide
  have n2 : ¬ (0 : Int32) < 0 := by decide
  have n3 : ¬ (2 : Int32) < 0 := by decide
  have e0 : ((0 : Int32)).toInt = 0 := by decide
  have k1 : (sI w 0 0).1 21 = z.1 0 := ht
  have k2 : (sI w 0 0).1 27 = z.1 29 := hn
  have k3 : (sI w 0 0).1 25 = z.1 30 := hd
  unfold f_X11_note f_X12_note F_X11_note_0 F_X12_note_0 F_X11_note_21 F_X12_note_44 F_X12_note_74 F_X12_note_76 F_X11_note_81 F_X11_note_82
  simp only [oL_eq, p_isPerson, p_isPersonR, p_has1, p_isDraft, oC_some, k1, k2, k3]
  rw [if_neg a, if_neg b, if_neg e, if_neg n1, if_pos trivial, if_neg n2, if_neg n3, if_neg n1, if_neg a, if_neg b]
  by_cases f : x2 < 0 ∨ z.1 30 ≤ x2
  · left
    rw [if_pos f, if_pos rfl]
    refine ⟨p_note_no _ _ _ _ _, ?_⟩
    by_cases c : z.1 29 = (80 : Int32)
    · rw [if_pos c]
    · rw [if_neg c, if_neg m1, if_pos rfl]
  · rw [if_neg f, if_neg n1]
    have x0 : ¬ x2.toInt < 0 := fun q => f (Or.inl (i_lt.mpr (by rw [e0]; exact q)))
    have xl : ¬ (z.1 30).toInt ≤ x2.toInt := fun q => f (Or.inr (i_le.mpr q))
    have hin : vp_in x2 12 := vp_inI (by omega) (by omega)
    have hc := i_clamp (i := x2) (by omega)
    have hy : (sI w 0 0).2.1 14 x2.toNatClampNeg = z.2.1 29 x2.toNatClampNeg := hday _ (by omega)
    rw [oA_in _ hin]
    by_cases c : z.1 29 = (80 : Int32)
    · left
      rw [if_pos c]
      refine ⟨?_, rfl⟩
      by_cases g : x4 < z.2.1 29 x2.toNatClampNeg
      · rw [if_pos g]; exact p_note_no _ _ _ _ _
      · rw [if_neg g]; exact p_note_full _ _ _ _ _ _ c
    · rw [if_neg c, if_neg m1, if_neg n1, if_pos trivial, oA_in _ hin, hy]
      by_cases g : x4 < z.2.1 29 x2.toNatClampNeg
      · left
        rw [if_pos g, if_neg (Int32.not_le.mpr g)]
        exact ⟨p_note_no _ _ _ _ _, rfl⟩
      · right
        have c' := n_full c h1
        rw [if_neg g, if_pos (Int32.not_lt.mp g)]
        obtain ⟨g1, g2⟩ := p_note_end z (sI w 0 0) 0 x2 x3 x4 k2 h0 c'
        exact ⟨c', f, g1, g2⟩
