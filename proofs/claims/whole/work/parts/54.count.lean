/-! PURE: villages; count -/
theorem p_has4 (z : St) (x : Int32) : f_X4_has z x = some (if x < 0 ∨ z.1 21 ≤ x then 0 else 1, z) := by
  unfold f_X4_has F_X4_has_0 F_X4_has_16 F_X4_has_17
  by_cases a : x < 0
  · rw [if_pos a, if_pos (Or.inl a), oC_some]; exact oZ_0 _
  · by_cases b : z.1 21 ≤ x
    · rw [if_neg a, if_pos b, if_pos (Or.inr b), oC_some]; exact oZ_0 _
    · rw [if_neg a, if_neg b, if_neg (fun q => Or.elim q a b), oC_some]; exact oZ_1 _
theorem p_isVillage (w : St) (x : Int32) : f_X12_isVillage w x = some (if x < 0 ∨ w.1 22 * w.1 23 ≤ x then 0 else 1, w) := by
  unfold f_X12_isVillage F_X12_isVillage_0 F_X12_isVillage_16 F_X12_isVillage_17
  simp only [oL_eq, p_cells, oC_some]
  by_cases a : x < 0
  · rw [if_pos a, if_pos (Or.inl a), oC_some]; exact oZ_0 _
  · by_cases b : w.1 22 * w.1 23 ≤ x
    · rw [if_neg a, if_pos b, if_pos (Or.inr b), oC_some]; exact oZ_0 _
    · rw [if_neg a, if_neg b, if_neg (fun q => Or.elim q a b), oC_some]; exact oZ_1 _
theorem p_isCount (z : St) (x : Int32) : f_X11_isCount z x = some (if x < 0 ∨ (999 : Int32) < x then 0 else 1, z) := by
  unfold f_X11_isCount F_X11_isCount_0 F_X11_isCount_15 F_X11_isCount_16
  by_cases a : x < 0
  · rw [if_pos a, if_pos (Or.inl a), oC_some]; exact oZ_0 _
  · by_cases b : (999 : Int32) < x
    · rw [if_neg a, if_pos b, if_pos (Or.inr b), oC_some]; exact oZ_0 _
    · rw [if_neg a, if_neg b, if_neg (fun q => Or.elim q a b), oC_some]; exact oZ_1 _
/-- count: refused alike, or a note more on both sides -/
theorem p_count (z w : St) (x1 x2 x3 x4 : Int32) (hs : w.1 22 * w.1 23 = z.1 21) (hn : w.1 27 = z.1 29) (h0 : 0 ≤ (z.1 29).toInt) (h1 : (z.1 29).toInt ≤ 80) : (f_X11_count z x1 x2 x3 x4 = some (-1, z) ∧ f_X12_count w x1 x2 x3 x4 = some (-1, sI w 0 0)) ∨
    ((z.1 29).toInt ≤ 79 ∧ ¬ x1 < 0 ∧ ¬ (4 : Int32) ≤ x1 ∧ ¬ x2 < 0 ∧ ¬ z.1 21 ≤ x2 ∧ ¬ x3 < 0 ∧ ¬ (999 : Int32) < x3 ∧ ¬ x4 < 0 ∧ ¬ (999 : Int32) < x4 ∧ f_X11_count z x1 x2 x3 x4 = some (z.1 29 + 1 - 1, addC z 3 x1 x2 x3 x4 (z.1 0)) ∧ f_X12_count w x1 x2 x3 x4 = some (z.1 29 + 1 - 1, addR (sI w 0 0) 3 x1 x2 x3 x4)) := by
  have e80 : ((80 : Int32)).toInt = 80 := by decide
  have n1 : ¬ (1 : Int32) = 0 := by decide
  have k1 : (sI w 0 0).1 27 = z.1 29 := hn
  have k2 : (sI w 0 0).1 22 * (sI w 0 0).1 23 = z.1 21 := hs
  unfold f_X11_count f_X12_count F_X11_count_0 F_X12_count_0 F_X11_count_33 F_X12_count_55
  simp only [oL_eq, p_isHand, p_has4, p_isVillage, p_isCount, oC_some, k1, k2]
  by_cases a1 : x1 < 0
  · left; rw [if_pos (Or.inl a1), if_pos rfl, if_pos a1]; exact ⟨rfl, rfl⟩
  by_cases a2 : (4 : Int32) ≤ x1
  · left; rw [if_pos (Or.inr a2), if_pos rfl, if_neg a1, if_pos a2]; exact ⟨rfl, rfl⟩
  rw [if_neg (fun q => Or.elim q a1 a2), if_neg n1, if_neg a1, if_neg a2]
  by_cases a3 : x2 < 0 ∨ z.1 21 ≤ x2
  · left; rw [if_pos a3, if_pos rfl, if_pos rfl]; exact ⟨rfl, rfl⟩
  rw [if_neg a3, if_neg n1, if_neg n1]
  by_cases a4 : x3 < 0
  · left; rw [if_pos (Or.inl a4), if_pos rfl, if_pos a4]; exact ⟨rfl, rfl⟩
  by_cases a5 : (999 : Int32) < x3
  · left; rw [if_pos (Or.inr a5), if_pos rfl, if_neg a4, if_pos a5]; exact ⟨rfl, rfl⟩
  rw [if_neg (fun q => Or.elim q a4 a5), if_neg n1, if_neg a4, if_neg a5]
  by_cases a6 : x4 < 0
  · left; rw [if_pos (Or.inl a6), if_pos rfl, if_pos a6]; exact ⟨rfl, rfl⟩
  by_cases a7 : (999 : Int32) < x4
  · left; rw [if_pos (Or.inr a7), if_pos rfl, if_neg a6, if_pos a7]; exact ⟨rfl, rfl⟩
  rw [if_neg (fun q => Or.elim q a6 a7), if_neg n1, if_neg a6, if_neg a7]
  by_cases c : z.1 29 = (80 : Int32)
  · left; rw [if_pos c, p_addFull z _ _ _ _ _ _ c]; exact ⟨rfl, rfl⟩
  · right
    have c' : (z.1 29).toInt ≤ 79 := by
      have : (z.1 29).toInt ≠ 80 := fun q => c (Int32.toInt_inj.mp (by rw [q, e80]))
      omega
    rw [if_neg c, p_add z _ _ _ _ _ _ h0 c', p_noted (sI w 0 0) _ _ _ _ _ (by rw [k1]; exact h0) (by rw [k1]; exact c')]
    exact ⟨c', a1, a2, fun q => a3 (Or.inl q), fun q => a3 (Or.inr q), a4, a5, a6, a7, rfl, by show some ((sI w 0 0).1 27 + 1 - 1, _) = _; rw [k1]⟩
