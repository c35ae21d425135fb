/-! PURE: persons, drafts -/
theorem p_isPerson (z : St) (x : Int32) : f_X11_isPerson z x = some (if x < 0 ∨ (8 : Int32) ≤ x then 0 else 1, z) := by
  unfold f_X11_isPerson F_X11_isPerson_0 F_X11_isPerson_14 F_X11_isPerson_15
  by_cases a : x < 0
  · rw [if_pos a, if_pos (Or.inl a), oC_some]; exact oZ_0 _
  · by_cases b : (8 : Int32) ≤ x
    · rw [if_neg a, if_pos b, if_pos (Or.inr b), oC_some]; exact oZ_0 _
    · rw [if_neg a, if_neg b, if_neg (fun q => Or.elim q a b), oC_some]; exact oZ_1 _
theorem p_isPersonR (w : St) (x : Int32) : f_X12_isPerson w x = some (if x < 0 ∨ (8 : Int32) ≤ x then 0 else 1, w) := by
  unfold f_X12_isPerson F_X12_isPerson_0 F_X12_isPerson_14 F_X12_isPerson_15
  by_cases a : x < 0
  · rw [if_pos a, if_pos (Or.inl a), oC_some]; exact oZ_0 _
  · by_cases b : (8 : Int32) ≤ x
    · rw [if_neg a, if_pos b, if_pos (Or.inr b), oC_some]; exact oZ_0 _
    · rw [if_neg a, if_neg b, if_neg (fun q => Or.elim q a b), oC_some]; exact oZ_1 _
theorem p_has1 (z : St) (x : Int32) : f_X1_has z x = some (if x < 0 ∨ z.1 30 ≤ x then 0 else 1, z) := by
  unfold f_X1_has F_X1_has_0 F_X1_has_16 F_X1_has_17
  by_cases a : x < 0
  · rw [if_pos a, if_pos (Or.inl a), oC_some]; exact oZ_0 _
  · by_cases b : z.1 30 ≤ x
    · rw [if_neg a, if_pos b, if_pos (Or.inr b), oC_some]; exact oZ_0 _
    · rw [if_neg a, if_neg b, if_neg (fun q => Or.elim q a b), oC_some]; exact oZ_1 _
theorem p_isDraft (w : St) (x : Int32) : f_X12_isDraft w x = some (if x < 0 ∨ w.1 25 ≤ x then 0 else 1, w) := by
  unfold f_X12_isDraft F_X12_isDraft_0 F_X12_isDraft_16 F_X12_isDraft_17
  by_cases a : x < 0
  · rw [if_pos a, if_pos (Or.inl a), oC_some]; exact oZ_0 _
  · by_cases b : w.1 25 ≤ x
    · rw [if_neg a, if_pos b, if_pos (Or.inr b), oC_some]; exact oZ_0 _
    · rw [if_neg a, if_neg b, if_neg (fun q => Or.elim q a b), oC_some]; exact oZ_1 _
/-- note, refused by its day or its person: alike -/
theorem p_note_day (z w : St) (x1 x2 x3 x4 : Int32) (ht : w.1 21 = z.1 0) (h : x4 < 0 ∨ z.1 0 < x4 ∨ x3 < 0 ∨ (8 : Int32) ≤ x3) : f_X11_note z x1 x2 x3 x4 = some (-1, z) ∧ f_X12_note w x1 x2 x3 x4 = some (-1, sI w 0 0) := by
  have n1 : ¬ (1 : Int32) = 0 := by decide
  have k1 : (sI w 0 0).1 21 = z.1 0 := ht
  unfold f_X11_note f_X12_note F_X11_note_0 F_X12_note_0 F_X11_note_21 F_X12_note_44
  simp only [oL_eq, p_isPerson, p_isPersonR, oC_some, k1]
  constructor
  · by_cases a : x4 < 0
    · rw [if_pos a]
    · by_cases b : z.1 0 < x4
      · rw [if_neg a, if_pos b]
      · rw [if_neg a, if_neg b, if_pos (h.elim (fun q => absurd q a) (fun q => q.elim (fun q => absurd q b) id)), if_pos rfl]
  · by_cases c : x1 < 0
    · rw [if_pos c]
    · by_cases d : (2 : Int32) < x1
      · rw [if_neg c, if_pos d]
      · rw [if_neg c, if_neg d]
        by_cases e : x3 < 0 ∨ (8 : Int32) ≤ x3
        · rw [if_pos e, if_pos rfl]
        · rw [if_neg e, if_neg n1]
          by_cases a : x4 < 0
          · rw [if_pos a]
          · rw [if_neg a, if_pos (h.elim (fun q => absurd q a) (fun q => q.elim id (fun q => absurd q e)))]
