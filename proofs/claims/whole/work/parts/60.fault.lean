/-! PURE: fault -/
theorem p_fault (z w : St) (x : Int32) (h1 : w.1 15 = z.1 2) (h2 : w.1 16 = z.1 3) : ∃ r : Int32, f_X11_fault z x = some (r, z) ∧ f_X12_fault w x = some (r, sI w 0 0) := by
  have k1 : (sI w 0 0).1 15 = z.1 2 := h1
  have k2 : (sI w 0 0).1 16 = z.1 3 := h2
  unfold f_X11_fault f_X12_fault F_X11_fault_0 F_X12_fault_0 F_X12_fault_29
  simp only [oL_eq, k1, k2]
  by_cases a : x = 0
  · rw [if_pos a, if_pos a]; exact ⟨_, rfl, rfl⟩
  · by_cases b : x = 1
    · rw [if_neg a, if_neg a, if_pos b, if_pos b]; exact ⟨_, rfl, rfl⟩
    · rw [if_neg a, if_neg a, if_neg b, if_neg b]; exact ⟨_, rfl, rfl⟩
