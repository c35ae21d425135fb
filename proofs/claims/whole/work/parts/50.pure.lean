/-! PURE: numbers, states -/
theorem i_add {x y : Int32} (h1 : -2147483648 ≤ x.toInt + y.toInt) (h2 : x.toInt + y.toInt ≤ 2147483647) : (x + y).toInt = x.toInt + y.toInt := by
  rw [Int32.toInt_add, Int.bmod_def]
  split <;> omega
theorem i_sub {x y : Int32} (h1 : -2147483648 ≤ x.toInt - y.toInt) (h2 : x.toInt - y.toInt ≤ 2147483647) : (x - y).toInt = x.toInt - y.toInt := by
  rw [Int32.toInt_sub, Int.bmod_def]
  split <;> omega
theorem i_rng (x : Int32) : -2147483648 ≤ x.toInt ∧ x.toInt ≤ 2147483647 := by
  have h1 := Int32.le_toInt x
  have h2 := Int32.toInt_lt x
  constructor <;> omega
theorem i_lt {x y : Int32} : x < y ↔ x.toInt < y.toInt := Int32.lt_iff_toInt_lt
theorem i_le {x y : Int32} : x ≤ y ↔ x.toInt ≤ y.toInt := Int32.le_iff_toInt_le
theorem sI_at (z : St) (k j : Nat) (v : Int32) : (sI z k v).1 j = if j = k then v else z.1 j := rfl
theorem sI_same (z : St) (k : Nat) : sI z k (z.1 k) = z := by
  have e : va_up z.1 k (z.1 k) = z.1 := by
    funext j
    unfold va_up
    by_cases h : j = k
    · rw [if_pos h, h]
    · rw [if_neg h]
  unfold sI
  rw [e]
/-- days: today in the class (field 0) and in the reference (field 21), alike and from 0 to 999 -/
theorem p_days (z w : St) (x : Int32) (h1 : w.1 21 = z.1 0) (h2 : 0 ≤ (z.1 0).toInt) (h3 : (z.1 0).toInt ≤ 999) : ∃ r t, f_X11_days z x = some (r, sI z 0 t) ∧ f_X12_days w x = some (r, sI (sI w 0 0) 21 t) ∧ 0 ≤ t.toInt ∧ t.toInt ≤ 999 := by
  have hx := i_rng x
  have e999 : ((999 : Int32)).toInt = 999 := by decide
  have e0 : ((0 : Int32)).toInt = 0 := by decide
  have hs : ((999 : Int32) - z.1 0).toInt = 999 - (z.1 0).toInt := by rw [i_sub (by omega) (by omega), e999]
  have hw : (sI w 0 0).1 21 = z.1 0 := h1
  unfold f_X11_days f_X12_days F_X11_days_0 F_X12_days_0 F_X11_days_16 F_X12_days_28 oL
  dsimp only
  by_cases a : x < 0
  · refine ⟨-1, z.1 0, ?_, ?_, h2, h3⟩
    · rw [if_pos a, sI_same]
    · rw [if_pos a]
      have : sI (sI w 0 0) 21 (z.1 0) = sI w 0 0 := by rw [← hw, sI_same]
      rw [this]
  · have a' : 0 ≤ x.toInt := by
      have : ¬ x.toInt < 0 := fun q => a (i_lt.mpr (by rw [e0]; exact q))
      omega
    by_cases b : x ≤ (999 : Int32) - z.1 0
    · have b' : x.toInt ≤ 999 - (z.1 0).toInt := by have := i_le.mp b; rw [hs] at this; exact this
      have ht : (z.1 0 + x).toInt = (z.1 0).toInt + x.toInt := i_add (by omega) (by omega)
      have c1 : ¬ (999 : Int32) < x := fun q => by have := i_lt.mp q; rw [e999] at this; omega
      have c2 : z.1 0 + x ≤ (999 : Int32) := i_le.mpr (by rw [ht, e999]; omega)
      refine ⟨z.1 0 + x, z.1 0 + x, ?_, ?_, by rw [ht]; omega, by rw [ht]; omega⟩
      · rw [if_neg a, if_pos b]; rfl
      · rw [if_neg a, if_neg c1]
        simp only [hw]
        rw [if_pos c2]; rfl
    · have b' : ¬ x.toInt ≤ 999 - (z.1 0).toInt := fun q => b (i_le.mpr (by rw [hs]; exact q))
      refine ⟨-1, z.1 0, ?_, ?_, h2, h3⟩
      · rw [if_neg a, if_neg b, sI_same]
      · rw [if_neg a]
        have e : sI (sI w 0 0) 21 (z.1 0) = sI w 0 0 := by rw [← hw, sI_same]
        rw [e]
        by_cases c1 : (999 : Int32) < x
        · rw [if_pos c1]
        · have c1' : ¬ 999 < x.toInt := fun q => c1 (i_lt.mpr (by rw [e999]; exact q))
          have ht : (z.1 0 + x).toInt = (z.1 0).toInt + x.toInt := i_add (by omega) (by omega)
          have c2 : ¬ z.1 0 + x ≤ (999 : Int32) := fun q => by have := i_le.mp q; rw [ht, e999] at this; omega
          rw [if_neg c1]
          simp only [hw]
          rw [if_neg c2]
