/-! PURE: how the combinators compute; small methods -/
theorem oC_some {α R : Type} (y : α) (k : α → Option R) : oC (some y) k = k y := rfl
theorem oL_eq {α R : Type} (x : α) (k : α → Option R) : oL x k = k x := rfl
theorem oZ_0 {R : Type} (k : Option R) : oZ 0 k = k := if_pos (Or.inl rfl)
theorem oZ_1 {R : Type} (k : Option R) : oZ 1 k = k := if_pos (Or.inr rfl)
theorem oA_in {R : Type} {i : Int32} {n : Nat} (k : Option R) (h : vp_in i n) : oA i n k = k := if_neg h
theorem i_clamp {i : Int32} (h : 0 ≤ i.toInt) : (i.toNatClampNeg : Int) = i.toInt := Int.toNat_of_nonneg h
theorem vp_inI {i : Int32} {n : Nat} (h0 : 0 ≤ i.toInt) (h1 : i.toInt < n) : vp_in i n := by
  intro q
  rcases q with q | q
  · have := i_lt.mp q
    have e0 : ((0 : Int32)).toInt = 0 := by decide
    omega
  · have := i_clamp h0
    omega
/-- isHand: 0 to 3 -/
theorem p_isHand (z : St) (a : Int32) : f_X11_isHand z a = some (if a < 0 ∨ (4 : Int32) ≤ a then 0 else 1, z) := by
  unfold f_X11_isHand F_X11_isHand_0 F_X11_isHand_13 F_X11_isHand_14
  by_cases h1 : a < 0
  · rw [if_pos h1, if_pos (Or.inl h1), oC_some]; exact oZ_0 _
  · by_cases h2 : (4 : Int32) ≤ a
    · rw [if_neg h1, if_pos h2, if_pos (Or.inr h2), oC_some]; exact oZ_0 _
    · rw [if_neg h1, if_neg h2, if_neg (fun q => q.elim h1 h2), oC_some]; exact oZ_1 _
/-- errs: refused alike, or the hand's error (array 18, array 10 of the reference) is set alike -/
theorem p_errs (z w : St) (a b : Int32) : (f_X11_errs z a b = some (0, z) ∧ f_X12_errs w a b = some (0, sI w 0 0)) ∨ (0 ≤ a.toInt ∧ a.toInt ≤ 3 ∧ 0 ≤ b.toInt ∧ b.toInt ≤ 50 ∧ f_X11_errs z a b = some (1, sA z 18 (upd (z.2.1 18) a.toNatClampNeg b)) ∧ f_X12_errs w a b = some (1, sA (sI w 0 0) 10 (upd (w.2.1 10) a.toNatClampNeg b))) := by
  unfold f_X11_errs f_X12_errs F_X11_errs_0 F_X12_errs_0 F_X11_errs_17 F_X12_errs_24
  simp only [oL_eq, p_isHand, oC_some]
  by_cases h1 : a < 0
  · left
    refine ⟨?_, ?_⟩
    · rw [if_pos (Or.inl h1), if_pos rfl, oC_some]; exact oZ_0 _
    · rw [if_pos h1, oC_some]; exact oZ_0 _
  · by_cases h2 : (4 : Int32) ≤ a
    · left
      refine ⟨?_, ?_⟩
      · rw [if_pos (Or.inr h2), if_pos rfl, oC_some]; exact oZ_0 _
      · rw [if_neg h1, if_pos h2, oC_some]; exact oZ_0 _
    · rw [if_neg (fun q => Or.elim q h1 h2), if_neg (by decide), if_neg h1, if_neg h2]
      by_cases h3 : b < 0
      · left
        rw [if_pos h3, if_pos h3, oC_some, oC_some]; exact ⟨oZ_0 _, oZ_0 _⟩
      · rw [if_neg h3, if_neg h3]
        by_cases h4 : b ≤ (50 : Int32)
        · right
          have e0 : ((0 : Int32)).toInt = 0 := by decide
          have e4 : ((4 : Int32)).toInt = 4 := by decide
          have e5 : ((50 : Int32)).toInt = 50 := by decide
          have a0 : ¬ a.toInt < 0 := fun q => h1 (i_lt.mpr (by rw [e0]; exact q))
          have a4 : ¬ 4 ≤ a.toInt := fun q => h2 (i_le.mpr (by rw [e4]; exact q))
          have b0 : ¬ b.toInt < 0 := fun q => h3 (i_lt.mpr (by rw [e0]; exact q))
          have b5 := i_le.mp h4
          rw [e5] at b5
          have hin : vp_in a 4 := vp_inI (by omega) (by omega)
          rw [if_pos h4, if_pos h4, oA_in _ hin, oA_in _ hin, oC_some, oC_some]
          exact ⟨by omega, by omega, by omega, b5, oZ_1 _, oZ_1 _⟩
        · left
          rw [if_neg h4, if_neg h4, oC_some, oC_some]; exact ⟨oZ_0 _, oZ_0 _⟩
