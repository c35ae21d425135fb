/-! PURE: best: parted, when nothing is open -/
theorem clr_self (A : Int32) : A &&& (A ^^^ (-1 : Int32)) = 0 := by
  apply b_ext
  intro i hi
  rw [b_and, b_xor, b_0, b_m1 i hi]
  cases bt A i <;> rfl
theorem pt_0 (W n : Nat) (x : Int32) : ptF W n x 0 25 x = decide (1 < pcs W n x) := by
  unfold pcs pcsF ptF
  by_cases c0 : x = 0
  · rw [if_pos c0, if_pos c0]; rfl
  rw [if_neg c0, if_neg c0]
  by_cases c1 : clo W n x (x &&& (-x)) = x
  · rw [if_pos c1, c1, clr_self]
    unfold ptF pcsF
    rw [if_pos rfl, if_pos rfl]; rfl
  · have a0 : arnd W n (clo W n x (x &&& (-x))) &&& (0 : Int32) = 0 := by
      apply b_ext
      intro i _
      rw [b_and, b_0, Bool.and_false]
    rw [if_neg c1, if_pos a0]
    have hL : x &&& (clo W n x (x &&& (-x)) ^^^ (-1 : Int32)) ≠ 0 := by
      intro e
      apply c1
      apply b_ext
      intro i hi
      have inn := clo_in W n x i
      have q : bt (x &&& (clo W n x (x &&& (-x)) ^^^ (-1 : Int32))) i = false := by rw [e, b_0]
      rw [b_and, b_xor, b_m1 i hi] at q
      cases h1 : bt (clo W n x (x &&& (-x))) i
      · rw [h1] at q
        cases h2 : bt x i
        · rfl
        · rw [h2] at q; cases q
      · exact (inn h1).symm
    have g1 : 1 ≤ pcsF W n 24 (x &&& (clo W n x (x &&& (-x)) ^^^ (-1 : Int32))) := by
      unfold pcsF
      rw [if_neg hL]
      omega
    exact (decide_eq_true (by omega)).symm
