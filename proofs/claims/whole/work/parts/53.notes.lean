/-! PURE: a note is added -/
theorem sA_1 (z : St) (k : Nat) (g : Nat → Int32) : (sA z k g).1 = z.1 := rfl
theorem sI_2 (z : St) (k : Nat) (v : Int32) : (sI z k v).2 = z.2 := rfl
theorem sA_ne (z : St) (k j : Nat) (g : Nat → Int32) (h : j ≠ k) : (sA z k g).2.1 j = z.2.1 j := if_neg h
theorem sA_eq (z : St) (k : Nat) (g : Nat → Int32) : (sA z k g).2.1 k = g := if_pos rfl
theorem sI_eq (z : St) (k : Nat) (v : Int32) : (sI z k v).1 k = v := if_pos rfl
theorem sI_ne (z : St) (k j : Nat) (v : Int32) (h : j ≠ k) : (sI z k v).1 j = z.1 j := if_neg h
/-- the class's state with a note more -/
def addC (z : St) (k a b c d t : Int32) : St :=
  let n := (z.1 29).toNatClampNeg
  sI (sA (sA (sA (sA (sA (sA z 11 (upd (z.2.1 11) n k)) 12 (upd (z.2.1 12) n a)) 13 (upd (z.2.1 13) n b)) 14 (upd (z.2.1 14) n c)) 15 (upd (z.2.1 15) n d)) 16 (upd (z.2.1 16) n t)) 29 (z.1 29 + 1)
/-- the reference's state with a note more -/
def addR (w : St) (k a b c d : Int32) : St :=
  let n := (w.1 27).toNatClampNeg
  sI (sA (sA (sA (sA (sA (sA w 16 (upd (w.2.1 16) n k)) 17 (upd (w.2.1 17) n (w.1 21))) 18 (upd (w.2.1 18) n a)) 19 (upd (w.2.1 19) n b)) 20 (upd (w.2.1 20) n c)) 21 (upd (w.2.1 21) n d)) 27 (w.1 27 + 1)
theorem p_add (z : St) (k a b c d t : Int32) (h0 : 0 ≤ (z.1 29).toInt) (h1 : (z.1 29).toInt ≤ 79) : f_X5_add z k a b c d t = some (z.1 29 + 1 - 1, addC z k a b c d t) := by
  have e80 : ((80 : Int32)).toInt = 80 := by decide
  have q : z.1 29 < (80 : Int32) := i_lt.mpr (by rw [e80]; omega)
  have hin : vp_in (z.1 29) 80 := vp_inI h0 (by omega)
  unfold f_X5_add F_X5_add_0
  rw [if_pos q]
  simp only [oL_eq, sA_1, oA_in _ hin]
  rfl
theorem p_addFull (z : St) (k a b c d t : Int32) (h1 : z.1 29 = 80) : f_X5_add z k a b c d t = some (-1, z) := by
  unfold f_X5_add F_X5_add_0
  rw [h1, if_neg (by decide)]
theorem p_noted (w : St) (k a b c d : Int32) (h0 : 0 ≤ (w.1 27).toInt) (h1 : (w.1 27).toInt ≤ 79) : f_X12_noted w k a b c d = some (w.1 27 + 1 - 1, addR w k a b c d) := by
  have hin : vp_in (w.1 27) 80 := vp_inI h0 (by omega)
  unfold f_X12_noted F_X12_noted_0
  simp only [oL_eq, sA_1, oA_in _ hin]
  rfl
/-- Notes.has -/
theorem p_has (z : St) (x : Int32) : f_X5_has z x = some (if x < 0 ∨ z.1 29 ≤ x then 0 else 1, z) := by
  unfold f_X5_has F_X5_has_0 F_X5_has_16 F_X5_has_17
  by_cases a : x < 0
  · rw [if_pos a, if_pos (Or.inl a), oC_some]; exact oZ_0 _
  · by_cases b : z.1 29 ≤ x
    · rw [if_neg a, if_pos b, if_pos (Or.inr b), oC_some]; exact oZ_0 _
    · rw [if_neg a, if_neg b, if_neg (fun q => Or.elim q a b), oC_some]; exact oZ_1 _
/-- strike: refused alike, or a note more on both sides -/
theorem p_strike (z w : St) (x : Int32) (hn : w.1 27 = z.1 29) (h0 : 0 ≤ (z.1 29).toInt) (h1 : (z.1 29).toInt ≤ 80) : (f_X11_strike z x = some (-1, z) ∧ f_X12_strike w x = some (-1, sI w 0 0)) ∨
    ((z.1 29).toInt ≤ 79 ∧ 0 ≤ x.toInt ∧ x.toInt < (z.1 29).toInt ∧ f_X11_strike z x = some (z.1 29 + 1 - 1, addC z 4 x 0 0 0 (z.1 0)) ∧ f_X12_strike w x = some (z.1 29 + 1 - 1, addR (sI w 0 0) 4 x 0 0 0)) := by
  have e80 : ((80 : Int32)).toInt = 80 := by decide
  have e0 : ((0 : Int32)).toInt = 0 := by decide
  have k1 : (sI w 0 0).1 27 = z.1 29 := hn
  unfold f_X11_strike f_X12_strike F_X11_strike_0 F_X12_strike_0 F_X12_strike_26
  simp only [oL_eq, p_has, oC_some, k1]
  by_cases a : x < 0
  · left
    rw [if_pos (Or.inl a), if_pos rfl, if_pos a]
    exact ⟨rfl, rfl⟩
  · by_cases b : z.1 29 ≤ x
    · left
      rw [if_pos (Or.inr b), if_pos rfl, if_neg a, if_pos b]
      exact ⟨rfl, rfl⟩
    · rw [if_neg (fun q => Or.elim q a b), if_neg (by decide), if_neg a, if_neg b]
      by_cases c : z.1 29 = (80 : Int32)
      · left
        rw [if_pos c, p_addFull z _ _ _ _ _ _ c]
        exact ⟨rfl, rfl⟩
      · right
        have c' : (z.1 29).toInt ≤ 79 := by
          have : (z.1 29).toInt ≠ 80 := fun q => c (Int32.toInt_inj.mp (by rw [q, e80]))
          omega
        have a' : ¬ x.toInt < 0 := fun q => a (i_lt.mpr (by rw [e0]; exact q))
        have b' : ¬ (z.1 29).toInt ≤ x.toInt := fun q => b (i_le.mpr q)
        rw [if_neg c, p_add z _ _ _ _ _ _ h0 c', p_noted (sI w 0 0) _ _ _ _ _ (by rw [k1]; exact h0) (by rw [k1]; exact c')]
        exact ⟨c', by omega, by omega, rfl, by show some ((sI w 0 0).1 27 + 1 - 1, _) = _; rw [k1]⟩
