/-! PURE: canals -/
theorem i_mul {x y : Int32} (h1 : -2147483648 ≤ x.toInt * y.toInt) (h2 : x.toInt * y.toInt ≤ 2147483647) : (x * y).toInt = x.toInt * y.toInt := by
  rw [Int32.toInt_mul, Int.bmod_def]
  split <;> omega
/-- the class's state with a canal more -/
def digC (z : St) (x : Int32) : St :=
  let n := (z.1 25).toNatClampNeg
  sI (sI (sA (sA z 9 (upd (z.2.1 9) n x)) 10 (upd (z.2.1 10) n 0)) 24 (z.1 24 ||| ((1 : Int32) <<< (x &&& 31)))) 25 (z.1 25 + 1)
/-- the reference's state with a canal more -/
def digR (w : St) (x : Int32) : St :=
  sI (sA (sA w 11 (upd (w.2.1 11) ((6 : Int32) * w.1 24).toNatClampNeg x)) 12 (upd (w.2.1 12) (w.1 24).toNatClampNeg 0)) 24 (w.1 24 + 1)
/-- canal: refused alike, or a canal more on both sides -/
theorem p_canal (z w : St) (x : Int32) (hs : w.1 22 * w.1 23 = z.1 21) (hn : w.1 24 = z.1 25) (h0 : 0 ≤ (z.1 25).toInt) (h1 : (z.1 25).toInt ≤ 6) : (f_X11_canal z x = some (-1, z) ∧ f_X12_canal w x = some (-1, sI w 0 0)) ∨
    ((z.1 25).toInt ≤ 5 ∧ ¬ x < 0 ∧ ¬ z.1 21 ≤ x ∧ f_X11_canal z x = some (z.1 25 + 1 - 1, digC z x) ∧ f_X12_canal w x = some (z.1 25 + 1 - 1, digR (sI w 0 0) x)) := by
  have e6 : ((6 : Int32)).toInt = 6 := by decide
  have n1 : ¬ (1 : Int32) = 0 := by decide
  have k1 : (sI w 0 0).1 24 = z.1 25 := hn
  have k2 : (sI w 0 0).1 22 * (sI w 0 0).1 23 = z.1 21 := hs
  unfold f_X11_canal f_X12_canal F_X11_canal_0 F_X12_canal_0 F_X11_canal_23 F_X12_canal_22
  simp only [oL_eq, p_has4, p_isVillage, oC_some, k1, k2]
  by_cases a : x < 0 ∨ z.1 21 ≤ x
  · left; rw [if_pos a, if_pos rfl, if_pos rfl]; exact ⟨rfl, rfl⟩
  rw [if_neg a, if_neg n1, if_neg n1]
  unfold f_X4_dig F_X4_dig_0
  by_cases c : z.1 25 < (6 : Int32)
  · right
    have c' := i_lt.mp c
    rw [e6] at c'
    have d : ¬ z.1 25 = (6 : Int32) := fun q => by rw [q, e6] at c'; omega
    have hin : vp_in (z.1 25) 6 := vp_inI h0 (by omega)
    have hm : ((6 : Int32) * z.1 25).toInt = 6 * (z.1 25).toInt := by rw [i_mul (by rw [e6]; omega) (by rw [e6]; omega), e6]
    have hin2 : vp_in ((6 : Int32) * z.1 25) 36 := vp_inI (by rw [hm]; omega) (by rw [hm]; omega)
    refine ⟨by omega, fun q => a (Or.inl q), fun q => a (Or.inr q), ?_, ?_⟩
    · rw [if_pos c]
      simp only [oL_eq, sA_1, oA_in _ hin]
      rfl
    · rw [if_neg d, oA_in _ hin2]
      simp only [sA_1, k1, oA_in _ hin]
      unfold digR
      simp only [k1]
      have k3 : ∀ (g h : Nat → Int32) (v : Int32), (sI (sA (sA (sI w 0 0) 11 g) 12 h) 24 v).1 24 = v := fun _ _ _ => rfl
      rw [k3]
      rfl
  · left
    have d : z.1 25 = (6 : Int32) := Int32.toInt_inj.mp (by
      have : ¬ (z.1 25).toInt < 6 := fun q => c (i_lt.mpr (by rw [e6]; exact q))
      rw [e6]; omega)
    rw [if_neg c, if_pos d]
    exact ⟨rfl, rfl⟩
