/-! PURE: lines and drafts -/
theorem p_cells (w : St) : f_X12_cells w = some (w.1 22 * w.1 23, w) := rfl
/-- isLine: alike where 'all' is one less than 1 << cells -/
theorem p_isLine (z w : St) (x p : Int32) (hp : (1 : Int32) <<< ((w.1 22 * w.1 23) &&& 31) = p) (h1 : 1 ≤ p.toInt) (hz : z.1 22 = p - 1) : ∃ v : Int32, (v = 0 ∨ v = 1) ∧ f_X4_isLine z x = some (v, z) ∧ f_X12_isLine w x = some (v, w) := by
  have e1 : ((1 : Int32)).toInt = 1 := by decide
  have hr := i_rng p
  have hs : (z.1 22).toInt = p.toInt - 1 := by rw [hz, i_sub (by omega) (by omega), e1]
  unfold f_X4_isLine f_X12_isLine F_X4_isLine_0 F_X12_isLine_0 F_X4_isLine_16 F_X4_isLine_17 F_X12_isLine_18 F_X12_isLine_19
  simp only [oL_eq, p_cells, oC_some, hp]
  by_cases a : x < 0
  · refine ⟨0, Or.inl rfl, ?_, ?_⟩
    · rw [if_pos a, oC_some]; exact oZ_0 _
    · rw [if_pos a, oC_some]; exact oZ_0 _
  · by_cases b : p ≤ x
    · have c : z.1 22 < x := i_lt.mpr (by have := i_le.mp b; omega)
      refine ⟨0, Or.inl rfl, ?_, ?_⟩
      · rw [if_neg a, if_pos c, oC_some]; exact oZ_0 _
      · rw [if_neg a, if_pos b, oC_some]; exact oZ_0 _
    · have c : ¬ z.1 22 < x := fun q => b (i_le.mpr (by have := i_lt.mp q; omega))
      refine ⟨1, Or.inr rfl, ?_, ?_⟩
      · rw [if_neg a, if_neg c, oC_some]; exact oZ_1 _
      · rw [if_neg a, if_neg b, oC_some]; exact oZ_1 _
/-- draft: refused alike, or line and day are put at the same place -/
theorem p_draft (z w : St) (x p : Int32) (hp : (1 : Int32) <<< ((w.1 22 * w.1 23) &&& 31) = p) (h1 : 1 ≤ p.toInt) (hz : z.1 22 = p - 1) (hd : w.1 25 = z.1 30) (d0 : 0 ≤ (z.1 30).toInt) (d1 : (z.1 30).toInt ≤ 12) (ht : w.1 21 = z.1 0) :
    (f_X11_draft z x = some (-1, z) ∧ f_X12_draft w x = some (-1, sI w 0 0)) ∨
    ((z.1 30).toInt ≤ 11 ∧ ∃ r : Int32, f_X11_draft z x = some (r, sI (sA (sA z 28 (upd (z.2.1 28) (z.1 30).toNatClampNeg x)) 29 (upd (z.2.1 29) (z.1 30).toNatClampNeg (z.1 0))) 30 (z.1 30 + 1)) ∧ f_X12_draft w x = some (r, sI (sA (sA (sI w 0 0) 13 (upd (w.2.1 13) (z.1 30).toNatClampNeg x)) 14 (upd (w.2.1 14) (z.1 30).toNatClampNeg (z.1 0))) 25 (z.1 30 + 1))) := by
  obtain ⟨v, hv, g1, g2⟩ := p_isLine z (sI w 0 0) x p hp h1 hz
  have e12 : ((12 : Int32)).toInt = 12 := by decide
  have k1 : (sI w 0 0).1 25 = z.1 30 := hd
  have k2 : (sI w 0 0).1 21 = z.1 0 := ht
  unfold f_X11_draft f_X12_draft F_X11_draft_0 F_X12_draft_0 F_X11_draft_27 F_X12_draft_22
  simp only [oL_eq, g1, g2, oC_some]
  rcases hv with rfl | rfl
  · left
    exact ⟨rfl, rfl⟩
  · rw [if_neg (by decide), if_neg (by decide)]
    simp only [k1]
    unfold f_X1_add F_X1_add_0
    by_cases a : z.1 30 < (12 : Int32)
    · right
      have a' := i_lt.mp a
      rw [e12] at a'
      have b : ¬ z.1 30 = (12 : Int32) := fun q => by rw [q, e12] at a'; omega
      have hin : vp_in (z.1 30) 12 := vp_inI d0 (by omega)
      refine ⟨by omega, z.1 30 + 1 - 1, ?_, ?_⟩
      · rw [if_pos a, oA_in _ hin]
        simp only [oL_eq]
        rw [oA_in _ (show vp_in ((sA z 28 (upd (z.2.1 28) (z.1 30).toNatClampNeg x)).1 30) 12 from hin)]
        rfl
      · rw [if_neg b, oA_in _ hin, oA_in _ (show vp_in ((sA (sI w 0 0) 13 (upd ((sI w 0 0).2.1 13) (z.1 30).toNatClampNeg x)).1 25) 12 from by show vp_in ((sI w 0 0).1 25) 12; rw [k1]; exact hin)]
        have k3 : (sA (sI w 0 0) 13 (upd ((sI w 0 0).2.1 13) (z.1 30).toNatClampNeg x)).1 25 = z.1 30 := hd
        have k4 : (sA (sI w 0 0) 13 (upd ((sI w 0 0).2.1 13) (z.1 30).toNatClampNeg x)).1 21 = z.1 0 := ht
        simp only [k3, k4]
        have k5 : (sA (sA (sI w 0 0) 13 (upd ((sI w 0 0).2.1 13) (z.1 30).toNatClampNeg x)) 14 (upd ((sA (sI w 0 0) 13 (upd ((sI w 0 0).2.1 13) (z.1 30).toNatClampNeg x)).2.1 14) (z.1 30).toNatClampNeg (z.1 0))).1 25 = z.1 30 := hd
        simp only [k5]
        rfl
    · left
      have b : z.1 30 = (12 : Int32) := Int32.toInt_inj.mp (by
        have : ¬ (z.1 30).toInt < 12 := fun q => a (i_lt.mpr (by rw [e12]; exact q))
        rw [e12]; omega)
      rw [if_neg a, if_pos b]
      exact ⟨rfl, rfl⟩
