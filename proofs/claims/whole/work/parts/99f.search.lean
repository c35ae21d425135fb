/-! PURE: best: the least that open villages cost; how the search begins -/
def mnN (w : St) (P : Nat → Nat → Nat) (f0 u : Nat) : Nat := min (ownN w P f0 u 0) (ownN w P f0 u 1)
/-- the state as the search begins -/
def srS (z : St) (f0 f1 f2 : Nat) (r : Nat → Int32) : St := sI (sI (sA (sI (sI (sI z 34 (nI f0)) 35 (nI f1)) 36 (nI f2)) 31 r) 32 0) 33 1000000000
theorem p_search {z w : St} {n f0 f1 f2 : Nat} {P : Nat → Nat → Nat} (hn : n ≤ 16) (h1n : 1 ≤ n) (e21 : z.1 21 = nI n) (hV : ivVil z w n) (hp : plC z P n) (hP : ∀ v s, s < 2 → P v s ≤ 1249) (hf0 : f0 ≤ 999) (g0 : z.2.1 1 0 = nI f0) (g1 : z.2.1 1 1 = nI f1) (g2 : z.2.1 1 2 = nI f2) : ∃ r : Nat → Int32, (∀ u, u ≤ n → r u = nI (fb_sm (mnN w P f0) u)) ∧ f_X10_search z = oC (f_X10_choose 18 (srS z f0 f1 f2 r) (nI (n - 1)) 0 0) fun w5 => some w5 := by
  have i0 : vp_in (0 : Int32) 17 := by unfold vp_in; decide
  have c0 : Int32.toNatClampNeg (0 : Int32) = 0 := by decide
  unfold f_X10_search F_X10_search_0
  rw [p_heed, g0, g1, g2]
  simp only [oC_s, oL_s, oA_in _ i0, c0]
  have hz : ∀ r, ivVil (sA (sI (sI (sI z 34 (nI f0)) 35 (nI f1)) 36 (nI f2)) 31 r) w n := fun r => hV
  have hp' : ∀ r, plC (sA (sI (sI (sI z 34 (nI f0)) 35 (nI f1)) 36 (nI f2)) 31 r) P n := fun r s hs v hv => by
    rw [sA_ne _ 31 _ _ (by omega)]; exact hp s hs v hv
  have e34 : ∀ r, (sA (sI (sI (sI z 34 (nI f0)) 35 (nI f1)) 36 (nI f2)) 31 r).1 34 = nI f0 := fun r => rfl
  have e21' : ∀ r, (sA (sI (sI (sI z 34 (nI f0)) 35 (nI f1)) 36 (nI f2)) 31 r).1 21 = nI n := fun r => e21
  have e21s : ∀ r, (srS z f0 f1 f2 r).1 21 = nI n := fun r => e21
  have key := loop_i (fun k i (r : Nat → Int32) => ∃ r' : Nat → Int32, (∀ u, u ≤ n → r' u = nI (fb_sm (mnN w P f0) u)) ∧ F_X10_search_14 k (sA (sI (sI (sI z 34 (nI f0)) 35 (nI f1)) 36 (nI f2)) 31 r) (nI i) = oC (f_X10_choose 18 (srS z f0 f1 f2 r') (nI (n - 1)) 0 0) fun w5 => some w5) (fun i r => ∀ u, u ≤ i → r u = nI (fb_sm (mnN w P f0) u)) n ?_ ?_ 100000 0 (upd ((sI (sI (sI z 34 (nI f0)) 35 (nI f1)) 36 (nI f2)).2.1 31) 0 0) (Nat.zero_le _) (by omega) (fun u hu => by rw [show u = 0 by omega]; rfl)
  · exact key
  · intro k r hr
    refine ⟨r, hr, ?_⟩
    show F_X10_search_14_b _ _ (nI n) = _
    unfold F_X10_search_14_b F_X10_search_67
    rw [e21' r, if_pos (Int32.le_refl _)]
    simp only [oL_s]
    have e : (sI (sI (sA (sI (sI (sI z 34 (nI f0)) 35 (nI f1)) 36 (nI f2)) 31 r) 32 0) 33 1000000000).1 21 - (1 : Int32) = nI (n - 1) := by
      rw [show (sI (sI (sA (sI (sI (sI z 34 (nI f0)) 35 (nI f1)) 36 (nI f2)) 31 r) 32 0) 33 1000000000).1 21 = nI n from e21]
      exact nI_sub (b := 1) h1n
    rw [e]
    rfl
  · intro k i r hi hr K
    show ∃ r', _ ∧ F_X10_search_14_b (F_X10_search_14 k) _ (nI i) = _
    have q16 : ¬ (16 : Int32) ≤ nI i := nI_ge (b := 16) (by omega) (by omega)
    have j1 : vp_in (nI i) 17 := vp_in_nI (by omega) (by omega)
    have j2 : vp_in (nI (i + 1)) 17 := vp_in_nI (by omega) (by omega)
    have o0 := p_ownCost (by omega) (hz r) (hp' r) (e34 r) hi (s := 0) (by omega)
    have o1 := p_ownCost (by omega) (hz r) (hp' r) (e34 r) hi (s := 1) (by omega)
    have b0 := own_bd (w := w) (v := i) hf0 (hP i 0 (by omega))
    have b1' := own_bd (w := w) (v := i) hf0 (hP i 1 (by omega))
    unfold F_X10_search_14_b
    rw [e21' r, if_neg (nI_ge hi (by omega)), if_neg q16, oA_in _ j1]
    have o0' : f_X10_ownCost (sA (sI (sI (sI z 34 (nI f0)) 35 (nI f1)) 36 (nI f2)) 31 r) (nI i) 0 = _ := o0
    have o1' : f_X10_ownCost (sA (sI (sI (sI z 34 (nI f0)) 35 (nI f1)) 36 (nI f2)) 31 r) (nI i) 1 = _ := o1
    rw [o0']
    simp only [oC_s, oL_s]
    rw [o1']
    simp only [oC_s, oL_s, nI_1, oA_in _ j2, nI_clamp (show i < 2 ^ 31 by omega), nI_clamp (show i + 1 < 2 ^ 31 by omega), sA_eq, sA_sA, hr i (Nat.le_refl _)]
    rw [jminN (by omega) (by omega), nI_add]
    refine K _ (fun u hu => ?_)
    rw [upd_i]
    by_cases e : u = i + 1
    · rw [if_pos e, e]; rfl
    · rw [if_neg e]; exact hr u (by omega)
