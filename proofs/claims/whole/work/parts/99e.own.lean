/-! PURE: best: what a village costs by itself -/
/-- what v costs by itself when its own side's people s are on the wrong side -/
def ownN (w : St) (P : Nat → Nat → Nat) (f0 v s : Nat) : Nat := P v s + f0 * b1 (decide (w.2.1 8 v = nI s))
theorem p_ownCost {z w : St} {n f0 : Nat} {P : Nat → Nat → Nat} (hn : n ≤ 25) (hV : ivVil z w n) (hp : plC z P n) (e34 : z.1 34 = nI f0) {v s : Nat} (hv : v < n) (hs : s < 2) : f_X10_ownCost z (nI v) (nI s) = some (nI (ownN w P f0 v s), z) := by
  have i1 : vp_in (nI s) 2 := vp_in_nI hs (by omega)
  have rr := k_plrow s hs
  have i2 : vp_in (nI v) (lnC (26 + s)) := by rw [rr.2]; exact vp_in_nI (by omega) (by omega)
  have sh := hV.2.2.1 s hs v
  have sh' : bt (z.2.1 8 s) v = decide (w.2.1 8 v = nI s) := by
    rw [sh]
    by_cases c : w.2.1 8 v = nI s
    · rw [decide_eq_true c, decide_eq_true ⟨hv, c⟩]
    · rw [decide_eq_false c, decide_eq_false (fun q => c q.2)]
  unfold f_X10_ownCost F_X10_ownCost_0
  simp only [oL_s, oA_in _ i1, nI_clamp (show s < 2 ^ 31 by omega), nI_clamp (show v < 2 ^ 31 by omega)]
  rw [oX_in _ (by omega) rr.1 i2, b_testN _ (by omega), sh', hp s hs v hv, e34, mulN, nI_add]
  rfl
theorem own_bd {w : St} {P : Nat → Nat → Nat} {f0 v s : Nat} (hf : f0 ≤ 999) (hP : P v s ≤ 1249) : ownN w P f0 v s ≤ 2248 := by
  have e := b1_le (decide (w.2.1 8 v = nI s))
  have m : f0 * b1 (decide (w.2.1 8 v = nI s)) ≤ 999 * 1 := Nat.mul_le_mul hf e
  unfold ownN
  omega
