/-! PURE: best: the whole land is in one piece -/
theorem bt_allN {n : Nat} (hn : n ≤ 25) (i : Nat) : bt (nI (2 ^ n - 1)) i = decide (i < n) := by
  rcases Nat.lt_or_ge i 32 with q | q
  · rw [bt_nI q, Nat.testBit_two_pow_sub_one]
  · rw [b_big q, decide_eq_false (by omega)]
theorem clo_all {W H : Nat} (hg : 2 ≤ W ∧ W ≤ 5 ∧ 2 ≤ H ∧ H ≤ 5) : clo W (W * H) (nI (2 ^ (W * H) - 1)) (nI (2 ^ (W * H) - 1) &&& (-(nI (2 ^ (W * H) - 1)))) = nI (2 ^ (W * H) - 1) := by
  have hs := sz25 hg
  have bA := bt_allN hs.2
  have inn := clo_in W (W * H) (nI (2 ^ (W * H) - 1))
  have lowb : bl (nI (2 ^ (W * H) - 1) &&& (-(nI (2 ^ (W * H) - 1)))) (W * H) := fun i hi => by rw [b_and, bA i, decide_eq_false (by omega)]; rfl
  have st := clo_st hg (S := nI (2 ^ (W * H) - 1)) lowb
  have z0 : bt (nI (2 ^ (W * H) - 1) &&& (-(nI (2 ^ (W * H) - 1)))) 0 = true := (bt_low _ (by omega)).mpr ⟨by rw [bA 0, decide_eq_true (by omega)], fun j hj => absurd hj (Nat.not_lt_zero j)⟩
  have c0 : bt (clo W (W * H) (nI (2 ^ (W * H) - 1)) (nI (2 ^ (W * H) - 1) &&& (-(nI (2 ^ (W * H) - 1))))) 0 = true := itg_sup W (W * H) _ 25 _ 0 z0
  generalize clo W (W * H) (nI (2 ^ (W * H) - 1)) (nI (2 ^ (W * H) - 1) &&& (-(nI (2 ^ (W * H) - 1)))) = C at *
  have all : ∀ d v, v < W * H → farN W v 0 = d → bt C v = true := by
    intro d
    induction d with
    | zero =>
      intro v hv hd
      have := (k_far W (by omega) hg.1 H (by omega) 0 (by omega) v hv).2 hd
      rw [this]; exact c0
    | succ d ih =>
      intro v hv hd
      have hne : v ≠ 0 := by
        intro e
        rw [e] at hd
        unfold farN at hd
        omega
      obtain ⟨a1, a2, a3⟩ := k_way W (by omega) hg.1 H (by omega) 0 (by omega) v hv hne
      have iu := ih (wayN W v 0) a1 (by omega)
      rw [← st]
      unfold grow
      rw [b_or, b_and, (bt_arnd hg v).mpr ⟨wayN W v 0, a1, iu, a2⟩, bA v, decide_eq_true hv]
      cases bt C v <;> rfl
  apply b_ext
  intro i _
  rw [bA i]
  by_cases c : i < W * H
  · rw [decide_eq_true c]; exact all _ i c rfl
  · rw [decide_eq_false c]
    cases hb : bt C i with
    | false => rfl
    | true =>
      have := inn i hb
      rw [bA i, decide_eq_false c] at this
      cases this
theorem pcs_all {W H : Nat} (hg : 2 ≤ W ∧ W ≤ 5 ∧ 2 ≤ H ∧ H ≤ 5) : pcs W (W * H) (nI (2 ^ (W * H) - 1)) ≤ 1 := by
  have z : ∀ A : Int32, A &&& (A ^^^ (-1 : Int32)) = 0 := fun A => by
    apply b_ext
    intro i hi
    rw [b_and, b_xor, b_0, b_m1 i hi]
    cases bt A i <;> rfl
  unfold pcs pcsF
  split
  · omega
  · rw [clo_all hg, z]
    unfold pcsF
    rw [if_pos rfl]
    omega
