/-! PURE: best: the reference goes through all lines -/
def isL (f : Nat → Nat) (ok : Nat → Bool) (N x : Nat) : Prop := x < N ∧ ok x = true ∧ ∀ y, y < N → ok y = true → f x < f y ∨ (f x = f y ∧ x ≤ y)
theorem isL_one {f : Nat → Nat} {ok : Nat → Bool} {N x x' : Nat} (a : isL f ok N x) (b : isL f ok N x') : x = x' := by
  obtain ⟨a1, a2, a3⟩ := a
  obtain ⟨b1, b2, b3⟩ := b
  have c := a3 x' b1 b2
  have d := b3 x a1 a2
  omega
theorem p_bestR {w : St} {N : Nat} (hN : N ≤ 65536) {f q1 q2 : Nat → Nat} (hall : f_X12_all w = some (nI (N - 1), w)) (h1 : ∀ x, x < N → f_X12_pieces w (nI x) = some (nI (q1 x), w)) (h2 : ∀ x, x < N → f_X12_pieces w (nI (N - 1) &&& (nI x ^^^ (-1 : Int32))) = some (nI (q2 x), w)) (hh : ∀ x, x < N → f_X12_harm w (nI x) = some (nI (f x), w)) (b1' : ∀ x, x < N → q1 x < 100) (b2' : ∀ x, x < N → q2 x < 100) (b3' : ∀ x, x < N → f x < 1000000000) (hex : ∃ x, x < N ∧ (decide (q1 x ≤ 1) && decide (q2 x ≤ 1)) = true) (x2 : Int32) :
    ∃ x, isL f (fun x => decide (q1 x ≤ 1) && decide (q2 x ≤ 1)) N x ∧ F_X12_best_45 100000 w x2 (-1) 0 0 = some (if x2 = 0 then nI x else nI (f x), w) := by
  generalize hok : (fun x => decide (q1 x ≤ 1) && decide (q2 x ≤ 1)) = ok
  have oke : ∀ x, (decide (q1 x ≤ 1) && decide (q2 x ≤ 1)) = ok x := fun x => by rw [← hok]
  obtain ⟨x0, hx0, ok0⟩ := hex
  rw [oke] at ok0
  refine loop_i (fun k j (y : Int32 × Int32) => ∃ x, isL f ok N x ∧ F_X12_best_45 k w x2 y.1 y.2 (nI j) = some (if x2 = 0 then nI x else nI (f x), w)) (fun j y => (y.1 = -1 ∧ ∀ h, h < j → ok h = false) ∨ ∃ g, g < j ∧ ok g = true ∧ y.1 = nI g ∧ y.2 = nI (f g) ∧ ∀ h, h < j → ok h = true → f g < f h ∨ (f g = f h ∧ g ≤ h)) N ?_ ?_ 100000 0 (-1, 0) (Nat.zero_le _) (by omega) (Or.inl ⟨rfl, fun h hh => absurd hh (Nat.not_lt_zero h)⟩)
  · rintro k ⟨y6, y7⟩ hI
    show ∃ x, _ ∧ F_X12_best_45_b _ w x2 y6 y7 (nI N) = _
    rcases hI with ⟨_, no⟩ | ⟨g, g1, g2, g3, g4, hmin⟩
    · rw [no x0 hx0] at ok0; cases ok0
    · have g3' : y6 = nI g := g3
      have g4' : y7 = nI (f g) := g4
      subst g3' g4'
      refine ⟨g, ⟨g1, g2, hmin⟩, ?_⟩
      unfold F_X12_best_45_b F_X12_best_130
      rw [hall]
      simp only [oC_s, oL_s]
      rw [if_pos (nI_lt (by omega) (by omega))]
      split <;> rfl
  · rintro k j ⟨y6, y7⟩ hj hI K
    have hI' : (y6 = -1 ∧ ∀ h, h < j → ok h = false) ∨ ∃ g, g < j ∧ ok g = true ∧ y6 = nI g ∧ y7 = nI (f g) ∧ ∀ h, h < j → ok h = true → f g < f h ∨ (f g = f h ∧ g ≤ h) := hI
    clear hI
    show ∃ x, _ ∧ F_X12_best_45_b (F_X12_best_45 k) w x2 y6 y7 (nI j) = _
    have p1 := b1' j hj
    have p2 := b2' j hj
    have p3 := b3' j hj
    have skip : ok j = false → ∃ x, isL f ok N x ∧ F_X12_best_45 k w x2 y6 y7 (nI (j + 1)) = some (if x2 = 0 then nI x else nI (f x), w) := by
      intro hno
      refine K (y6, y7) ?_
      rcases hI' with ⟨e6, no⟩ | ⟨g, g1, g2, g3, g4, hmin⟩
      · refine Or.inl ⟨e6, fun h hh => ?_⟩
        by_cases e : h = j
        · subst e; exact hno
        · exact no h (by omega)
      · refine Or.inr ⟨g, by omega, g2, g3, g4, fun h h1 h2 => ?_⟩
        by_cases e : h = j
        · subst e; rw [hno] at h2; cases h2
        · exact hmin h (by omega) h2
    unfold F_X12_best_45_b F_X12_best_107 F_X12_best_114
    rw [hall]
    simp only [oC_s, oL_s, nI_1]
    rw [if_neg (fun q => by
      have := (nI_ltI (by omega) (by omega)).mp q
      omega), h1 j hj]
    simp only [oC_s]
    by_cases c1 : q1 j ≤ 1
    · have q : ¬ (1 : Int32) < nI (q1 j) := fun q => by
        have := (nI_ltI (a := 1) (by omega) (by omega)).mp q
        omega
      rw [if_neg q, hall]
      simp only [oC_s]
      rw [h2 j hj]
      simp only [oC_s]
      by_cases c2 : q2 j ≤ 1
      · have q : nI (q2 j) ≤ (1 : Int32) := nI_le (b := 1) c2 (by omega)
        rw [if_pos q, hh j hj]
        simp only [oC_s]
        have okj : ok j = true := by rw [← oke, decide_eq_true c1, decide_eq_true c2]; rfl
        rcases hI' with ⟨e6, no⟩ | ⟨g, g1, g2, g3, g4, hmin⟩
        · rw [if_pos e6]
          refine K (nI j, nI (f j)) (Or.inr ⟨j, by omega, okj, rfl, rfl, fun h h1 h2 => ?_⟩)
          by_cases e : h = j
          · subst e; omega
          · rw [no h (by omega)] at h2; cases h2
        · subst g3 g4
          have p4 := b3' g (by omega)
          rw [if_neg (nI_nm1 (by omega))]
          by_cases c3 : f j < f g
          · rw [if_pos (nI_lt c3 (by omega))]
            refine K (nI j, nI (f j)) (Or.inr ⟨j, by omega, okj, rfl, rfl, fun h h1 h2 => ?_⟩)
            by_cases e : h = j
            · subst e; omega
            · have := hmin h (by omega) h2
              omega
          · rw [if_neg (fun q => c3 ((nI_ltI (by omega) (by omega)).mp q))]
            refine K (nI g, nI (f g)) (Or.inr ⟨g, by omega, g2, rfl, rfl, fun h h1 h2 => ?_⟩)
            by_cases e : h = j
            · subst e; omega
            · exact hmin h (by omega) h2
      · have q : ¬ nI (q2 j) ≤ (1 : Int32) := nI_ge (a := 1) (by omega) (by omega)
        rw [if_neg q]
        exact skip (by rw [← oke, decide_eq_false c2, Bool.and_false])
    · have q : (1 : Int32) < nI (q1 j) := nI_lt (a := 1) (by omega) (by omega)
      rw [if_pos q]
      exact skip (by rw [← oke, decide_eq_false c1, Bool.false_and])
theorem hm_bd {w : St} {P : Nat → Nat → Nat} {W n c f0 f1 f2 : Nat} (hn : n ≤ 25) (hc : c ≤ 6) (hP : ∀ v s, s < 2 → P v s ≤ 1249) (h0 : f0 ≤ 999) (h1 : f1 ≤ 999) (h2 : f2 ≤ 999) (hK : ∀ i, i < c → cKk w i ≤ 5) (x : Int32) : hmN w P W n c f0 f1 f2 x ≤ 200000 := by
  have a1 : wrN P x n ≤ n * 1249 := fb_sm_bound (fun v _ => hP v _ (by have := b1_le (bt x v); omega))
  have a2 : fb_ct (dsB w x) n ≤ n := fb_ct_le _ _
  have a3 : fb_sm (svN w W n x) n ≤ n * 2 := fb_sm_bound (fun v _ => by
    have e1 := b1_le (decide (v % W < W - 1) && svE w x v (v + 1))
    have e2 := b1_le (decide (v + W < n) && svE w x v (v + W))
    unfold svN
    omega)
  have a4 : fb_sm (ctN w x) c ≤ c * 5 := fb_sm_bound (fun i hi => by
    have e1 := fb_ct_le (fun j => bt x (cHd w i) ^^ bt x (cDr w i j)) (cKk w i)
    have e2 := hK i hi
    unfold ctN
    omega)
  have m0 : f0 * fb_ct (dsB w x) n ≤ 999 * 25 := Nat.mul_le_mul h0 (by omega)
  have m1 : f1 * fb_sm (svN w W n x) n ≤ 999 * 50 := Nat.mul_le_mul h1 (by omega)
  have m2 : f2 * fb_sm (ctN w x) c ≤ 999 * 30 := Nat.mul_le_mul h2 (by omega)
  unfold hmN
  omega
