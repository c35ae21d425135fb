/-! PURE: terms: the rows of a rule -/
def RowOK (me : St → Int32 → Int32 → Option (Int32 × St)) (r o : Nat) : Prop := ∀ n a c m p K e z w, pR n a c m 0 p o K z w → wfK (z.2.1 5) m e → (0 < p → bnd (w.2.1 4 (p - 1)) ≤ r) → (3 ≤ r → z.1 6 ≠ 17 ∨ (0 < p ∧ 4 ≤ bnd (w.2.1 4 (p - 1)))) → rowP (me z (nI r) (nI o)) n a c p o K e r 0 z w
theorem rowP_k {res : Option (Int32 × St)} {n a c p o K e r : Nat} {x1 : Int32} {z w : St} {g : Int32 × St → Option (Int32 × St)} (h : rowP res n a c p o K e r x1 z w) (h0 : ∀ s, g (0, s) = some (0, s)) (h1 : ∀ s, g (1, s) = some (1, s)) : rowP (oC res g) n a c p o K e r x1 z w := by
  rcases h with ⟨z', w', j, e1, hr⟩ | ⟨z', w', a', c', m', q', j, e1, hr⟩
  · exact Or.inl ⟨z', w', j, by rw [e1, oC_s]; exact h0 z', hr⟩
  · exact Or.inr ⟨z', w', a', c', m', q', j, by rw [e1, oC_s]; exact h1 z', hr⟩
theorem rk17 : rk1 17 = 0 := by decide
theorem rk_n3 (t : Int32) : rk1 t ≠ 3 := by
  unfold rk1
  repeat' split
  all_goals omega
theorem ar_bin {k x : Int32} (h : sgnR k x) (hk : 1 ≤ rk1 k) : arF k = 2 := by
  rcases h with ⟨h1, _⟩ | ⟨h1, _⟩ | ⟨h1, _⟩ | ⟨i, hi, h1, _⟩
  · rw [h1, rk17] at hk; omega
  · rw [h1]; rfl
  · rw [h1]; rfl
  · rw [h1]; exact ar_sg i hi
theorem row_loop {me : St → Int32 → Int32 → Option (Int32 × St)} {r o n p K e S : Nat} (hr : r ≤ 5) (h2 : r ≠ 2) (hS : S = if r = 3 then 1 else 65) (hme : RowOK me (r + 1) o) : ∀ k i a c m q z w, S - i < k → i ≤ S → pR n a c m q p o K z w → wfK (z.2.1 5) (m + q) (e + 1) → (∀ j, p ≤ j → j < p + q → r + 1 ≤ bnd (w.2.1 4 j)) → (i = 0 → ∀ j, p ≤ j → j < p + q → r + 2 ≤ bnd (w.2.1 4 j)) → tokC (r + 1) p q z w → i ≤ c → (0 < p → bnd (w.2.1 4 (p - 1)) ≤ r) → (1 ≤ i → r = 3 → tokC 3 p q z w) → rowP (F_X6_row_51 me k z (nI r) (nI o) (nI S) (nI i)) n a c p o K e r 1 z w := by
  intro k
  induction k with
  | zero => intro i a c m q z w h; omega
  | succ k ih =>
    intro i a c m q z w hk hiS h hw hp1 hp2 htk hic htop h3
    have hS65 : S ≤ 65 := by rw [hS]; split <;> omega
    obtain ⟨hA, ⟨c1, c2, c3, c4, c5, c6⟩, ⟨d1, d2, d3, d4, d5⟩, hk1, hk2⟩ := id h
    show rowP (F_X6_row_51_b me (F_X6_row_51 me k) z (nI r) (nI o) (nI S) (nI i)) n a c p o K e r 1 z w
    unfold F_X6_row_51_b F_X6_row_107 F_X6_row_92
    have stop : tokC r p q z w → rowP (some (1, z)) n a c p o K e r 1 z w := fun ht => Or.inr ⟨z, w, a, c, m, q, 0, rfl, ⟨Nat.le_refl _, by omega⟩, fun k => rfl, fr_0, fwT_0, h, hw, fun _ _ => rfl, hp1, ht⟩
    by_cases ci : i = S
    · rw [if_pos (nI_le (by omega) (by omega))]
      by_cases c3' : r = 3
      · subst c3'
        rw [if_pos rfl] at hS
        exact stop (h3 (by omega) rfl)
      · exfalso
        rw [if_neg c3'] at hS
        omega
    rw [if_neg (nI_ge (show i < S by omega) (by omega)), p_rankOf]
    simp only [oC_s, oL_s]
    by_cases crk : rk1 (z.1 6) = r + 1
    · rw [if_pos ((rk_eq (by omega)).mpr crk), nI_1]
      have hpend : ∀ j, p ≤ j → j < p + q → (if r = 3 then 5 else r + 1) ≤ bnd (w.2.1 4 j) := by
        intro j j1 j2
        by_cases c3' : r = 3
        · have hS' : S = 1 := by rw [hS, if_pos c3']
          rw [if_pos c3']
          have := hp2 (by omega) j j1 j2
          omega
        · rw [if_neg c3']; exact hp1 j j1 j2
      rcases sg_step h crk hpend htop with ⟨z', w', g1, g2, g3, g4, g5⟩ | ⟨z1, w1, a1, x, g1, g2, g3, g4, g5, g6, g7, g8, g9, g10, g11⟩
      · rw [g1]
        simp only [oC_s, ↓reduceIte]
        exact Or.inl ⟨z', w', 2, rfl, by omega, g2, g3, g4, g5⟩
      · rw [g1]
        simp only [oC_s]
        have n1 : ¬ (1 : Int32) = 0 := by decide
        rw [if_neg n1]
        have tp : bnd (w1.2.1 4 (p + 1 - 1)) = r + 1 := by rw [Nat.add_sub_cancel, g7]; exact g9
        have inner := hme n a1 (c + 1) (m + q) (p + 1) (K + 1) (e + 1) z1 w1 g5 (by rw [g6]; exact hw) (fun _ => by have := tp; omega) (fun h3' => Or.inr ⟨by omega, by have := tp; omega⟩)
        rcases inner with hf | ⟨z2, w2, a2, c2', m2, q2, j2, f1, ⟨f2, f2'⟩, f3, f4, f5, f6, f7, f8, f9, f10⟩
        · obtain ⟨z', w', j, e1, e2, e3, e4, e5, e6⟩ := hf
          rw [e1]
          simp only [oC_s, ↓reduceIte]
          exact Or.inl (rowF_t (j := 1) g2 (by omega) g3 g4 ⟨z', w', j, rfl, e2, e3, e4, e5, e6⟩)
        · rw [f1]
          simp only [oC_s]
          rw [if_neg n1]
          have ex : w2.2.1 4 p = x := by rw [f8 p (by omega), g7]
          have har := ar_bin g8 (by omega)
          obtain ⟨z3, m1, m2', m3, m4, m5⟩ := em_pend (k := z.1 6) f6 (by rw [ex]; exact g8) c5 f7 (by omega)
          rw [m1]
          simp only [oC_s, nI_1]
          have q1 : ∀ j, p ≤ j → j < p + (q2 + 1) → r + 1 ≤ bnd (w2.2.1 4 j) := by
            intro j j1 j2
            by_cases ej : j = p
            · rw [ej, ex]; omega
            · have := f9 j (by omega) (by omega)
              omega
          have lift : ∀ t, (rk1 (z2.1 6) = 4 ∧ ∃ i, p + 1 ≤ i ∧ i < p + 1 + q2 ∧ bnd (w2.2.1 4 i) = 4 ∧ ∀ i', i < i' → i' < p + 1 + q2 → 5 ≤ bnd (w2.2.1 4 i')) → tokC t p (q2 + 1) z3 w2 := by
            rintro t ⟨l1, i', l2, l3, l4, l5⟩
            exact Or.inr ⟨by rw [m4]; exact l1, i', by omega, by omega, l4, fun u u1 u2 => l5 u u1 (by omega)⟩
          have tk1 : tokC (r + 1) p (q2 + 1) z3 w2 := by
            rcases f10 with l | l
            · exact Or.inl (by rw [m4]; exact l)
            · exact lift _ l
          have tk3 : r = 3 → tokC 3 p (q2 + 1) z3 w2 := by
            intro e3
            subst e3
            rcases f10 with l | l
            · by_cases l4 : rk1 (z2.1 6) = 4
              · refine Or.inr ⟨by rw [m4]; exact l4, p, Nat.le_refl _, by omega, by rw [ex, g9], fun u u1 u2 => ?_⟩
                have := f9 u (by omega) (by omega)
                omega
              · exact Or.inl (by rw [m4]; omega)
            · exact lift _ l
          have hw3 : wfK (z3.2.1 5) (m2 + (q2 + 1)) (e + 1) := by
            rw [har] at m5
            exact m5
          have nx := ih (i + 1) a2 c2' m2 (q2 + 1) z3 w2 (by omega) (by omega) m2' hw3 q1 (fun q => by omega) tk1 (by omega) (fun hp => by
            rw [f8 (p - 1) (by omega), g10 (p - 1) (by omega)]; exact htop hp) (fun _ => tk3)
          refine rowP_t (j := j2 + 1) (fun k => ?_) ?_ (by omega) (fr_t g3 (fr_t f4 m3)) (fwT_t g4 f5) (fun i hi => (f8 i (by omega)).trans (g10 i hi)) nx
          · rw [← Nat.add_assoc, g2, f3]
          · rw [m4]; omega
    · rw [if_neg (fun q => crk ((rk_eq (by omega)).mp q))]
      apply stop
      rcases htk with l | l
      · exact Or.inl (by omega)
      · exact Or.inr l
theorem row_bin {me : St → Int32 → Int32 → Option (Int32 × St)} {r o : Nat} (hr : r ≤ 5) (h2 : r ≠ 2) (hme : RowOK me (r + 1) o) : RowOK (F_X6_row_0 me) r o := by
  intro n a c m p K e z w h hw htop hnot
  unfold F_X6_row_0
  have q2 : ¬ nI r = (2 : Int32) := fun q => h2 ((nI_eq (b := 2) (by omega) (by omega)).mp q)
  have q6 : nI r < (6 : Int32) := nI_lt (b := 6) (by omega) (by omega)
  rw [if_neg q2, if_pos q6, nI_1]
  have inner := hme n a c m p K e z w h hw (fun hp => by have := htop hp; omega) (fun h3 => by
    by_cases c3 : 3 ≤ r
    · exact hnot c3
    · omega)
  rcases inner with hf | ⟨z2, w2, a2, c2', m2, q2', j2, f1, ⟨f2, f2'⟩, f3, f4, f5, f6, f7, f8, f9, f10⟩
  · obtain ⟨z', w', j, e1, e2⟩ := hf
    rw [e1]
    simp only [oC_s, oL_s, ↓reduceIte]
    exact Or.inl ⟨z', w', j, rfl, e2⟩
  · rw [f1]
    simp only [oC_s, oL_s]
    have n1 : ¬ (1 : Int32) = 0 := by decide
    rw [if_neg n1]
    unfold F_X6_row_47
    simp only [oL_s]
    have lp := row_loop (n := n) (p := p) (K := K) (e := e) (S := if r = 3 then 1 else 65) hr h2 rfl hme 100000 0 a2 c2' m2 q2' z2 w2 (by split <;> omega) (Nat.zero_le _) f6 f7 (fun j j1 j2 => by have := f9 j j1 j2; omega) (fun _ => f9) f10 (Nat.zero_le _) (fun hp => by rw [f8 (p - 1) (by omega)]; exact htop hp) (fun q => by omega)
    refine rowP_t (j := j2) f3 f2' f2 f4 f5 f8 ?_
    by_cases c3 : r = 3
    · rw [if_pos c3] at lp
      rw [if_pos (show nI r = (3 : Int32) by rw [c3]; rfl)]
      exact lp
    · rw [if_neg c3] at lp
      rw [if_neg (show ¬ nI r = (3 : Int32) from fun q => c3 ((nI_eq (b := 3) (by omega) (by omega)).mp q))]
      exact lp
