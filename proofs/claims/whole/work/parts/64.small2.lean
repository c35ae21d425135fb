/-! PURE: cases of arguments; searching loops; folding loops; small methods under Inv -/
theorem i10 : ((1 : Int32) = 0) ↔ False := by decide
theorem nI_mk {x : Int32} {n : Nat} (h0 : 0 ≤ x.toInt) (h1 : x.toInt ≤ n) (hn : n < 2147483648) : ∃ j, j ≤ n ∧ x = nI j := by
  have e0 : ((0 : Int32)).toInt = 0 := by decide
  have q : ¬ x < 0 := fun q => by have := i_lt.mp q; omega
  obtain ⟨j, hj, rfl⟩ := nI_of q
  rw [nI_toInt hj] at h1
  exact ⟨j, by omega, rfl⟩
theorem lp_find {R : Type} (F : Nat → Nat → Option R) (p : Nat → Prop) (e : Nat) (r1 r0 : Option R) (hx : ∀ n, F (n + 1) e = r0) (hp : ∀ n i, i < e → p i → F (n + 1) i = r1) (hn : ∀ n i, i < e → ¬ p i → F (n + 1) i = F n (i + 1)) (n : Nat) (hen : e < n) : ((∃ j, j < e ∧ p j) ∧ F n 0 = r1) ∨ ((∀ j, j < e → ¬ p j) ∧ F n 0 = r0) := by
  have key : ∀ n i, i ≤ e → e - i < n → ((∃ j, i ≤ j ∧ j < e ∧ p j) ∧ F n i = r1) ∨ ((∀ j, i ≤ j → j < e → ¬ p j) ∧ F n i = r0) := by
    intro n
    induction n with
    | zero => intro i _ h; omega
    | succ n ih =>
      intro i hi hn'
      by_cases h : i = e
      · subst h
        exact Or.inr ⟨fun j h1 h2 => by omega, hx n⟩
      · by_cases q : p i
        · exact Or.inl ⟨⟨i, Nat.le_refl _, by omega, q⟩, hp n i (by omega) q⟩
        · rw [hn n i (by omega) q]
          rcases ih (i + 1) (by omega) (by omega) with ⟨⟨j, h1, h2, h3⟩, h4⟩ | ⟨h1, h2⟩
          · exact Or.inl ⟨⟨j, by omega, h2, h3⟩, h4⟩
          · refine Or.inr ⟨fun j h3 h4 => ?_, h2⟩
            by_cases hj : j = i
            · subst hj; exact q
            · exact h1 j (by omega) h4
  rcases key n 0 (Nat.zero_le _) (by omega) with ⟨⟨j, _, h2, h3⟩, h4⟩ | ⟨h1, h2⟩
  · exact Or.inl ⟨⟨j, h2, h3⟩, h4⟩
  · exact Or.inr ⟨fun j hj => h1 j (Nat.zero_le _) hj, h2⟩
def foldN {A : Type} (g : Nat → A → A) : Nat → A → A
  | 0, a => a
  | k + 1, a => g k (foldN g k a)
theorem foldN_s {A : Type} (g : Nat → A → A) : ∀ k a, foldN g (k + 1) a = foldN (fun i => g (i + 1)) k (g 0 a)
  | 0, _ => rfl
  | k + 1, a => by
    show g (k + 1) (foldN g (k + 1) a) = g (k + 1) (foldN (fun i => g (i + 1)) k (g 0 a))
    rw [foldN_s g k a]
theorem lp_fold {A R : Type} (F : Nat → Nat → A → Option R) (g : Nat → A → A) (e : Nat) (fin : A → Option R) (hx : ∀ n a, F (n + 1) e a = fin a) (hs : ∀ n i a, i < e → F (n + 1) i a = F n (i + 1) (g i a)) (n : Nat) (a : A) (hen : e < n) : F n 0 a = fin (foldN g e a) := by
  have key : ∀ k n i a, e = i + k → k < n → F n i a = fin (foldN (fun j => g (i + j)) k a) := by
    intro k
    induction k with
    | zero =>
      intro n i a he hn
      cases n with
      | zero => omega
      | succ n => rw [show i = e by omega, hx]; rfl
    | succ k ih =>
      intro n i a he hn
      cases n with
      | zero => omega
      | succ n =>
        rw [hs n i a (by omega), ih n (i + 1) (g i a) (by omega) (by omega), foldN_s]
        congr 1
        have : (fun j => g (i + 1 + j)) = (fun j => g (i + (j + 1))) := by funext j; congr 1; omega
        rw [this]; rfl
  have := key e n 0 a (by omega) hen
  rw [this]
  congr 1
  have : (fun j => g (0 + j)) = g := by funext j; congr 1; omega
  rw [this]
/-- both answer alike, and what holds between the states goes on holding -/
def Ok (f g : Option (Int32 × St)) : Prop := ∃ r z' w', f = some (r, z') ∧ g = some (r, w') ∧ Inv z' w'
theorem Inv_0 {z w : St} (h : Inv z w) : Inv z (sI w 0 0) := Inv_q h fr_0 (fr_I fr_0 (by decide))
theorem mulN (a b : Nat) : nI a * nI b = nI (a * b) := by
  apply Int32.toBitVec_inj.1
  show BitVec.ofNat 32 a * BitVec.ofNat 32 b = BitVec.ofNat 32 (a * b)
  apply BitVec.eq_of_toNat_eq
  simp [Nat.mul_mod]
theorem szL {z w : St} {W H : Nat} (h : ivLand z w W H) : w.1 22 * w.1 23 = nI (W * H) := by rw [h.2.1, h.2.2.1, mulN]
theorem sz25 {W H : Nat} (h : 2 ≤ W ∧ W ≤ 5 ∧ 2 ≤ H ∧ H ≤ 5) : 4 ≤ W * H ∧ W * H ≤ 25 := ⟨Nat.mul_le_mul h.1 h.2.2.1, Nat.mul_le_mul h.2.1 h.2.2.2⟩
theorem c_vil {z w : St} {W H : Nat} (h : ivLand z w W H) (x : Int32) : (f_X4_has z x = some (0, z) ∧ f_X12_isVillage w x = some (0, w)) ∨ ∃ v, v < W * H ∧ x = nI v ∧ f_X4_has z x = some (1, z) ∧ f_X12_isVillage w x = some (1, w) := by
  have hs := sz25 h.1
  rw [p_has4, p_isVillage, szL h, h.2.2.2.2.1]
  by_cases a : x < 0 ∨ nI (W * H) ≤ x
  · left; rw [if_pos a]; exact ⟨rfl, rfl⟩
  · right
    obtain ⟨j, hj, rfl⟩ := nI_of (fun q => a (Or.inl q))
    refine ⟨j, ?_, rfl, ?_, ?_⟩
    · rcases Nat.lt_or_ge j (W * H) with q | q
      · exact q
      · exact absurd (Or.inr ((nI_leI (by omega) hj).mpr q)) a
    · rw [if_neg a]
    · rw [if_neg a]
theorem c_day (z w : St) (x : Int32) : (f_X11_isDay z x = some (0, z) ∧ f_X12_isDay w x = some (0, w)) ∨ ∃ k, k ≤ 999 ∧ x = nI k ∧ f_X11_isDay z x = some (1, z) ∧ f_X12_isDay w x = some (1, w) := by
  unfold f_X11_isDay F_X11_isDay_0 F_X11_isDay_15 F_X11_isDay_16 f_X12_isDay F_X12_isDay_0 F_X12_isDay_15 F_X12_isDay_16
  by_cases a : x < 0
  · left; rw [if_pos a, if_pos a]; exact ⟨rfl, rfl⟩
  · rw [if_neg a, if_neg a]
    by_cases b : (999 : Int32) < x
    · left; rw [if_pos b, if_pos b]; exact ⟨rfl, rfl⟩
    · right
      rw [if_neg b, if_neg b]
      have b' : x ≤ nI 999 := Int32.not_lt.mp b
      obtain ⟨j, hj, rfl⟩ := nI_of a
      exact ⟨j, (nI_leI hj (by omega)).mp b', rfl, rfl, rfl⟩
theorem q_days {z w : St} (h : Inv z w) (x : Int32) : Ok (f_X11_days z x) (f_X12_days w x) := by
  obtain ⟨W, H, ⟨t, ht, e1, e2⟩, hL, hV, hC, hN, hE, hD, hK, hT, hF, hR⟩ := h
  have et : (nI t).toInt = t := nI_toInt (by omega)
  obtain ⟨r, t', g1, g2, t0, t1⟩ := p_days z w x (by rw [e1, e2]) (by rw [e1, et]; omega) (by rw [e1, et]; omega)
  obtain ⟨j, hj, rfl⟩ := nI_mk (n := 999) t0 t1 (by omega)
  exact ⟨r, _, _, g1, g2, W, H, ⟨j, hj, rfl, rfl⟩, hL, hV, hC, hN, hE, hD, hK, hT, hF, hR⟩
theorem q_fault {z w : St} (h : Inv z w) (x : Int32) : Ok (f_X11_fault z x) (f_X12_fault w x) := by
  have h' := h
  obtain ⟨W, H, hDy, hL, hV, hC, hN, hE, hD, hK, hT, ⟨f1, f2⟩, hR⟩ := h
  obtain ⟨r, g1, g2⟩ := p_fault z w x f1 f2
  exact ⟨r, _, _, g1, g2, Inv_0 h'⟩
theorem q_errs {z w : St} (h : Inv z w) (a b : Int32) : Ok (f_X11_errs z a b) (f_X12_errs w a b) := by
  have h' := h
  obtain ⟨W, H, hDy, hL, hV, hC, hN, ⟨e1, e2⟩, hD, hK, hT, hF, hR⟩ := h
  rcases p_errs z w a b with ⟨g1, g2⟩ | ⟨a0, a1, b0, b1, g1, g2⟩
  · exact ⟨0, _, _, g1, g2, Inv_0 h'⟩
  · obtain ⟨j, hj, rfl⟩ := nI_mk (n := 50) b0 b1 (by omega)
    refine ⟨1, _, _, g1, g2, W, H, hDy, hL, hV, hC, hN, ⟨?_, ?_⟩, hD, hK, hT, hF, hR⟩
    · show upd (z.2.1 18) _ _ = upd (w.2.1 10) _ _
      rw [e1]
    · intro i hi
      show ∃ e, e ≤ 50 ∧ upd (w.2.1 10) _ _ i = nI e
      by_cases q : i = a.toNatClampNeg
      · exact ⟨j, hj, by rw [q]; exact pk_us⟩
      · obtain ⟨e, he, e3⟩ := e2 i hi
        exact ⟨e, he, by rw [pk_un q]; exact e3⟩
theorem q_counted {z w : St} (h : Inv z w) (x : Int32) : Ok (f_X11_counted z x) (f_X12_counted w x) := by
  have h' := h
  obtain ⟨W, H, ⟨t, ht, d1, d2⟩, hL, hV, ⟨c, hc, c1, c2, hC⟩, ⟨m, hm, m1, m2, hN⟩, hE, ⟨d, hd, dd1, dd2, hD⟩, ⟨k, hk, k1, k2, hK⟩, hT, hF, ⟨hu, ⟨f, hf, f1, f2⟩, ⟨l, hl, l1, l2⟩, hw, ⟨n, hn, n1, n2, n3, n4⟩⟩⟩ := h
  have hs := szL hL
  have hz := hL.2.2.2.2.1
  have i4 : vp_in (4 : Int32) 12 := by unfold vp_in; decide
  have i5 : vp_in (5 : Int32) 12 := by unfold vp_in; decide
  unfold f_X11_counted F_X11_counted_0 f_X12_counted F_X12_counted_0
  simp only [oL_eq, sI_i, sI_a, p_cells, oC_some, Nat.reduceEqDiff, ↓reduceIte, oA_in _ i4, oA_in _ i5]
  by_cases q0 : x = 0
  · rw [if_pos q0, if_pos q0, d1, d2]; exact ⟨_, _, _, rfl, rfl, Inv_0 h'⟩
  rw [if_neg q0, if_neg q0]
  by_cases q1 : x = 1
  · rw [if_pos q1, if_pos q1, hs, hz]; exact ⟨_, _, _, rfl, rfl, Inv_0 h'⟩
  rw [if_neg q1, if_neg q1]
  by_cases q2 : x = 2
  · rw [if_pos q2, if_pos q2, m1, m2]; exact ⟨_, _, _, rfl, rfl, Inv_0 h'⟩
  rw [if_neg q2, if_neg q2]
  by_cases q3 : x = 3
  · rw [if_pos q3, if_pos q3, c1, c2]; exact ⟨_, _, _, rfl, rfl, Inv_0 h'⟩
  rw [if_neg q3, if_neg q3]
  by_cases q4 : x = 4
  · rw [if_pos q4, if_pos q4, dd1, dd2]; exact ⟨_, _, _, rfl, rfl, Inv_0 h'⟩
  rw [if_neg q4, if_neg q4]
  by_cases q5 : x = 5
  · rw [if_pos q5, if_pos q5, k1, k2]; exact ⟨_, _, _, rfl, rfl, Inv_0 h'⟩
  rw [if_neg q5, if_neg q5]
  by_cases q6 : x = 6
  · rw [if_pos q6, if_pos q6, n1, n3]; exact ⟨_, _, _, rfl, rfl, Inv_0 h'⟩
  rw [if_neg q6, if_neg q6]
  by_cases q7 : x = 7
  · rw [if_pos q7, if_pos q7]
    exact ⟨_, _, _, rfl, by rw [f1, ← f2]; rfl, Inv_0 h'⟩
  rw [if_neg q7, if_neg q7]
  by_cases q8 : x = 8
  · rw [if_pos q8, if_pos q8]
    exact ⟨_, _, _, rfl, by rw [l1, ← l2]; rfl, Inv_0 h'⟩
  rw [if_neg q8, if_neg q8]
  exact ⟨_, _, _, rfl, rfl, Inv_0 h'⟩
theorem cand_C {z : St} {c v : Nat} (hc : c ≤ 8) (e1 : z.1 37 = nI c) : ((∃ j, j < c ∧ z.2.1 37 j = nI v) ∧ F_X2_addCandidate_2 100000 z (nI v) 0 = some (-1, z)) ∨ ((∀ j, j < c → ¬ z.2.1 37 j = nI v) ∧ F_X2_addCandidate_2 100000 z (nI v) 0 = if c < 8 then some (nI c, sI (sA z 37 (upd (z.2.1 37) c (nI v))) 37 (nI (c + 1))) else some (-1, z)) := by
  refine lp_find (fun n i => F_X2_addCandidate_2 n z (nI v) (nI i)) (fun j => z.2.1 37 j = nI v) c _ _ ?_ ?_ ?_ 100000 (by omega)
  · intro n
    show F_X2_addCandidate_2_b _ z (nI v) (nI c) = _
    unfold F_X2_addCandidate_2_b
    simp only [e1, oL_eq, sA_1, sI_i, ↓reduceIte]
    rw [if_pos (Int32.le_refl _)]
    by_cases q : c < 8
    · have q8 : nI c < (8 : Int32) := nI_lt (b := 8) q (by omega)
      rw [if_pos q8, if_pos q, oA_in _ (vp_in_nI q (by omega)), nI_clamp (by omega), nI_1, nI_pred]
    · have q8 : ¬ nI c < (8 : Int32) := nI_nlt (b := 8) (by omega) (by omega)
      rw [if_neg q8, if_neg q]
  · intro n i hi hp
    show F_X2_addCandidate_2_b _ z (nI v) (nI i) = _
    unfold F_X2_addCandidate_2_b
    rw [e1, if_neg (nI_ge hi (by omega)), oA_in _ (vp_in_nI (by omega) (by omega)), nI_clamp (by omega), if_pos hp]
  · intro n i hi hp
    show F_X2_addCandidate_2_b _ z (nI v) (nI i) = F_X2_addCandidate_2 n z (nI v) (nI (i + 1))
    unfold F_X2_addCandidate_2_b
    rw [e1, if_neg (nI_ge hi (by omega)), oA_in _ (vp_in_nI (by omega) (by omega)), nI_clamp (by omega), if_neg hp, oL_eq, nI_1]
theorem cand_R {w : St} {c v : Nat} (hc : c < 8) (e1 : w.1 26 = nI c) : ((∃ j, j < c ∧ w.2.1 15 j = nI v) ∧ F_X12_candidate_26 100000 w (nI v) 0 = some (-1, w)) ∨ ((∀ j, j < c → ¬ w.2.1 15 j = nI v) ∧ F_X12_candidate_26 100000 w (nI v) 0 = some (nI c, sI (sA w 15 (upd (w.2.1 15) c (nI v))) 26 (nI (c + 1)))) := by
  refine lp_find (fun n i => F_X12_candidate_26 n w (nI v) (nI i)) (fun j => w.2.1 15 j = nI v) c _ _ ?_ ?_ ?_ 100000 (by omega)
  · intro n
    show F_X12_candidate_26_b _ w (nI v) (nI c) = _
    unfold F_X12_candidate_26_b
    simp only [e1, oL_eq, sA_1, sI_i, ↓reduceIte]
    rw [if_pos (Int32.le_refl _), oA_in _ (vp_in_nI hc (by omega)), nI_clamp (by omega), nI_1, nI_pred]
  · intro n i hi hp
    show F_X12_candidate_26_b _ w (nI v) (nI i) = _
    unfold F_X12_candidate_26_b
    rw [e1, if_neg (nI_ge hi (by omega)), oA_in _ (vp_in_nI (by omega) (by omega)), nI_clamp (by omega), if_pos hp]
  · intro n i hi hp
    show F_X12_candidate_26_b _ w (nI v) (nI i) = F_X12_candidate_26 n w (nI v) (nI (i + 1))
    unfold F_X12_candidate_26_b
    rw [e1, if_neg (nI_ge hi (by omega)), oA_in _ (vp_in_nI (by omega) (by omega)), nI_clamp (by omega), if_neg hp, oL_eq, nI_1]
theorem q_candidate {z w : St} (h : Inv z w) (x : Int32) : Ok (f_X11_candidate z x) (f_X12_candidate w x) := by
  have h' := h
  obtain ⟨W, H, hDy, hL, hV, hC, hN, hE, hD, ⟨c, hc, e1, e2, e3, hk⟩, hT, hF, hR⟩ := h
  have k2 : (sI w 0 0).1 26 = nI c := e2
  unfold f_X11_candidate F_X11_candidate_0 f_X12_candidate F_X12_candidate_0 F_X11_candidate_23 F_X12_candidate_22
  rcases c_vil (w := sI w 0 0) hL x with ⟨g1, g2⟩ | ⟨v, hv, rfl, g1, g2⟩
  · refine ⟨-1, z, sI w 0 0, ?_, ?_, Inv_0 h'⟩
    · simp only [g1, oC_some, oL_eq, ↓reduceIte]
    · simp only [oL_eq, g2, oC_some, ↓reduceIte]
  · unfold f_X2_addCandidate F_X2_addCandidate_0
    simp only [oL_eq, g1, g2, oC_some, i10, ↓reduceIte, k2]
    by_cases q8 : c = 8
    · have e8 : nI c = (8 : Int32) := by rw [q8]; rfl
      refine ⟨-1, z, sI w 0 0, ?_, by rw [if_pos e8], Inv_0 h'⟩
      rcases cand_C (v := v) hc e1 with ⟨_, q⟩ | ⟨_, q⟩
      · rw [q, oC_some]
      · rw [q, if_neg (by omega), oC_some]
    · have e8 : ¬ nI c = (8 : Int32) := fun q => q8 ((nI_eq (b := 8) (by omega) (by omega)).mp q)
      rw [if_neg e8]
      rcases cand_C (v := v) hc e1 with ⟨⟨j, hj, p⟩, q⟩ | ⟨p, q⟩
      · rw [q, oC_some]
        rcases cand_R (w := sI w 0 0) (v := v) (by omega) k2 with ⟨_, q'⟩ | ⟨p', q'⟩
        · exact ⟨-1, _, _, rfl, q', Inv_0 h'⟩
        · exact absurd (by rw [e3] at p; exact p) (p' j hj)
      · rw [q, if_pos (by omega), oC_some]
        rcases cand_R (w := sI w 0 0) (v := v) (by omega) k2 with ⟨⟨j, hj, p'⟩, q'⟩ | ⟨p', q'⟩
        · exact absurd (by rw [e3]; exact p') (p j hj)
        · refine ⟨nI c, _, _, rfl, q', W, H, hDy, hL, hV, hC, hN, hE, hD, ⟨c + 1, by omega, rfl, rfl, ?_, ?_⟩, hT, hF, hR⟩
          · show upd (z.2.1 37) c (nI v) = upd (w.2.1 15) c (nI v)
            rw [e3]
          · intro i hi
            show ∃ u, u < W * H ∧ upd (w.2.1 15) c (nI v) i = nI u
            by_cases qi : i = c
            · exact ⟨v, hv, by rw [qi]; exact pk_us⟩
            · obtain ⟨u, hu, e⟩ := hk i (by omega)
              exact ⟨u, hu, by rw [pk_un qi]; exact e⟩
