/-! PURE: the reference's givenBy; given, turned -/
section GVB
variable {z w : St} {W H m c : Nat} {P : Nat → Nat → Nat}
theorem nm_s (w : St) (P : Nat → Nat → Nat) (c : Nat) (V : Int32) (u j : Nat) (h : bt V u = true) : nmF w P c V (u + 1) j = nmF w P c V u j + inc w P c u j := by
  show (if bt V u then _ else _ : Int64) = _
  rw [h, if_pos rfl]
theorem p_givenBy (h : juOK z w W H m c P) {un : Nat} (hun : un ≤ 2) {q0 : St} (f0 : fr [20] [] w q0) : ∃ r q', f_X12_givenBy q0 (nI un) = some (r, q') ∧ fr [20] [] w q' ∧ ∀ p, bt r p = true ↔ p < W * H ∧ HB z (Vs z w un p) := by
  have hs := sz25 h.1.1
  have hG := h.2.1
  have i0 : vp_in (0 : Int32) 6 := by unfold vp_in; decide
  have i1 : vp_in (1 : Int32) 6 := by unfold vp_in; decide
  have i2 : vp_in (2 : Int32) 6 := by unfold vp_in; decide
  have i3 : vp_in (3 : Int32) 6 := by unfold vp_in; decide
  have i4 : vp_in (4 : Int32) 6 := by unfold vp_in; decide
  have i5 : vp_in (5 : Int32) 6 := by unfold vp_in; decide
  have k0 : Int32.toNatClampNeg (0 : Int32) = 0 := rfl
  have k1 : Int32.toNatClampNeg (1 : Int32) = 1 := rfl
  have k2 : Int32.toNatClampNeg (2 : Int32) = 2 := rfl
  have k3 : Int32.toNatClampNeg (3 : Int32) = 3 := rfl
  have k4' : Int32.toNatClampNeg (4 : Int32) = 4 := rfl
  have k5 : Int32.toNatClampNeg (5 : Int32) = 5 := rfl
  unfold f_X12_givenBy F_X12_givenBy_0
  simp only [oL_s]
  refine loop_i (fun k v (y : St × Int32) => ∃ r q', F_X12_givenBy_4 k y.1 (nI un) y.2 (nI v) = some (r, q') ∧ fr [20] [] w q' ∧ ∀ p, bt r p = true ↔ p < W * H ∧ HB z (Vs z w un p)) (fun v y => fr [20] [] w y.1 ∧ ∀ p, bt y.2 p = true ↔ p < v ∧ HB z (Vs z w un p)) (W * H) ?_ ?_ 100000 0 (q0, 0) (Nat.zero_le _) (by omega) ⟨f0, fun p => by rw [b_0]; exact ⟨fun q => (by cases q), fun q => absurd q.1 (Nat.not_lt_zero p)⟩⟩
  · rintro k ⟨q, x⟩ ⟨y1, y2⟩
    have gq : geoR q W H := geo_Rf hG y1 (by decide) (by decide)
    refine ⟨x, q, ?_, y1, y2⟩
    show F_X12_givenBy_4_b _ q (nI un) x (nI (W * H)) = _
    unfold F_X12_givenBy_4_b
    simp only [p_cells, oC_s, oL_s, gq.2.1, gq.2.2, mulN]
    rw [if_pos (Int32.le_refl _)]
  · rintro k v ⟨q, x⟩ hv ⟨y1, y2⟩ K
    have gq : geoR q W H := geo_Rf hG y1 (by decide) (by decide)
    show ∃ r q', F_X12_givenBy_4_b (F_X12_givenBy_4 k) q (nI un) x (nI v) = _ ∧ _
    unfold F_X12_givenBy_4_b
    simp only [p_cells, oC_s, oL_s, gq.2.1, gq.2.2, mulN]
    rw [if_neg (nI_ge hv (by omega))]
    have bV : bl (Vs z w un v) (W * H) := bl_Vs h hv
    refine loop_i (fun k' i (q' : St) => ∃ r q'', F_X12_givenBy_15 (F_X12_givenBy_4 k) k' q' (nI un) x (nI v) (nI i) = some (r, q'') ∧ fr [20] [] w q'' ∧ ∀ p, bt r p = true ↔ p < W * H ∧ HB z (Vs z w un p)) (fun i q' => fr [20] [] w q' ∧ ∀ j, j < i → q'.2.2 5 j = 0) 6 ?_ ?_ 100000 0 q (Nat.zero_le _) (by omega) ⟨y1, fun j hj => absurd hj (Nat.not_lt_zero j)⟩
    · rintro k' q' ⟨v1, v2⟩
      show ∃ r q'', F_X12_givenBy_15_b _ _ q' (nI un) x (nI v) (nI 6) = _ ∧ _
      unfold F_X12_givenBy_15_b
      have c6 : (6 : Int32) ≤ nI 6 := Int32.le_refl _
      rw [if_pos c6, oL_s]
      refine loop_i (fun k'' u (s : St) => ∃ r q'', F_X12_givenBy_39 (F_X12_givenBy_4 k) k'' s (nI un) x (nI v) (nI u) = some (r, q'') ∧ fr [20] [] w q'' ∧ ∀ p, bt r p = true ↔ p < W * H ∧ HB z (Vs z w un p)) (fun u s => fr [20] [] w s ∧ ∀ j, j < 6 → s.2.2 5 j = nmF w P c (Vs z w un v) u j) (W * H) ?_ ?_ 100000 0 q' (Nat.zero_le _) (by omega) ⟨v1, fun j hj => v2 j hj⟩
      · rintro k'' s ⟨x1, x2⟩
        have gs : geoR s W H := geo_Rf hG x1 (by decide) (by decide)
        obtain ⟨r, s', g1, g2, g3⟩ := hold_R h bV x1 x2
        show ∃ r q'', F_X12_givenBy_39_b _ _ s (nI un) x (nI v) (nI (W * H)) = _ ∧ _
        unfold F_X12_givenBy_39_b F_X12_givenBy_209
        simp only [p_cells, oC_s, oL_s, gs.2.1, gs.2.2, mulN]
        rw [if_pos (Int32.le_refl _), g1]
        simp only [oC_s, b2_0, nI_1, shl1 (show v < 32 by omega)]
        cases r
        · rw [if_pos rfl]
          refine K (s', x) ⟨g2, fun p => ?_⟩
          show bt x p = true ↔ _
          rw [y2 p]
          constructor
          · rintro ⟨a, b⟩; exact ⟨by omega, b⟩
          · rintro ⟨a, b⟩
            refine ⟨?_, b⟩
            rcases Nat.lt_or_ge p v with q | q
            · exact q
            · rw [show p = v by omega] at b
              have := g3.mpr b
              cases this
        · rw [if_neg (by decide)]
          refine K (s', x ||| nI (2 ^ v)) ⟨g2, fun p => ?_⟩
          show bt (x ||| nI (2 ^ v)) p = true ↔ _
          rw [bt_set (by omega), Bool.or_eq_true, y2 p, decide_eq_true_iff]
          constructor
          · rintro (⟨a, b⟩ | a)
            · exact ⟨by omega, b⟩
            · rw [a]; exact ⟨by omega, g3.mp rfl⟩
          · rintro ⟨a, b⟩
            rcases Nat.lt_or_ge p v with q | q
            · exact Or.inl ⟨q, b⟩
            · exact Or.inr (by omega)
      · rintro k'' u s hu ⟨x1, x2⟩ K'
        have gs : geoR s W H := geo_Rf hG x1 (by decide) (by decide)
        have hin : vp_in (nI u) 25 := vp_in_nI (by omega) (by omega)
        show ∃ r q'', F_X12_givenBy_39_b _ (F_X12_givenBy_39 (F_X12_givenBy_4 k) k'') s (nI un) x (nI v) (nI u) = _ ∧ _
        unfold F_X12_givenBy_39_b F_X12_givenBy_190
        rw [p_cells, oC_s, oL_s, oL_s]
        show ∃ r q'', (if s.1 22 * s.1 23 ≤ nI u then _ else _) = _ ∧ _
        rw [gs.2.1, gs.2.2, mulN, if_neg (nI_ge hu (by omega))]
        show ∃ r q'', oC (f_X12_isOfUnit s (nI un) (nI u) (nI v)) _ = _ ∧ _
        rw [p_isOfUnit h x1 hun hu hv]
        simp only [oC_s, oL_s, b2_0, nI_1]
        cases hb : bt (Vs z w un v) u
        · rw [if_pos rfl]
          refine K' s ⟨x1, fun j hj => ?_⟩
          rw [x2 j hj]
          show _ = (if bt (Vs z w un v) u then _ else _ : Int64)
          rw [hb, if_neg (by decide)]
        · rw [if_neg (by decide)]
          have m2 : (2 : Int32) * nI u = nI (2 * u) := by rw [show (2 : Int32) = nI 2 from rfl, mulN]
          have q1 : nI (2 * u) + (1 : Int32) = nI (2 * u + 1) := nI_1 _
          have j0 : vp_in (nI (2 * u)) 50 := vp_in_nI (by omega) (by omega)
          have j1 : vp_in (nI (2 * u + 1)) 50 := vp_in_nI (by omega) (by omega)
          have e24 : s.2.1 24 = w.2.1 24 := x1.2 24 (by decide)
          have b0 := h.2.2.2.2.2.1 u 0 (by omega)
          have b1' := h.2.2.2.2.2.1 u 1 (by omega)
          have a0 : Int32.toInt64 (s.2.1 24 (2 * u)) = lN (P u 0) := by rw [e24, show 2 * u = 2 * u + 0 from rfl, h.2.2.2.2.1 0 (by omega) u hu, nI_l (by omega)]
          have a1 : Int32.toInt64 (s.2.1 24 (2 * u + 1)) = lN (P u 1) := by rw [e24, h.2.2.2.2.1 1 (by omega) u hu, nI_l (by omega)]
          have e8 : s.2.1 8 = w.2.1 8 := x1.2 8 (by decide)
          have e9 : s.2.1 9 = w.2.1 9 := x1.2 9 (by decide)
          have go : ∀ y : Int64, y = inc w P c u 2 → ∃ r q'', F_X12_givenBy_141 (F_X12_givenBy_4 k) (F_X12_givenBy_39 (F_X12_givenBy_4 k) k'') (sJ (sJ s 5 (vp_updL (s.2.2 5) 0 (s.2.2 5 0 + lN (P u 0)))) 5 (vp_updL (vp_updL (s.2.2 5) 0 (s.2.2 5 0 + lN (P u 0))) 1 (s.2.2 5 1 + lN (P u 1)))) (nI un) x (nI v) (nI u) y (s.2.2 5 2) (2 : Int32) = some (r, q'') ∧ fr [20] [] w q'' ∧ ∀ p, bt r p = true ↔ p < W * H ∧ HB z (Vs z w un p) := by
            intro y hy
            have f1 : fr [20] [] w (sJ (sJ s 5 (vp_updL (s.2.2 5) 0 (s.2.2 5 0 + lN (P u 0)))) 5 (vp_updL (vp_updL (s.2.2 5) 0 (s.2.2 5 0 + lN (P u 0))) 1 (s.2.2 5 1 + lN (P u 1)))) := fr_J (fr_J x1)
            have g5 : (sJ (sJ s 5 (vp_updL (s.2.2 5) 0 (s.2.2 5 0 + lN (P u 0)))) 5 (vp_updL (vp_updL (s.2.2 5) 0 (s.2.2 5 0 + lN (P u 0))) 1 (s.2.2 5 1 + lN (P u 1)))).2.2 5 = vp_updL (vp_updL (s.2.2 5) 0 (s.2.2 5 0 + lN (P u 0))) 1 (s.2.2 5 1 + lN (P u 1)) := sJ_same2 _ _ _
            have g9 : (sJ (sJ s 5 (vp_updL (s.2.2 5) 0 (s.2.2 5 0 + lN (P u 0)))) 5 (vp_updL (vp_updL (s.2.2 5) 0 (s.2.2 5 0 + lN (P u 0))) 1 (s.2.2 5 1 + lN (P u 1)))).2.1 9 = w.2.1 9 := e9
            generalize sJ (sJ s 5 (vp_updL (s.2.2 5) 0 (s.2.2 5 0 + lN (P u 0)))) 5 (vp_updL (vp_updL (s.2.2 5) 0 (s.2.2 5 0 + lN (P u 0))) 1 (s.2.2 5 1 + lN (P u 1))) = s2 at *
            have isb : ∀ (b : Bool) (t : St), f_X12_is t (b2 b) = some ((if b then 1 else 0 : Int64), t) := by
              intro b t; cases b <;> rfl
            have er : w.2.1 9 u = b2 (rl w u) := by
              unfold rl
              rcases (h.2.2.1.1 u hu).2.2 with e | e
              · rw [e, decide_eq_false (by decide)]; rfl
              · rw [e, decide_eq_true rfl]; rfl
            unfold F_X12_givenBy_141 F_X12_givenBy_190
            rw [oA_in _ i2, oL_s, oA_in _ i3, oA_in _ hin, nI_clamp (show u < 2 ^ 31 by omega), sJ_a, g9, er, isb]
            simp only [oC_s, oL_s, oA_in _ i3, oA_in _ i4, oA_in _ i5, k2, k3, k4', k5, sJ_j, ↓reduceIte]
            rw [p_isHead h (fr_J (fr_J f1)) (by omega)]
            simp only [oC_s]
            rw [isb]
            simp only [oC_s, nI_1]
            refine K' _ ⟨fr_J (fr_J (fr_J (fr_J f1))), ?_⟩
            intro j hj
            rw [nm_s _ _ _ _ _ _ hb]
            rw [sJ_same2]
            simp only [sJ_j, ↓reduceIte, g5]
            have hx0 := x2 0 (by omega)
            have hx1 := x2 1 (by omega)
            have hx2 := x2 2 (by omega)
            have hx3 := x2 3 (by omega)
            have hx4 := x2 4 (by omega)
            have hx5 := x2 5 (by omega)
            rcases (show j = 0 ∨ j = 1 ∨ j = 2 ∨ j = 3 ∨ j = 4 ∨ j = 5 by omega) with rfl | rfl | rfl | rfl | rfl | rfl
            · simp only [vp_updL, Nat.reduceEqDiff, ↓reduceIte, hx0]; rfl
            · simp only [vp_updL, Nat.reduceEqDiff, ↓reduceIte, hx1]; rfl
            · simp only [vp_updL, Nat.reduceEqDiff, ↓reduceIte, hx2, hy]
            · simp only [vp_updL, Nat.reduceEqDiff, ↓reduceIte, hx3]; rfl
            · simp only [vp_updL, Nat.reduceEqDiff, ↓reduceIte, hx4]; rfl
            · simp only [vp_updL, Nat.reduceEqDiff, ↓reduceIte, hx5]; rfl
          have v1e : ∀ y : Int64, vp_updL (s.2.2 5) 0 y 1 = s.2.2 5 1 := fun y => if_neg (by decide)
          have v2e : ∀ y y' : Int64, vp_updL (vp_updL (s.2.2 5) 0 y) 1 y' 2 = s.2.2 5 2 := fun y y' => (if_neg (by decide)).trans (if_neg (by decide))
          simp only [oA_in _ i0, oA_in _ i1, oA_in _ i2, oA_in _ hin, m2, q1, oA_in _ j0, oA_in _ j1, k0, k1, k2, nI_clamp (show 2 * u < 2 ^ 31 by omega), nI_clamp (show 2 * u + 1 < 2 ^ 31 by omega), nI_clamp (show u < 2 ^ 31 by omega), sJ_a, a0, a1, sJ_j, ↓reduceIte, v1e, v2e, e8]
          unfold inc at go
          simp only [Nat.reduceEqDiff, ↓reduceIte] at go
          by_cases c0 : w.2.1 8 u = 0
          · rw [if_pos c0]; exact go _ (by rw [if_pos c0])
          · rw [if_neg c0]
            by_cases c1 : w.2.1 8 u = (1 : Int32)
            · rw [if_pos c1]; exact go _ (by rw [if_neg c0, if_pos c1])
            · rw [if_neg c1]; exact go _ (by rw [if_neg c0, if_neg c1])
    · rintro k' i q' hi ⟨v1, v2⟩ K'
      show ∃ r q'', F_X12_givenBy_15_b _ (F_X12_givenBy_15 (F_X12_givenBy_4 k) k') q' (nI un) x (nI v) (nI i) = _ ∧ _
      unfold F_X12_givenBy_15_b
      have c6 : ¬ (6 : Int32) ≤ nI i := nI_ge (b := 6) hi (by omega)
      rw [if_neg c6, oA_in _ (vp_in_nI hi (by omega)), oL_s, oL_s, nI_clamp (by omega), nI_1]
      refine K' _ ⟨fr_J v1, fun j hj => ?_⟩
      rw [sJ_same2]
      unfold vp_updL
      by_cases e : j = i
      · rw [if_pos e]
      · rw [if_neg e]; exact v2 j (by omega)
end GVB
theorem ju_of {z w : St} {W H : Nat} {P : Nat → Nat → Nat} (h : IvA z w W H) (pC : plC z P (W * H)) (pR : plR w P (W * H)) (bd : ∀ v s, s < 2 → P v s ≤ 1249) : ∃ m c, juOK z w W H m c P := by
  obtain ⟨_, hL, hV, ⟨c, hc, c1, c2, ch, hC⟩, _, _, _, _, _, _, ⟨_, _, _, _, m, hm, m1, m2, m3, m4⟩⟩ := h
  refine ⟨m, c, geo_C hL, geo_R hL, hV, pC, pR, bd, ⟨hm, m1, m2, m4⟩, hc, c2, ch, fun i hi => ?_⟩
  obtain ⟨k, hk, ok⟩ := hC i hi
  exact ok.2.2.1 0 (by omega)
theorem q_given {z w : St} (h : Inv z w) (x : Int32) : Ok (f_X11_given z x) (f_X12_given w x) := by
  have h' := h
  obtain ⟨W, H, hA⟩ := h
  unfold f_X11_given F_X11_given_0 f_X12_given F_X12_given_0
  rcases c_day z (sI w 0 0) x with ⟨d1, d2⟩ | ⟨k, hk, rfl, d1, d2⟩
  · simp only [d1, d2, oC_s, oL_s, ↓reduceIte]
    exact ⟨-1, _, _, rfl, rfl, Inv_0 h'⟩
  simp only [d1, d2, oC_s, oL_s, i10, ↓reduceIte]
  obtain ⟨P, z', w', t1, t2, hA', pC, pR, bd⟩ := cen (IvA_0 hA) (nI k)
  obtain ⟨m, c, ju⟩ := ju_of hA' pC pR bd
  obtain ⟨⟨un, hun, u1, u2⟩, _⟩ := hA'.2.2.2.2.2.2.2.2.2.2
  have i0 : vp_in (0 : Int32) 12 := by unfold vp_in; decide
  have u2' : w'.2.1 3 (Int32.toNatClampNeg (0 : Int32)) = nI un := u2
  rw [t1, t2]
  simp only [oC_s, oA_in _ i0, u1, u2']
  obtain ⟨r, s, g1, g2, g3⟩ := p_award ju hun fr_0
  obtain ⟨r', q, k1, k2, k3⟩ := p_givenBy ju hun fr_0
  have e : r = r' := by
    apply b_ext
    intro v _
    rw [Bool.eq_iff_iff, g3 v, k3 v]
  rw [g1, k1, e]
  exact ⟨_, _, _, rfl, rfl, IvA_i (IvA_q hA' (fr_m g2 (by decide) (by decide)) (fr_m k2 (by decide) (by decide)))⟩
theorem q_turned {z w : St} (h : Inv z w) (x1 x2 : Int32) : Ok (f_X11_turned z x1 x2) (f_X12_turned w x1 x2) := by
  have h' := h
  obtain ⟨W, H, hA⟩ := h
  unfold f_X11_turned F_X11_turned_0 F_X11_turned_16 f_X12_turned F_X12_turned_0 F_X12_turned_21
  simp only [oL_s]
  by_cases a1 : x1 < 0
  · rw [if_pos a1, if_pos a1]; exact ⟨-1, _, _, rfl, rfl, Inv_0 h'⟩
  rw [if_neg a1, if_neg a1]
  by_cases a2 : (2 : Int32) < x1
  · rw [if_pos a2, if_pos a2]; exact ⟨-1, _, _, rfl, rfl, Inv_0 h'⟩
  rw [if_neg a2, if_neg a2]
  obtain ⟨uq, huq0, rfl⟩ := nI_of a1
  have huq : uq ≤ 2 := by rcases Nat.lt_or_ge 2 uq with q | q; exact absurd (nI_lt q huq0) a2; exact q
  rcases c_day z (sI w 0 0) x2 with ⟨d1, d2⟩ | ⟨k, hk, rfl, d1, d2⟩
  · simp only [d1, d2, oC_s, oL_s, ↓reduceIte]
    exact ⟨-1, _, _, rfl, rfl, Inv_0 h'⟩
  simp only [d1, d2, oC_s, oL_s, i10, ↓reduceIte]
  obtain ⟨P, z', w', t1, t2, hA', pC, pR, bd⟩ := cen (IvA_0 hA) (nI k)
  obtain ⟨m, c, ju⟩ := ju_of hA' pC pR bd
  have hs := sz25 ju.1.1
  obtain ⟨⟨un, hun, u1, u2⟩, _⟩ := hA'.2.2.2.2.2.2.2.2.2.2
  have i0 : vp_in (0 : Int32) 12 := by unfold vp_in; decide
  have u2' : w'.2.1 3 (Int32.toNatClampNeg (0 : Int32)) = nI un := u2
  rw [t1, t2]
  simp only [oC_s, oA_in _ i0, u2']
  obtain ⟨r1, s1, g1, g2, g3⟩ := p_award ju huq fr_0
  obtain ⟨r2, s2, e1, e2, e3⟩ := p_award ju hun g2
  obtain ⟨r3, q3, k1, k2, k3⟩ := p_givenBy ju hun fr_0
  obtain ⟨r4, q4, l1, l2, l3⟩ := p_givenBy ju huq k2
  have s13 : s1.1 13 = nI un := (g2.1 13 (by decide)).trans u1
  have ea : r2 = r3 := by
    apply b_ext
    intro v _
    rw [Bool.eq_iff_iff, e3 v, k3 v]
  have eb : r1 = r4 := by
    apply b_ext
    intro v _
    rw [Bool.eq_iff_iff, g3 v, l3 v]
  rw [g1, k1]
  simp only [oC_s]
  rw [l1, s13, e1]
  simp only [oC_s, p_bitCount, p_bits]
  have bx : bl (r3 ^^^ r4) (W * H) := by
    intro i hi
    have n3 : bt r3 i = false := by
      cases hb : bt r3 i with
      | false => rfl
      | true => have := ((k3 i).mp hb).1; omega
    have n4 : bt r4 i = false := by
      cases hb : bt r4 i with
      | false => rfl
      | true => have := ((l3 i).mp hb).1; omega
    rw [b_xor, n3, n4]; rfl
  have ex : r1 ^^^ r2 = r3 ^^^ r4 := by
    rw [ea, eb]
    apply b_ext
    intro v _
    rw [b_xor, b_xor, Bool.xor_comm]
  rw [ex, bits_pc hs.2 bx]
  exact ⟨_, _, _, rfl, rfl, IvA_i (IvA_q hA' (fr_m e2 (by decide) (by decide)) (fr_m l2 (by decide) (by decide)))⟩
