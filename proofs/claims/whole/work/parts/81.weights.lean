/-! PURE: weights under Inv -/
theorem p_weigh {z w : St} {W H : Nat} {P : Nat → Nat → Nat} (hG : geoC z W H) (hV : ivVil z w (W * H)) (hp : plC z P (W * H)) (x : Int32) : ∃ z', f_X10_weigh z x = some (rsF (gvW (wA P) (wB w) (wC' W (W * H) x) x (W * H)) 1000 0, z') ∧ fr [] [32, 33, 34] z z' := by
  have hs := sz25 hG.1
  unfold f_X10_weigh F_X10_weigh_0
  rw [oL_s]
  have i0 : vp_in (0 : Int32) 2 := by unfold vp_in; decide
  have i1 : vp_in (1 : Int32) 2 := by unfold vp_in; decide
  refine loop_i (fun k i (s : St) => ∃ z', F_X10_weigh_2 k s x (nI i) = some (rsF (gvW (wA P) (wB w) (wC' W (W * H) x) x (W * H)) 1000 0, z') ∧ fr [] [32, 33, 34] z z') (fun i s => fr [] [32, 33, 34] z s ∧ ∀ v, v < i → s.2.1 32 v = wA P v ∧ s.2.1 33 v = wB w v ∧ s.2.1 34 v = wC' W (W * H) x v) (W * H) ?_ ?_ 100000 0 z (Nat.zero_le _) (by omega) ⟨fr_0, fun v hv => absurd hv (Nat.not_lt_zero v)⟩
  · rintro k s ⟨f, hf⟩
    have e21 : s.1 21 = nI (W * H) := (f.1 21 (by decide)).trans hG.2.2.1
    refine ⟨s, ?_, f⟩
    show F_X10_weigh_2_b _ s x (nI (W * H)) = _
    unfold F_X10_weigh_2_b
    rw [e21, if_pos (Int32.le_refl _), oL_s]
    exact weigh_C hs.2 e21 hf x
  · rintro k i s hi ⟨f, hf⟩ K
    have gs : geoC s W H := geo_Cf hG f (by decide) (by decide) (by decide) (by decide) (by decide)
    have hin : vp_in (nI i) 25 := vp_in_nI (by omega) (by omega)
    have e26 : ∀ t, t < 2 → s.2.1 (26 + t) i = nI (P i t) := fun t ht => by
      rw [f.2 (26 + t) (by rcases (show t = 0 ∨ t = 1 by omega) with rfl | rfl <;> decide)]; exact hp t ht i hi
    have a0 : s.2.1 (26 + Int32.toNatClampNeg (0 : Int32)) i = nI (P i 0) := e26 0 (by omega)
    have a1 : s.2.1 (26 + Int32.toNatClampNeg (1 : Int32)) i = nI (P i 1) := e26 1 (by omega)
    have r0 : ∀ c : Option (Int32 × St), oX (26 + Int32.toNatClampNeg (0 : Int32)) (nI i) c = c := fun c => row26 (s := 0) (by omega) (by omega) c
    have r1 : ∀ c : Option (Int32 × St), oX (26 + Int32.toNatClampNeg (1 : Int32)) (nI i) c = c := fun c => row26 (s := 1) (by omega) (by omega) c
    have e8 : s.2.1 8 = z.2.1 8 := f.2 8 (by decide)
    have c0 : (s.2.1 8 (Int32.toNatClampNeg (0 : Int32)) >>> (nI i &&& 31)) &&& (1 : Int32) = nI (b1 (decide (w.2.1 8 i = nI 0))) := by
      show (s.2.1 8 0 >>> (nI i &&& 31)) &&& (1 : Int32) = _
      rw [b_testN _ (by omega), e8, hV.2.2.1 0 (by omega) i, show decide (i < W * H ∧ w.2.1 8 i = nI 0) = decide (w.2.1 8 i = nI 0) from decide_eq_decide.mpr ⟨fun q => q.2, fun q => ⟨hi, q⟩⟩]
    have c1 : (s.2.1 8 (Int32.toNatClampNeg (1 : Int32)) >>> (nI i &&& 31)) &&& (1 : Int32) = nI (b1 (decide (w.2.1 8 i = nI 1))) := by
      show (s.2.1 8 1 >>> (nI i &&& 31)) &&& (1 : Int32) = _
      rw [b_testN _ (by omega), e8, hV.2.2.1 1 (by omega) i, show decide (i < W * H ∧ w.2.1 8 i = nI 1) = decide (w.2.1 8 i = nI 1) from decide_eq_decide.mpr ⟨fun q => q.2, fun q => ⟨hi, q⟩⟩]
    have eB : (10 : Int32) * (nI (b1 (decide (w.2.1 8 i = nI 0))) - nI (b1 (decide (w.2.1 8 i = nI 1)))) = wB w i := by
      unfold wB
      rcases (hV.1 i hi).2.1 with e | e | e
      · rw [e]; decide
      · rw [e]; decide
      · rw [e]; decide
    show ∃ z', F_X10_weigh_2_b (F_X10_weigh_2 k) s x (nI i) = _ ∧ _
    unfold F_X10_weigh_2_b
    rw [gs.2.2.1, if_neg (nI_ge hi (by omega)), oL_s, shl1 (show i < 32 by omega), p_beside gs (bl_pow hi (by omega))]
    simp only [oC_s, oL_s, oA_in _ i0, oA_in _ i1, oA_in _ hin, r0, r1, p_bitCount, nI_clamp (show i < 2 ^ 31 by omega), nI_1, sA_a, Nat.reduceEqDiff, ↓reduceIte, a0, a1, c0, c1, eB]
    have eC : (10 : Int32) * (((2 : Int32) * nI (pc (arnd W (W * H) (nI (2 ^ i)) &&& x))) - nI (pc (arnd W (W * H) (nI (2 ^ i))))) = wC' W (W * H) x i := by
      unfold wC'
      rw [pc_two (a := arnd W (W * H) (nI (2 ^ i))) (x := x), ← nI_add, i_two]
    rw [eC]
    refine K _ ⟨fr_A (fr_A (fr_A f (by decide)) (by decide)) (by decide), ?_⟩
    intro v hv
    show upd (s.2.1 32) i _ v = _ ∧ upd (s.2.1 33) i _ v = _ ∧ upd (s.2.1 34) i _ v = _
    by_cases e : v = i
    · subst e; rw [pk_us, pk_us, pk_us]; exact ⟨rfl, rfl, rfl⟩
    · rw [pk_un e, pk_un e, pk_un e]; exact hf v (by omega)
theorem p_weighR {z w : St} {W H : Nat} {P : Nat → Nat → Nat} (hG : geoR w W H) (hV : ivVil z w (W * H)) (hp : plR w P (W * H)) (x : Int32) : ∃ w', F_X12_weights_29 100000 w x 0 = some (rsF (gvW (wA P) (wB w) (wC' W (W * H) x) x (W * H)) 1000 0, w') ∧ fr [] [25] w w' := by
  have hs := sz25 hG.1
  refine loop_i (fun k i (s : St) => ∃ w', F_X12_weights_29 k s x (nI i) = some (rsF (gvW (wA P) (wB w) (wC' W (W * H) x) x (W * H)) 1000 0, w') ∧ fr [] [25] w w') (fun i s => fr [] [25] w s ∧ ∀ v, v < i → s.2.1 25 (3 * v) = wA P v ∧ s.2.1 25 (3 * v + 1) = wB w v ∧ s.2.1 25 (3 * v + 2) = wC' W (W * H) x v) (W * H) ?_ ?_ 100000 0 w (Nat.zero_le _) (by omega) ⟨fr_0, fun v hv => absurd hv (Nat.not_lt_zero v)⟩
  · rintro k s ⟨f, hf⟩
    have gs : geoR s W H := geo_Rf hG f (by decide) (by decide)
    refine ⟨s, ?_, f⟩
    show F_X12_weights_29_b _ s x (nI (W * H)) = _
    unfold F_X12_weights_29_b
    simp only [p_cells, oC_s, oL_s, gs.2.1, gs.2.2, mulN]
    rw [if_pos (Int32.le_refl _)]
    exact weigh_R gs hf x
  · rintro k i s hi ⟨f, hf⟩ K
    have gs : geoR s W H := geo_Rf hG f (by decide) (by decide)
    have hin : vp_in (nI i) 25 := vp_in_nI (by omega) (by omega)
    have m2 : (2 : Int32) * nI i = nI (2 * i) := by rw [show (2 : Int32) = nI 2 from rfl, mulN]
    have m3 : (3 : Int32) * nI i = nI (3 * i) := by rw [show (3 : Int32) = nI 3 from rfl, mulN]
    have q1 : nI (2 * i) + (1 : Int32) = nI (2 * i + 1) := nI_1 _
    have q2 : nI (3 * i) + (1 : Int32) = nI (3 * i + 1) := nI_1 _
    have q3 : nI (3 * i) + (2 : Int32) = nI (3 * i + 2) := by rw [show (2 : Int32) = nI 2 from rfl, nI_add]
    have j0 : vp_in (nI (2 * i)) 50 := vp_in_nI (by omega) (by omega)
    have j1 : vp_in (nI (2 * i + 1)) 50 := vp_in_nI (by omega) (by omega)
    have j2 : vp_in (nI (3 * i)) 75 := vp_in_nI (by omega) (by omega)
    have j3 : vp_in (nI (3 * i + 1)) 75 := vp_in_nI (by omega) (by omega)
    have j4 : vp_in (nI (3 * i + 2)) 75 := vp_in_nI (by omega) (by omega)
    have a0 : s.2.1 24 (2 * i) = nI (P i 0) := by rw [f.2 24 (by decide)]; exact hp 0 (by omega) i hi
    have a1 : s.2.1 24 (2 * i + 1) = nI (P i 1) := by rw [f.2 24 (by decide)]; exact hp 1 (by omega) i hi
    have e8 : s.2.1 8 = w.2.1 8 := f.2 8 (by decide)
    have bA := bl_arnd (x := nI (2 ^ i)) hG.1
    have p1 : fb_ct (bt (arnd W (W * H) (nI (2 ^ i)) &&& x)) 25 = pc (arnd W (W * H) (nI (2 ^ i)) &&& x) := bits_pc hs.2 (fun u hu => by rw [b_and, bA u hu]; rfl)
    have p2 : fb_ct (bt (arnd W (W * H) (nI (2 ^ i)) &&& (x ^^^ (-1 : Int32)))) 25 = pc (arnd W (W * H) (nI (2 ^ i)) &&& (x ^^^ (-1 : Int32))) := bits_pc hs.2 (fun u hu => by rw [b_and, bA u hu]; rfl)
    have go : ∀ y, y = wB w i → ∃ w', F_X12_weights_112 (F_X12_weights_29 k) (sA s 25 (upd (s.2.1 25) (3 * i) (nI (P i 0) - nI (P i 1)))) x (nI i) (arnd W (W * H) (nI (2 ^ i))) y (nI (3 * i + 1)) = some (rsF (gvW (wA P) (wB w) (wC' W (W * H) x) x (W * H)) 1000 0, w') ∧ fr [] [25] w w' := by
      intro y hy
      unfold F_X12_weights_112
      simp only [oA_in _ j3, oA_in _ j4, nI_clamp (show 3 * i + 1 < 2 ^ 31 by omega), nI_clamp (show 3 * i + 2 < 2 ^ 31 by omega), oL_s, p_bits, oC_s, m3, q3, nI_1, p1, p2, sA_sA, sA_eq]
      refine K _ ⟨fr_A f (by decide), ?_⟩
      intro v hv
      show upd (upd (upd (s.2.1 25) (3 * i) _) (3 * i + 1) y) (3 * i + 2) _ (3 * v) = _ ∧ upd (upd (upd (s.2.1 25) (3 * i) _) (3 * i + 1) y) (3 * i + 2) _ (3 * v + 1) = _ ∧ upd (upd (upd (s.2.1 25) (3 * i) _) (3 * i + 1) y) (3 * i + 2) _ (3 * v + 2) = _
      by_cases e : v = i
      · subst e
        rw [pk_un (by omega), pk_un (by omega), pk_us, pk_un (by omega), pk_us, pk_us]
        exact ⟨rfl, hy, rfl⟩
      · rw [pk_un (by omega), pk_un (by omega), pk_un (by omega), pk_un (by omega), pk_un (by omega), pk_un (by omega), pk_un (by omega), pk_un (by omega), pk_un (by omega)]
        exact hf v (by omega)
    show ∃ w', F_X12_weights_29_b (F_X12_weights_29 k) s x (nI i) = _ ∧ _
    unfold F_X12_weights_29_b
    simp only [p_cells, oC_s, oL_s, gs.2.1, gs.2.2, mulN, shl1 (show i < 32 by omega), p_around gs, m2, m3, q1, q2, oA_in _ j0, oA_in _ j1, oA_in _ j2, oA_in _ hin, nI_clamp (show 2 * i < 2 ^ 31 by omega), nI_clamp (show 2 * i + 1 < 2 ^ 31 by omega), nI_clamp (show 3 * i < 2 ^ 31 by omega), nI_clamp (show i < 2 ^ 31 by omega), a0, a1, sA_a, Nat.reduceEqDiff, ↓reduceIte, e8]
    rw [if_neg (nI_ge hi (by omega))]
    unfold wB at go
    by_cases c0 : w.2.1 8 i = 0
    · rw [if_pos c0]; exact go _ (by rw [if_pos c0])
    · rw [if_neg c0]
      by_cases c1 : w.2.1 8 i = (1 : Int32)
      · rw [if_pos c1]; exact go _ (by rw [if_neg c0, if_pos c1])
      · rw [if_neg c1]; exact go _ (by rw [if_neg c0, if_neg c1])
theorem q_weights {z w : St} (h : Inv z w) (x1 x2 : Int32) : Ok (f_X11_weights z x1 x2) (f_X12_weights w x1 x2) := by
  have h' := h
  obtain ⟨W, H, hA⟩ := h
  have hL := hA.2.1
  unfold f_X11_weights F_X11_weights_0 F_X11_weights_18 f_X12_weights F_X12_weights_0 F_X12_weights_20
  rcases c_line (w := sI w 0 0) hL x1 with ⟨g1, g2⟩ | ⟨L, hl, rfl, g1, g2⟩
  · simp only [oL_s, g1, g2, oC_s, ↓reduceIte]
    exact ⟨-1, _, _, rfl, rfl, Inv_0 h'⟩
  simp only [oL_s, g1, g2, oC_s, i10, ↓reduceIte]
  rcases c_day z (sI w 0 0) x2 with ⟨d1, d2⟩ | ⟨k, hk, rfl, d1, d2⟩
  · simp only [d1, d2, oC_s, oL_s, ↓reduceIte]
    exact ⟨-1, _, _, rfl, rfl, Inv_0 h'⟩
  simp only [d1, d2, oC_s, oL_s, i10, ↓reduceIte]
  obtain ⟨P, z', w', t1, t2, hA', pC, pR, bd⟩ := cen (IvA_0 hA) (nI k)
  rw [t1, t2]
  simp only [oC_s]
  obtain ⟨z2, u1, f1⟩ := p_weigh (geo_C hA'.2.1) hA'.2.2.1 pC (nI L)
  obtain ⟨w2, u2, f2⟩ := p_weighR (geo_R hA'.2.1) hA'.2.2.1 pR (nI L)
  rw [u1, u2, oC_s]
  exact ⟨_, _, _, rfl, rfl, IvA_i (IvA_q hA' (fr_m f1 (by decide) (by decide)) (fr_m f2 (by decide) (by decide)))⟩
