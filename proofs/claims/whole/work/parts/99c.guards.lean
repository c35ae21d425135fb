/-! PURE: guards: the reference; q_guards -/
theorem gdV_w {w s : St} (h : s.2.1 15 = w.2.1 15) (g : Int32) (c : Nat) : gdV s g c = gdV w g c := by
  have : gdF s g = gdF w g := by
    funext i a
    unfold gdF
    rw [h]
  unfold gdV
  rw [this]
theorem p_guardsR {w : St} {W H c dn a b D m : Nat} {P : Nat → Nat → Nat} {Gs : Nat → Nat → Option Nat} (hG : geoR w W H) (hc : c ≤ 8) (e26 : w.1 26 = nI c) (hk : ∀ i, i < c → ∃ v, v < W * H ∧ w.2.1 15 i = nI v) (hdn : dn ≤ 12) (e25 : w.1 25 = nI dn) (hl : ∀ i, i < dn → bl (w.2.1 13 i) (W * H)) (hgo : ∀ i, i < dn → goP W H (w.2.1 13 i) (Gs i)) (h24 : ∀ k, k < 2 * (W * H) → w.2.1 24 k = nI (pOne P k)) (ea : w.2.1 3 4 = nI a) (eb : w.2.1 3 5 = nI b) (ha : a ≤ 100) (hb : b ≤ 100) (hS : fb_sm (pOne P) (2 * (W * H)) ≤ 62450) (hD : D ≤ 20) (hm : m ≤ 8) (x2 x5 : Int32) :
    ∃ g w', isB (fun g => mxN (wsF w (W * H) c a b D P Gs x2 (nI g)) dn) (fun g => pc (nI g)) (2 ^ c) m g ∧ F_X12_guards_77 100000 w (nI m) x2 (nI D) x5 (-1) 0 0 = some (if x5 = 0 then nI g else nI (mxN (wsF w (W * H) c a b D P Gs x2 (nI g)) dn), w') ∧ fr [30] [27, 28, 29] w w' := by
  have hg := hG.1
  have hs := sz25 hg
  have hC : 2 ^ c ≤ 256 := Nat.pow_le_pow_right (n := 2) (by omega) hc
  have hC0 : 1 ≤ 2 ^ c := Nat.one_le_two_pow
  have gq : ∀ s, fr [30] [27, 28, 29] w s → geoR s W H := fun s h => ⟨hg, by rw [h.1 22 (by decide)]; exact hG.2.1, by rw [h.1 23 (by decide)]; exact hG.2.2⟩
  have f62 : ∀ g, mxN (wsF w (W * H) c a b D P Gs x2 g) dn ≤ 62450 := by
    intro g
    refine mx_le (fun i hi => ?_)
    unfold wsF lsN
    split
    · have := dys_ok (x := w.2.1 13 i) (P := pOne P) ha hb (gd := gdV w g c) (go_lt (hgo i hi)) D
      omega
    · omega
  generalize hf : (fun g => mxN (wsF w (W * H) c a b D P Gs x2 (nI g)) dn) = f
  generalize hpp : (fun g => pc (nI g)) = p
  have fe : ∀ g, mxN (wsF w (W * H) c a b D P Gs x2 (nI g)) dn = f g := fun g => by rw [← hf]
  have pe : ∀ g, pc (nI g) = p g := fun g => by rw [← hpp]
  have fb : ∀ g, f g ≤ 62450 := fun g => by rw [← fe]; exact f62 _
  have pcl : ∀ g, g < 2 ^ c → p g ≤ c := fun g hg => by rw [← pe]; exact pc_bl (bl_of (by omega) hg)
  have pb : ∀ s g, g < 2 ^ c → f_X12_bits s (nI g) = some (nI (p g), s) := fun s g hg => by rw [p_bits, bits_pc (n := c) (by omega) (bl_of (by omega) hg), pe]
  simp only [fe]
  refine loop_i (fun k j (q : St × Int32 × Int32) => ∃ g w', isB f p (2 ^ c) m g ∧ F_X12_guards_77 k q.1 (nI m) x2 (nI D) x5 q.2.1 q.2.2 (nI j) = some (if x5 = 0 then nI g else nI (f g), w') ∧ fr [30] [27, 28, 29] w w') (fun j q => fr [30] [27, 28, 29] w q.1 ∧ ((q.2.1 = -1 ∧ ∀ h, h < j → ¬ p h ≤ m) ∨ ∃ g, g < j ∧ p g ≤ m ∧ q.2.1 = nI g ∧ q.2.2 = nI (f g) ∧ ∀ h, h < j → p h ≤ m → btr f p g h)) (2 ^ c) ?_ ?_ 100000 0 (w, -1, 0) (Nat.zero_le _) (by omega) ⟨fr_0, Or.inl ⟨rfl, fun h hh => absurd hh (Nat.not_lt_zero h)⟩⟩
  · rintro k ⟨s, y6, y7⟩ ⟨q, hI⟩
    have p0 : p 0 = 0 := by rw [← pe]; decide
    show ∃ g w', _ ∧ F_X12_guards_77_b _ s (nI m) x2 (nI D) x5 y6 y7 (nI (2 ^ c)) = _ ∧ _
    rcases hI with ⟨_, no⟩ | ⟨g, g1, g2, g3, g4, hmin⟩
    · exact absurd (by omega) (no 0 (by omega))
    · have g3' : y6 = nI g := g3
      have g4' : y7 = nI (f g) := g4
      subst g3' g4'
      refine ⟨g, s, ⟨g1, g2, hmin⟩, ?_, q⟩
      unfold F_X12_guards_77_b F_X12_guards_224
      rw [q.1 26 (by decide), e26, shl1 (by omega), if_pos (Int32.le_refl _)]
      split <;> rfl
  · rintro k j ⟨s, y6, y7⟩ hj ⟨q, hI⟩ K
    have hI' : (y6 = -1 ∧ ∀ h, h < j → ¬ p h ≤ m) ∨ ∃ g, g < j ∧ p g ≤ m ∧ y6 = nI g ∧ y7 = nI (f g) ∧ ∀ h, h < j → p h ≤ m → btr f p g h := hI
    clear hI
    have q' : fr [30] [27, 28, 29] w s := q
    clear q
    show ∃ g w', _ ∧ F_X12_guards_77_b (F_X12_guards_77 k) s (nI m) x2 (nI D) x5 y6 y7 (nI j) = _ ∧ _
    have pj := pcl j hj
    unfold F_X12_guards_77_b
    rw [q'.1 26 (by decide), e26, shl1 (by omega), if_neg (nI_ge hj (by omega)), pb s j hj]
    simp only [oC_s, oL_s]
    by_cases cm : p j ≤ m
    · rw [if_pos (nI_le cm (by omega))]
      have hF : mxN (wsF w (W * H) c a b D P Gs x2 (nI j)) dn = f j := fe j
      generalize hFF : wsF w (W * H) c a b D P Gs x2 (nI j) = F at hF
      have Fb : ∀ i, i ≤ dn → mxN F i ≤ 62450 := fun i hi => by
        have := mx_mono F hi
        have := fb j
        omega
      refine loop_i (fun k1 i (r : St × Int32) => ∃ g w', isB f p (2 ^ c) m g ∧ F_X12_guards_106 (F_X12_guards_77 k) k1 r.1 (nI m) x2 (nI D) x5 y6 y7 (nI j) r.2 (nI i) = some (if x5 = 0 then nI g else nI (f g), w') ∧ fr [30] [27, 28, 29] w w') (fun i r => fr [30] [27, 28, 29] w r.1 ∧ r.2 = nI (mxN F i)) dn ?_ ?_ 100000 0 (s, 0) (Nat.zero_le _) (by omega) ⟨q', rfl⟩
      · rintro k1 ⟨s, y⟩ ⟨q1, ey⟩
        have ey' : y = nI (f j) := by rw [← hF]; exact ey
        subst ey'
        have q' : fr [30] [27, 28, 29] w s := q1
        show ∃ g w', _ ∧ F_X12_guards_106_b _ _ s (nI m) x2 (nI D) x5 y6 y7 (nI j) (nI (f j)) (nI dn) = _ ∧ _
        unfold F_X12_guards_106_b F_X12_guards_198 F_X12_guards_206
        rw [q'.1 25 (by decide), e25, if_pos (Int32.le_refl _)]
        simp only [oL_s, nI_1]
        have fj := fb j
        have take : (∀ h, h < j → p h ≤ m → btr f p j h) → ∃ g w', isB f p (2 ^ c) m g ∧ F_X12_guards_77 k s (nI m) x2 (nI D) x5 (nI j) (nI (f j)) (nI (j + 1)) = some (if x5 = 0 then nI g else nI (f g), w') ∧ fr [30] [27, 28, 29] w w' := fun hh => K (s, nI j, nI (f j)) ⟨q', Or.inr ⟨j, by omega, cm, rfl, rfl, fun h h1 h2 => by
          by_cases e : h = j
          · subst e; unfold btr; omega
          · exact hh h (by omega) h2⟩⟩
        rcases hI' with ⟨e6, no⟩ | ⟨g, g1, g2, g3, g4, hmin⟩
        · rw [if_pos e6]
          exact take (fun h h1 h2 => absurd h2 (no h h1))
        · subst g3 g4
          have fg := fb g
          rw [if_neg (nI_nm1 (by omega))]
          have keep : btr f p g j → ∃ g' w', isB f p (2 ^ c) m g' ∧ F_X12_guards_77 k s (nI m) x2 (nI D) x5 (nI g) (nI (f g)) (nI (j + 1)) = some (if x5 = 0 then nI g' else nI (f g'), w') ∧ fr [30] [27, 28, 29] w w' := fun hh => K (s, nI g, nI (f g)) ⟨q', Or.inr ⟨g, by omega, g2, rfl, rfl, fun h h1 h2 => by
            by_cases e : h = j
            · subst e; exact hh
            · exact hmin h (by omega) h2⟩⟩
          by_cases c1 : f g < f j
          · rw [if_pos (nI_lt c1 (by omega))]
            exact keep (Or.inl c1)
          rw [if_neg (fun q => c1 ((nI_ltI (by omega) (by omega)).mp q))]
          by_cases c2 : f j = f g
          · have e2 : nI (f j) = nI (f g) := by rw [c2]
            rw [if_pos e2, pb s j hj, oC_s, pb s g (by omega), oC_s]
            have pg := pcl g (by omega)
            by_cases c3 : p j < p g
            · rw [if_pos (nI_lt c3 (by omega))]
              refine take (fun h h1 h2 => ?_)
              have := hmin h h1 h2
              unfold btr at this ⊢
              omega
            · rw [if_neg (fun q => c3 ((nI_ltI (by omega) (by omega)).mp q))]
              refine keep ?_
              unfold btr
              omega
          · rw [if_neg (fun q => c2 ((nI_eq (by omega) (by omega)).mp q))]
            refine take (fun h h1 h2 => ?_)
            have := hmin h h1 h2
            unfold btr at this ⊢
            omega
      · rintro k1 i ⟨s, y⟩ hi ⟨q1, ey⟩ K1
        have ey' : y = nI (mxN F i) := ey
        subst ey'
        have q' : fr [30] [27, 28, 29] w s := q1
        show ∃ g w', _ ∧ F_X12_guards_106_b _ (F_X12_guards_106 (F_X12_guards_77 k) k1) s (nI m) x2 (nI D) x5 y6 y7 (nI j) (nI (mxN F i)) (nI i) = _ ∧ _
        have nxt : mxN F (i + 1) = max (mxN F i) (F i) := rfl
        have hin : vp_in (nI i) 12 := vp_in_nI (by omega) (by omega)
        unfold F_X12_guards_106_b F_X12_guards_156
        rw [q'.1 25 (by decide), e25, if_neg (nI_ge hi (by omega))]
        cases hbx : bt x2 i
        · rw [if_pos ((b_test0 x2 (by omega)).mpr hbx), oL_s, nI_1]
          have f0 : F i = 0 := by rw [← hFF]; unfold wsF; rw [hbx]; rfl
          exact K1 (s, nI (mxN F i)) ⟨q', by show nI _ = nI _; rw [nxt, f0]; congr 1; omega⟩
        · have nb : ¬ ((x2 >>> (nI i &&& 31)) &&& (1 : Int32) = 0) := by rw [b_test0 _ (by omega), hbx]; decide
          have fi : F i = dysL (w.2.1 13 i) (pOne P) a b (gdV w (nI j) c) (Gs i) (W * H) D := by rw [← hFF]; unfold wsF; rw [hbx]; rfl
          obtain ⟨s', e', f', g', _⟩ := p_flees (gq s q') (hl i hi) (hgo i hi) (P := pOne P) (fun k hk => by rw [q'.2 24 (by decide)]; exact h24 k hk) (by rw [q'.2 3 (by decide)]; exact ea) (by rw [q'.2 3 (by decide)]; exact eb) ha hb hS (gdV w (nI j) c) hD
          have sok := dys_ok (x := w.2.1 13 i) (P := pOne P) ha hb (gd := gdV w (nI j) c) (go_lt (hgo i hi)) D
          have Fi := Fb i (by omega)
          rw [if_neg nb, oA_in _ hin, p_guardedR (w := s) hs.2 hc (by rw [q'.1 26 (by decide)]; exact e26) (fun i hi => by rw [q'.2 15 (by decide)]; exact hk i hi), gdV_w (q'.2 15 (by decide)), nI_clamp (by omega), q'.2 13 (by decide)]
          simp only [oC_s, oL_s]
          rw [e']
          simp only [oC_s, nI_1, g']
          rw [jmaxN (by omega) (by omega)]
          exact K1 (s', _) ⟨fr_t q' f', by show nI _ = nI _; rw [nxt, fi]⟩
    · rw [if_neg (nI_ge (by omega) (by omega))]
      unfold F_X12_guards_206
      rw [oL_s, nI_1]
      refine K (s, y6, y7) ⟨q', ?_⟩
      rcases hI' with ⟨e6, no⟩ | ⟨g, g1, g2, g3, g4, hmin⟩
      · refine Or.inl ⟨e6, fun h hh => ?_⟩
        by_cases e : h = j
        · subst e; exact cm
        · exact no h (by omega)
      · refine Or.inr ⟨g, by omega, g2, g3, g4, fun h h1 h2 => ?_⟩
        by_cases e : h = j
        · subst e; exact absurd h2 cm
        · exact hmin h (by omega) h2
theorem q_guards {z w : St} (h : Inv z w) (x1 x2 x3 x4 x5 : Int32) : Ok (f_X11_guards z x1 x2 x3 x4 x5) (f_X12_guards w x1 x2 x3 x4 x5) := by
  have h' := h
  obtain ⟨W, H, hA⟩ := h
  have hL := hA.2.1
  have hs := sz25 hL.1
  obtain ⟨dn0, _, dz, dw, _⟩ := hA.2.2.2.2.2.2.1
  have e25 : (sI w 0 0).1 25 = z.1 30 := by
    rw [sI_ne _ 0 25 _ (by decide), dz, dw]
  unfold f_X11_guards F_X11_guards_0 F_X11_guards_27 F_X11_guards_59 f_X12_guards F_X12_guards_0 F_X12_guards_60
  rw [oL_s, e25]
  have no : Ok (some (-1, z)) (some (-1, sI w 0 0)) := ⟨-1, _, _, rfl, rfl, Inv_0 h'⟩
  by_cases a1 : x1 < 0
  · rw [if_pos a1, if_pos a1]; exact no
  rw [if_neg a1, if_neg a1]
  by_cases a2 : (8 : Int32) < x1
  · rw [if_pos a2, if_pos a2]; exact no
  rw [if_neg a2, if_neg a2]
  obtain ⟨m, hm0, rfl⟩ := nI_of a1
  have hm : m ≤ 8 := (nI_leI hm0 (by omega)).mp (show nI m ≤ nI 8 from Int32.not_lt.mp a2)
  have lt1 : ∀ x : Int32, x < 1 ↔ x ≤ 0 := fun x => by
    rw [i_lt, i_le, show ((1 : Int32)).toInt = 1 by decide, show ((0 : Int32)).toInt = 0 by decide]; omega
  by_cases a3 : x2 ≤ 0
  · rw [if_pos a3, if_pos ((lt1 x2).mpr a3)]; exact no
  rw [if_neg a3, if_neg (fun q => a3 ((lt1 x2).mp q))]
  by_cases a4n : ¬ x2 < (1 : Int32) <<< (z.1 30 &&& 31)
  · have a4 := a4n
    rw [if_neg a4, if_pos (Int32.not_lt.mp a4)]; exact no
  have a4 : x2 < (1 : Int32) <<< (z.1 30 &&& 31) := Decidable.not_not.mp a4n
  rw [if_pos a4, if_neg (Int32.not_le.mpr a4)]
  by_cases a5 : x3 < 1
  · rw [if_pos a5, if_pos a5]; exact no
  rw [if_neg a5, if_neg a5]
  by_cases a6 : (20 : Int32) < x3
  · rw [if_pos a6, if_pos a6]; exact no
  rw [if_neg a6, if_neg a6]
  have a5' : ¬ x3 < 0 := fun q => a5 ((lt1 x3).mpr (Int32.le_of_lt q))
  obtain ⟨D, hD0, rfl⟩ := nI_of a5'
  have hD : D ≤ 20 := (nI_leI hD0 (by omega)).mp (show nI D ≤ nI 20 from Int32.not_lt.mp a6)
  rcases c_day z (sI w 0 0) x4 with ⟨d1, d2⟩ | ⟨k, hk, rfl, d1, d2⟩
  · simp only [d1, d2, oC_s, oL_s, ↓reduceIte]
    exact no
  simp only [d1, d2, oC_s, oL_s, i10, ↓reduceIte]
  by_cases a7 : x5 < 0
  · rw [if_pos a7, if_pos a7]; exact no
  rw [if_neg a7, if_neg a7]
  by_cases a8n : ¬ x5 ≤ 1
  · have a8 := a8n
    rw [if_neg a8, if_neg a8]; exact no
  have a8 : x5 ≤ 1 := Decidable.not_not.mp a8n
  rw [if_pos a8, if_pos a8]
  obtain ⟨P, z', w', t1, t2, hA', pC, pR, bd⟩ := cen (IvA_0 hA) (nI k)
  obtain ⟨_, hL', _, _, _, _, ⟨dn, hdn, dn1, dn2, dn3, _, dn4⟩, ⟨c, hc, c1, c2, c3, c4⟩, _, _, hT'⟩ := id hA'
  obtain ⟨_, ⟨a, ha, a14, r4⟩, ⟨b, hb, b15, r5⟩, _⟩ := hT'
  have gC := geo_C hL'
  have gR := geo_R hL'
  have hS := pOne_sm hs.2 bd
  have ag : f_X2_agree z' = some (sI (sI z' 40 (nI a)) 41 (nI b)) := by
    unfold f_X2_agree F_X2_agree_0
    simp only [oL_s, a14]
    rw [show (sI z' 40 (nI a)).1 15 = z'.1 15 from rfl, b15]
  have hl : ∀ i, i < dn → bl (w'.2.1 13 i) (W * H) := fun i hi => by
    obtain ⟨⟨L, h1, h2⟩, _⟩ := dn4 i hi
    rw [h2]; exact bl_of (by omega) h1
  have h24 : ∀ k, k < 2 * (W * H) → w'.2.1 24 k = nI (pOne P k) := by
    intro k hk
    have := pR (k % 2) (Nat.mod_lt k (by omega)) (k / 2) (by omega)
    rw [show 2 * (k / 2) + k % 2 = k by omega] at this
    exact this
  obtain ⟨Gs, g, z2, hgo, hB, e2, f2, g38, g39⟩ := p_place (z := sI (sI z' 40 (nI a)) 41 (nI b)) (w := w') gC hc c1 c3 c4 hdn dn1 dn3 hl (a := a) (b := b) rfl rfl ha hb (P := P) pC hS hD hm x2
  obtain ⟨g', w2, hB', e3, f3⟩ := p_guardsR gR hc c2 c4 hdn dn2 hl hgo h24 r4 r5 ha hb hS hD hm x2 x5
  have eg := isB_one hB hB'
  subst eg
  have fin : Inv z2 w2 := IvA_i (IvA_q hA' (fr_t (fr_I (fr_I fr_0 (by decide)) (by decide)) (fr_m f2 (by decide) (by decide))) (fr_m f3 (by decide) (by decide)))
  rw [t1, t2]
  simp only [oC_s, ag, e2]
  rw [e3]
  unfold F_X11_guards_117
  by_cases s0 : x5 = 0
  · rw [if_pos s0, if_pos s0, g38]; exact ⟨_, _, _, rfl, rfl, fin⟩
  · rw [if_neg s0, if_neg s0, g39]; exact ⟨_, _, _, rfl, rfl, fin⟩
