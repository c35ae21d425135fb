/-! PURE: flight -/
theorem p_tell {z w : St} {W H : Nat} (hG : geoC z W H) {x : Int32} (hx : bl x (W * H)) {c : Nat} (hc : c ≤ 8) (e37 : z.1 37 = nI c) (a37 : z.2.1 37 = w.2.1 15) (hk : ∀ i, i < c → ∃ v, v < W * H ∧ w.2.1 15 i = nI v) {a b : Nat} (e40 : z.1 40 = nI a) (e41 : z.1 41 = nI b) (ha : a ≤ 100) (hb : b ≤ 100) {P : Nat → Nat → Nat} (hp : plC z P (W * H)) (hS : fb_sm (pOne P) (2 * (W * H)) ≤ 62450) {D : Nat} (hD : D ≤ 20) (g : Int32) :
    ∃ G z', goP W H x G ∧ f_X2_tell z x (nI D) g = some (nI (dysL x (pOne P) a b (gdV w g c) G (W * H) D), z') ∧ fr [] [39, 51, 52, 53] z z' ∧ dyC (W * H) x z' (dysT x (pOne P) a b (gdV w g c) G (W * H) D) := by
  have hg := hG.1
  have hs := sz25 hg
  have i0 : vp_in (0 : Int32) 12 := by unfold vp_in; decide
  have c0 : 39 + Int32.toNatClampNeg (0 : Int32) = 39 := by decide
  obtain ⟨r, er, hr⟩ := p_aim hG hx (r := 39) (by omega) (by omega)
  obtain ⟨G, hgo, hrG⟩ := go_ex hs.2 hr
  have sok := dys_ok (x := x) (P := pOne P) ha hb (gd := gdV w g c) (go_lt hgo)
  obtain ⟨d, z', hd, hd', e', f', q'⟩ := p_walk (z := sA z 39 r) hG hgo (r := 39) (by omega) (by omega) (fun v hv => by rw [sA_eq]; exact hrG v hv) e40 e41 ha hb (gdV w g c) (P := P) (fun s hs v hv => by rw [sA_ne _ 39 _ _ (by omega)]; exact hp s hs v hv) hS hD (B := 1000000000) (by omega)
  have ed : d = D := by
    have := sok d
    rcases hd' with q | q
    · exact q
    · omega
  subst ed
  have e'' : f_X2_walk (sA z 39 r) x 39 (nI d) (gdV w g c) (1000000000 : Int32) = _ := e'
  refine ⟨G, z', hgo, ?_, fr_t (fr_A fr_0 (by decide)) (fr_m f' (by decide) (by decide)), q'⟩
  unfold f_X2_tell F_X2_tell_0
  rw [c0, oA_in _ i0, er]
  simp only [oC_s, oL_s, oA_in _ i0]
  rw [p_guardedC (z := sA z 39 r) (w := w) hs.2 hc e37 (by rw [sA_ne _ 39 37 _ (by decide)]; exact a37) hk]
  simp only [oC_s]
  rw [e'']
  simp only [oC_s]
def mxN (f : Nat → Nat) : Nat → Nat
  | 0 => 0
  | i + 1 => max (mxN f i) (f i)
theorem mx_le {f : Nat → Nat} {c : Nat} : ∀ {n}, (∀ u, u < n → f u ≤ c) → mxN f n ≤ c
  | 0, _ => Nat.zero_le _
  | n + 1, h => by
    have h1 := mx_le (n := n) (fun u hu => h u (by omega))
    have h2 := h n (by omega)
    show max (mxN f n) (f n) ≤ c
    omega
def bothN (T : Nat → Nat) (u : Nat) : Nat := T (2 * u) + T (2 * u + 1)
theorem both_wsd (T : Nat → Nat) (x : Int32) (u : Nat) : T (2 * u + wsd x u) + T (2 * u + (1 - wsd x u)) = bothN T u := by
  have := wsd_le x u
  unfold bothN
  rcases (show wsd x u = 0 ∨ wsd x u = 1 by omega) with e | e
  · rw [e]; rfl
  · rw [e]; exact Nat.add_comm _ _
theorem p_stillAstray {z : St} {n : Nat} {x : Int32} {T : Nat → Nat} (hn : n ≤ 25) (e21 : z.1 21 = nI n) (h : dyC n x z T) : f_X2_stillAstray z = some (nI (fb_sm (fun u => T (2 * u + wsd x u)) n), z) := by
  unfold f_X2_stillAstray F_X2_stillAstray_0
  simp only [oL_s]
  refine loop_i (fun k i (y : Int32) => F_X2_stillAstray_4 k z y (nI i) = some (nI (fb_sm (fun u => T (2 * u + wsd x u)) n), z)) (fun i y => y = nI (fb_sm (fun u => T (2 * u + wsd x u)) i)) n ?_ ?_ 100000 0 0 (Nat.zero_le _) (by omega) rfl
  · rintro k y rfl
    show F_X2_stillAstray_4_b _ z _ (nI n) = _
    unfold F_X2_stillAstray_4_b
    rw [e21, if_pos (Int32.le_refl _)]
  · rintro k i y hi rfl K
    show F_X2_stillAstray_4_b (F_X2_stillAstray_4 k) z _ (nI i) = _
    unfold F_X2_stillAstray_4_b
    rw [e21, if_neg (nI_ge hi (by omega)), oA_in _ (vp_in_nI (show i < 25 by omega) (by omega)), nI_clamp (by omega), h.1 i hi, nI_add, oL_s, oL_s, nI_1]
    exact K _ rfl
theorem p_fullest {z : St} {n : Nat} {x : Int32} {T : Nat → Nat} (hn : n ≤ 25) (e21 : z.1 21 = nI n) (h : dyC n x z T) (hT : ∀ u, u < n → bothN T u ≤ 200000) : f_X2_fullest z = some (nI (mxN (bothN T) n), z) := by
  unfold f_X2_fullest F_X2_fullest_0
  simp only [oL_s]
  refine loop_i (fun k i (y : Int32) => F_X2_fullest_4 k z y (nI i) = some (nI (mxN (bothN T) n), z)) (fun i y => y = nI (mxN (bothN T) i)) n ?_ ?_ 100000 0 0 (Nat.zero_le _) (by omega) rfl
  · rintro k y rfl
    show F_X2_fullest_4_b _ z _ (nI n) = _
    unfold F_X2_fullest_4_b
    rw [e21, if_pos (Int32.le_refl _)]
  · rintro k i y hi rfl K
    show F_X2_fullest_4_b (F_X2_fullest_4 k) z _ (nI i) = _
    unfold F_X2_fullest_4_b
    have m1 := mx_le (f := bothN T) (n := i) (fun u hu => hT u (by omega))
    have m2 := hT i hi
    have hin : vp_in (nI i) 25 := vp_in_nI (by omega) (by omega)
    rw [e21, if_neg (nI_ge hi (by omega)), oA_in _ hin, oA_in _ hin, nI_clamp (by omega), h.1 i hi, h.2 i hi, nI_add, both_wsd, jmaxN (by omega) (by omega), oL_s, oL_s, nI_1]
    exact K _ rfl
theorem p_flightR {w : St} {W H : Nat} (hG : geoR w W H) {x : Int32} {T : Nat → Nat} (h : ∀ k, k < 2 * (W * H) → w.2.1 27 k = nI (T k)) (hT : ∀ u, u < W * H → bothN T u ≤ 200000) (x5 : Int32) : F_X12_flight_80 100000 w x x5 0 0 0 = some (if x5 = 1 then nI (fb_sm (fun u => T (2 * u + wsd x u)) (W * H)) else nI (mxN (bothN T) (W * H)), w) := by
  have hs := sz25 hG.1
  refine loop_i (fun k i (y : Int32 × Int32) => F_X12_flight_80 k w x x5 y.1 y.2 (nI i) = some (if x5 = 1 then nI (fb_sm (fun u => T (2 * u + wsd x u)) (W * H)) else nI (mxN (bothN T) (W * H)), w)) (fun i y => y.1 = nI (fb_sm (fun u => T (2 * u + wsd x u)) i) ∧ y.2 = nI (mxN (bothN T) i)) (W * H) ?_ ?_ 100000 0 (0, 0) (Nat.zero_le _) (by omega) ⟨rfl, rfl⟩
  · rintro k ⟨y1, y2⟩ ⟨e1, e2⟩
    have e1' : y1 = _ := e1
    have e2' : y2 = _ := e2
    subst e1' e2'
    show F_X12_flight_80_b _ w x x5 (nI _) (nI _) (nI (W * H)) = _
    unfold F_X12_flight_80_b F_X12_flight_159
    simp only [p_cells, oC_s, oL_s, hG.2.1, hG.2.2, mulN]
    rw [if_pos (Int32.le_refl _)]
    split <;> rfl
  · rintro k i ⟨y1, y2⟩ hi ⟨e1, e2⟩ K
    have e1' : y1 = _ := e1
    have e2' : y2 = _ := e2
    subst e1' e2'
    show F_X12_flight_80_b (F_X12_flight_80 k) w x x5 (nI _) (nI _) (nI i) = _
    have w1 := wsd_le x i
    have m1 := mx_le (f := bothN T) (n := i) (fun u hu => hT u (by omega))
    have m2 := hT i hi
    have t0 : (2 : Int32) * nI i = nI (2 * i) := mulN 2 i
    have t1 : nI (2 * i) + (1 : Int32) = nI (2 * i + 1) := nI_1 _
    have t2 : nI (2 * i + 1) - nI (1 - b1 (bt x i)) = nI (2 * i + wsd x i) := by
      rw [nI_sub (by omega)]
      congr 1
      show 2 * i + 1 - (1 - wsd x i) = _
      omega
    have j0 : vp_in (nI (2 * i)) 50 := vp_in_nI (by omega) (by omega)
    have j1 : vp_in (nI (2 * i + 1)) 50 := vp_in_nI (by omega) (by omega)
    have j2 : vp_in (nI (2 * i + wsd x i)) 50 := vp_in_nI (by omega) (by omega)
    unfold F_X12_flight_80_b
    simp only [p_cells, oC_s, oL_s, hG.2.1, hG.2.2, mulN, p_sideOf w x (show i < 32 by omega)]
    rw [if_neg (nI_ge hi (by omega))]
    simp only [t0, t1, t2, oA_in _ j0, oA_in _ j1, oA_in _ j2, nI_clamp (show 2 * i < 2 ^ 31 by omega), nI_clamp (show 2 * i + 1 < 2 ^ 31 by omega), nI_clamp (show 2 * i + wsd x i < 2 ^ 31 by omega), h (2 * i) (by omega), h (2 * i + 1) (by omega), h (2 * i + wsd x i) (by omega), nI_add, nI_1]
    have eb : T (2 * i) + T (2 * i + 1) = bothN T i := rfl
    rw [eb, jmaxN (by omega) (by omega)]
    exact K (_, _) ⟨rfl, rfl⟩
theorem q_flight {z w : St} (h : Inv z w) (x1 x2 x3 x4 x5 : Int32) : Ok (f_X11_flight z x1 x2 x3 x4 x5) (f_X12_flight w x1 x2 x3 x4 x5) := by
  have h' := h
  obtain ⟨W, H, hA⟩ := h
  have hL := hA.2.1
  have hs := sz25 hL.1
  unfold f_X11_flight F_X11_flight_0 F_X11_flight_29 F_X11_flight_42 f_X12_flight F_X12_flight_0 F_X12_flight_42
  rcases c_line (w := sI w 0 0) hL x1 with ⟨g1, g2⟩ | ⟨L, hl, rfl, g1, g2⟩
  · simp only [oL_s, g1, g2, oC_s, ↓reduceIte]
    exact ⟨-1, _, _, rfl, rfl, Inv_0 h'⟩
  simp only [oL_s, g1, g2, oC_s, i10, ↓reduceIte]
  by_cases a1 : x2 < 0
  · rw [if_pos a1, if_pos a1]; exact ⟨-1, _, _, rfl, rfl, Inv_0 h'⟩
  rw [if_neg a1, if_neg a1]
  by_cases a2 : (20 : Int32) < x2
  · rw [if_pos a2, if_pos a2]; exact ⟨-1, _, _, rfl, rfl, Inv_0 h'⟩
  rw [if_neg a2, if_neg a2]
  obtain ⟨D, hD0, rfl⟩ := nI_of a1
  have hD : D ≤ 20 := (nI_leI hD0 (by omega)).mp (show nI D ≤ nI 20 from Int32.not_lt.mp a2)
  rcases c_day z (sI w 0 0) x4 with ⟨d1, d2⟩ | ⟨k, hk, rfl, d1, d2⟩
  · simp only [d1, d2, oC_s, ↓reduceIte]
    exact ⟨-1, _, _, rfl, rfl, Inv_0 h'⟩
  simp only [d1, d2, oC_s, i10, ↓reduceIte]
  by_cases a3 : x5 < 0
  · rw [if_pos a3, if_pos a3]; exact ⟨-1, _, _, rfl, rfl, Inv_0 h'⟩
  rw [if_neg a3, if_neg a3]
  by_cases a4 : x5 ≤ 2
  · rw [if_pos a4, if_pos a4]
    obtain ⟨P, z', w', t1, t2, hA', pC, pR, bd⟩ := cen (IvA_0 hA) (nI k)
    obtain ⟨_, hL', _, _, _, _, _, ⟨c, hc, c1, c2, c3, c4⟩, _, _, hT'⟩ := id hA'
    obtain ⟨_, ⟨a, ha, a14, r4⟩, ⟨b, hb, b15, r5⟩, _⟩ := hT'
    have gC := geo_C hL'
    have gR := geo_R hL'
    have bL : bl (nI L) (W * H) := bl_of (by omega) hl
    have hS := pOne_sm hs.2 bd
    have ag : f_X2_agree z' = some (sI (sI z' 40 (nI a)) 41 (nI b)) := by
      unfold f_X2_agree F_X2_agree_0
      simp only [oL_s, a14]
      rw [show (sI z' 40 (nI a)).1 15 = z'.1 15 from rfl, b15]
    obtain ⟨G, z2, hgo, e2, f2, q2⟩ := p_tell (z := sI (sI z' 40 (nI a)) 41 (nI b)) (w := w') gC bL hc c1 c3 c4 (a := a) (b := b) rfl rfl ha hb (P := P) pC hS hD x3
    have h24 : ∀ k, k < 2 * (W * H) → w'.2.1 24 k = nI (pOne P k) := by
      intro k hk
      have := pR (k % 2) (Nat.mod_lt k (by omega)) (k / 2) (by omega)
      rw [show 2 * (k / 2) + k % 2 = k by omega] at this
      exact this
    obtain ⟨w2, e3, f3, q3, q4⟩ := p_flees gR bL hgo h24 r4 r5 ha hb hS (gdV w' x3 c) hD
    have fin : Inv z2 w2 := IvA_i (IvA_q hA' (fr_t (fr_I (fr_I fr_0 (by decide)) (by decide)) (fr_m f2 (by decide) (by decide))) (fr_m f3 (by decide) (by decide)))
    have e21 : z2.1 21 = nI (W * H) := by rw [f2.1 21 (by decide)]; exact gC.2.2.1
    have gR2 : geoR w2 W H := ⟨gR.1, by rw [f3.1 22 (by decide)]; exact gR.2.1, by rw [f3.1 23 (by decide)]; exact gR.2.2⟩
    have bT : ∀ u, u < W * H → bothN (dysT (nI L) (pOne P) a b (gdV w' x3 c) G (W * H) D) u ≤ 200000 := by
      intro u hu
      have b1 := dys_le (x := nI L) (P := pOne P) ha hb (gd := gdV w' x3 c) (go_lt hgo) hS D (k := 2 * u) (by omega)
      have b2 := dys_le (x := nI L) (P := pOne P) ha hb (gd := gdV w' x3 c) (go_lt hgo) hS D (k := 2 * u + 1) (by omega)
      unfold bothN
      omega
    rw [t1, t2]
    simp only [oC_s, ag, e2, p_guardedR hs.2 hc c2 c4, e3, q3]
    by_cases s0 : x5 = 0
    · rw [if_pos s0, if_pos s0]; exact ⟨_, _, _, rfl, rfl, fin⟩
    rw [if_neg s0, if_neg s0, p_flightR gR2 q4 bT]
    by_cases s1 : x5 = 1
    · rw [if_pos s1, if_pos s1, p_stillAstray hs.2 e21 q2]
      exact ⟨_, _, _, rfl, rfl, fin⟩
    · rw [if_neg s1, if_neg s1, p_fullest hs.2 e21 q2 bT]
      exact ⟨_, _, _, rfl, rfl, fin⟩
  · rw [if_neg a4, if_neg a4]; exact ⟨-1, _, _, rfl, rfl, Inv_0 h'⟩
