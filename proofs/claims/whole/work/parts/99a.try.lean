/-! PURE: guards: one set of guards tried, in the class -/
theorem mx_mono (f : Nat → Nat) {i : Nat} : ∀ {n}, i ≤ n → mxN f i ≤ mxN f n
  | 0, h => by rw [show i = 0 by omega]; exact Nat.le_refl _
  | n + 1, h => by
    by_cases e : i = n + 1
    · rw [e]; exact Nat.le_refl _
    · have := mx_mono f (i := i) (n := n) (by omega)
      show mxN f i ≤ max (mxN f n) (f n)
      omega
theorem dys_mono {x : Int32} {P : Nat → Nat} {a b : Nat} {gd : Int32} {G : Nat → Option Nat} {n d : Nat} : ∀ {e}, d ≤ e → dysL x P a b gd G n d ≤ dysL x P a b gd G n e
  | 0, h => by rw [show d = 0 by omega]; exact Nat.le_refl _
  | e + 1, h => by
    by_cases q : d = e + 1
    · rw [q]; exact Nat.le_refl _
    · have := dys_mono (x := x) (P := P) (a := a) (b := b) (gd := gd) (G := G) (n := n) (d := d) (e := e) (by omega)
      show _ ≤ dysL x P a b gd G n e + dayL x _ a b gd G n
      omega
/-- who is lost by draft i with the guards g -/
def lsN (w : St) (n c a b D : Nat) (P : Nat → Nat → Nat) (Gs : Nat → Nat → Option Nat) (g : Int32) (i : Nat) : Nat := dysL (w.2.1 13 i) (pOne P) a b (gdV w g c) (Gs i) n D
def wsF (w : St) (n c a b D : Nat) (P : Nat → Nat → Nat) (Gs : Nat → Nat → Option Nat) (x2 g : Int32) (i : Nat) : Nat := if bt x2 i = true then lsN w n c a b D P Gs g i else 0
theorem p_tryGuards {z w : St} {W H c dn a b D : Nat} {P : Nat → Nat → Nat} {Gs : Nat → Nat → Option Nat} (hG : geoC z W H) (hc : c ≤ 8) (e37 : z.1 37 = nI c) (a37 : z.2.1 37 = w.2.1 15) (hk : ∀ i, i < c → ∃ v, v < W * H ∧ w.2.1 15 i = nI v) (hdn : dn ≤ 12) (e30 : z.1 30 = nI dn) (a28 : z.2.1 28 = w.2.1 13) (hgo : ∀ i, i < dn → goP W H (w.2.1 13 i) (Gs i)) (hr : ∀ i, i < dn → ∀ v, v < W * H → z.2.1 (39 + i) v = goI (Gs i v)) (e40 : z.1 40 = nI a) (e41 : z.1 41 = nI b) (ha : a ≤ 100) (hb : b ≤ 100) (hp : plC z P (W * H)) (hS : fb_sm (pOne P) (2 * (W * H)) ≤ 62450) (hD : D ≤ 20) (x2 g : Int32) {B : Nat} (hB : B ≤ 1000000000) (e39 : z.1 39 = nI B) :
    ∃ z', f_X2_tryGuards z g x2 (nI D) = some z' ∧ fr [38, 39] [51, 52, 53] z z' ∧ ((mxN (wsF w (W * H) c a b D P Gs x2 g) dn < B ∧ z'.1 38 = g ∧ z'.1 39 = nI (mxN (wsF w (W * H) c a b D P Gs x2 g) dn)) ∨ (B ≤ mxN (wsF w (W * H) c a b D P Gs x2 g) dn ∧ z'.1 38 = z.1 38 ∧ z'.1 39 = nI B)) := by
  have hg := hG.1
  have hs := sz25 hg
  have gq : ∀ s, fr [] [51, 52, 53] z s → geoC s W H := fun s h => ⟨hg, by rw [h.1 26 (by decide)]; exact hG.2.1, by rw [h.1 21 (by decide)]; exact hG.2.2.1, by rw [h.1 22 (by decide)]; exact hG.2.2.2.1, by rw [h.1 27 (by decide)]; exact hG.2.2.2.2.1, by rw [h.1 28 (by decide)]; exact hG.2.2.2.2.2⟩
  have n1 : ∀ s, s < 2 → 26 + s ∉ [51, 52, 53] := by decide
  have n2 : ∀ r, r < 12 → 39 + r ∉ [51, 52, 53] := by decide
  unfold f_X2_tryGuards F_X2_tryGuards_0
  rw [p_guardedC (w := w) hs.2 hc e37 a37 hk]
  simp only [oC_s, oL_s]
  generalize hF : wsF w (W * H) c a b D P Gs x2 g = F
  have fin : ∀ s Y i, fr [] [51, 52, 53] z s → Y ≤ 62450 → i ≤ dn → (i = dn ∨ B ≤ Y) → (Y = mxN F i ∨ (B ≤ Y ∧ B ≤ mxN F i)) → ∃ z', F_X2_tryGuards_83 s g (nI Y) = some z' ∧ fr [38, 39] [51, 52, 53] z z' ∧ ((mxN F dn < B ∧ z'.1 38 = g ∧ z'.1 39 = nI (mxN F dn)) ∨ (B ≤ mxN F dn ∧ z'.1 38 = z.1 38 ∧ z'.1 39 = nI B)) := by
    intro s Y i f1 hY hi h1 h2
    have mm := mx_mono F hi
    unfold F_X2_tryGuards_83 F_X2_tryGuards_103
    have s39 : s.1 39 = nI B := by rw [f1.1 39 (by decide)]; exact e39
    have f1' : fr [38, 39] [51, 52, 53] z s := fr_m f1 (by decide) (by decide)
    rw [s39]
    by_cases q : B ≤ Y
    · rw [if_pos (nI_le q (by omega))]
      refine ⟨s, rfl, f1', Or.inr ⟨?_, f1.1 38 (by decide), s39⟩⟩
      rcases h2 with e | ⟨_, e⟩ <;> omega
    · rw [if_neg (nI_ge (by omega) (by omega)), oL_s, oL_s]
      have ei : i = dn := h1.resolve_right q
      have eY : Y = mxN F dn := by
        rcases h2 with e | ⟨e, _⟩
        · rw [e, ei]
        · omega
      refine ⟨_, rfl, fr_I (fr_I f1' (by decide)) (by decide), Or.inl ⟨by omega, ?_, ?_⟩⟩
      · rw [sI_ne _ 39 38 _ (by decide), sI_eq]
      · rw [sI_eq, eY]
  refine loop_i (fun k i (p : St × Int32) => ∃ z', F_X2_tryGuards_13 k p.1 g x2 (nI D) (gdV w g c) p.2 (nI i) = some z' ∧ fr [38, 39] [51, 52, 53] z z' ∧ ((mxN F dn < B ∧ z'.1 38 = g ∧ z'.1 39 = nI (mxN F dn)) ∨ (B ≤ mxN F dn ∧ z'.1 38 = z.1 38 ∧ z'.1 39 = nI B))) (fun i p => fr [] [51, 52, 53] z p.1 ∧ ∃ Y, p.2 = nI Y ∧ Y ≤ 62450 ∧ (Y = mxN F i ∨ (B ≤ Y ∧ B ≤ mxN F i))) dn ?_ ?_ 100000 0 (z, 0) (Nat.zero_le _) (by omega) ⟨fr_0, 0, rfl, by omega, Or.inl rfl⟩
  · rintro k ⟨s, y⟩ ⟨f1, Y, ey, hY, h2⟩
    have ey' : y = nI Y := ey
    subst ey'
    show ∃ z', F_X2_tryGuards_13_b _ s g x2 (nI D) (gdV w g c) (nI Y) (nI dn) = _ ∧ _
    unfold F_X2_tryGuards_13_b
    rw [f1.1 30 (by decide), e30, if_pos (Int32.le_refl _)]
    exact fin s Y dn f1 hY (Nat.le_refl _) (Or.inl rfl) h2
  · rintro k i ⟨s, y⟩ hi ⟨f1, Y, ey, hY, h2⟩ K
    have ey' : y = nI Y := ey
    subst ey'
    show ∃ z', F_X2_tryGuards_13_b (F_X2_tryGuards_13 k) s g x2 (nI D) (gdV w g c) (nI Y) (nI i) = _ ∧ _
    unfold F_X2_tryGuards_13_b F_X2_tryGuards_77
    have s39 : s.1 39 = nI B := by rw [f1.1 39 (by decide)]; exact e39
    rw [f1.1 30 (by decide), e30, if_neg (nI_ge hi (by omega)), s39]
    by_cases q : B ≤ Y
    · rw [if_pos (nI_le q (by omega))]
      exact fin s Y i f1 hY (by omega) (Or.inr q) h2
    rw [if_neg (nI_ge (by omega) (by omega))]
    have eY : Y = mxN F i := h2.resolve_right (fun e => q e.1)
    have nxt : mxN F (i + 1) = max (mxN F i) (F i) := rfl
    cases hbx : bt x2 i
    · rw [if_pos ((b_test0 x2 (by omega)).mpr hbx), oL_s, nI_1]
      have f0 : F i = 0 := by
        rw [← hF]; unfold wsF; rw [hbx]; rfl
      exact K (s, nI Y) ⟨f1, Y, rfl, hY, Or.inl (by omega)⟩
    · have nb : ¬ ((x2 >>> (nI i &&& 31)) &&& (1 : Int32) = 0) := by rw [b_test0 _ (by omega), hbx]; decide
      have hin : vp_in (nI i) 12 := vp_in_nI (by omega) (by omega)
      have fi : F i = lsN w (W * H) c a b D P Gs g i := by
        rw [← hF]; unfold wsF; rw [hbx]; rfl
      obtain ⟨d, s', hd, hd', e', f', _⟩ := p_walk (gq s f1) (hgo i hi) (r := 39 + i) (by omega) (by omega) (fun v hv => by rw [f1.2 _ (n2 i (by omega))]; exact hr i hi v hv) (by rw [f1.1 40 (by decide)]; exact e40) (by rw [f1.1 41 (by decide)]; exact e41) ha hb (gdV w g c) (P := P) (fun t ht v hv => by rw [f1.2 _ (n1 t ht)]; exact hp t ht v hv) hS hD (B := B) (by omega)
      have sok := dys_ok (x := w.2.1 13 i) (P := pOne P) ha hb (gd := gdV w g c) (go_lt (hgo i hi)) d
      have mono := dys_mono (x := w.2.1 13 i) (P := pOne P) (a := a) (b := b) (gd := gdV w g c) (G := Gs i) (n := W * H) hd
      rw [if_neg nb, oA_in _ hin, oA_in _ hin, nI_clamp (by omega), f1.2 28 (by decide), a28, e']
      simp only [oC_s, oL_s, nI_1]
      rw [jmaxN (by omega) (by omega)]
      refine K (s', _) ⟨fr_t f1 f', _, rfl, by omega, ?_⟩
      have fi' : F i = dysL (w.2.1 13 i) (pOne P) a b (gdV w g c) (Gs i) (W * H) D := fi
      rcases hd' with ed | ed
      · left; rw [nxt, fi', eY, ed]
      · right; omega
