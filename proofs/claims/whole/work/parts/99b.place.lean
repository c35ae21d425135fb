/-! PURE: guards: the best set, in the class -/
def btr (f p : Nat → Nat) (g h : Nat) : Prop := f g < f h ∨ (f g = f h ∧ (p g < p h ∨ (p g = p h ∧ g ≤ h)))
def isB (f p : Nat → Nat) (C m g : Nat) : Prop := g < C ∧ p g ≤ m ∧ ∀ h, h < C → p h ≤ m → btr f p g h
theorem isB_one {f p : Nat → Nat} {C m g g' : Nat} (a : isB f p C m g) (b : isB f p C m g') : g = g' := by
  obtain ⟨a1, a2, a3⟩ := a
  obtain ⟨b1, b2, b3⟩ := b
  have c := a3 g' b1 b2
  have d := b3 g a1 a2
  unfold btr at c d
  omega
def goF (g : Nat → Int32) (v : Nat) : Option Nat := if g v = -1 then none else some (g v).toNatClampNeg
theorem go_of {W H : Nat} (hs : W * H ≤ 25) {x : Int32} {g : Nat → Int32} (h : aimP W H x (W * H) g) : goP W H x (goF g) ∧ ∀ v, v < W * H → g v = goI (goF g v) := by
  refine ⟨fun v hv => ?_, fun v hv => ?_⟩
  · rcases h v hv with ⟨c, e⟩ | ⟨c, u, hu, e⟩
    · left; exact ⟨c, if_pos e⟩
    · right
      have := hu.1
      refine ⟨c, u, hu, ?_⟩
      unfold goF
      rw [e, if_neg (nI_nm1 (by omega)), nI_clamp (by omega)]
  · unfold goF
    rcases h v hv with ⟨c, e⟩ | ⟨c, u, hu, e⟩
    · rw [if_pos e]; exact e
    · have := hu.1
      rw [e, if_neg (nI_nm1 (by omega)), nI_clamp (by omega)]; rfl
/-- those that were tried: with fewer than k guards, or with k and below j -/
def prc (p : Nat → Nat) (C k j h : Nat) : Prop := h < C ∧ (p h < k ∨ (p h = k ∧ h < j))
def bstI (f p : Nat → Nat) (C k j : Nat) (s : St) : Prop := (s.1 38 = 0 ∧ s.1 39 = nI 1000000000 ∧ ∀ h, ¬ prc p C k j h) ∨ ∃ g, prc p C k j g ∧ s.1 38 = nI g ∧ s.1 39 = nI (f g) ∧ ∀ h, prc p C k j h → btr f p g h
theorem p_place {z w : St} {W H c dn a b D m : Nat} {P : Nat → Nat → Nat} (hG : geoC z W H) (hc : c ≤ 8) (e37 : z.1 37 = nI c) (a37 : z.2.1 37 = w.2.1 15) (hk : ∀ i, i < c → ∃ v, v < W * H ∧ w.2.1 15 i = nI v) (hdn : dn ≤ 12) (e30 : z.1 30 = nI dn) (a28 : z.2.1 28 = w.2.1 13) (hl : ∀ i, i < dn → bl (w.2.1 13 i) (W * H)) (e40 : z.1 40 = nI a) (e41 : z.1 41 = nI b) (ha : a ≤ 100) (hb : b ≤ 100) (hp : plC z P (W * H)) (hS : fb_sm (pOne P) (2 * (W * H)) ≤ 62450) (hD : D ≤ 20) (hm : m ≤ 8) (x2 : Int32) :
    ∃ Gs g z', (∀ i, i < dn → goP W H (w.2.1 13 i) (Gs i)) ∧ isB (fun g => mxN (wsF w (W * H) c a b D P Gs x2 (nI g)) dn) (fun g => pc (nI g)) (2 ^ c) m g ∧ f_X2_place z (nI m) x2 (nI D) = some z' ∧ fr [38, 39] [39, 40, 41, 42, 43, 44, 45, 46, 47, 48, 49, 50, 51, 52, 53] z z' ∧ z'.1 38 = nI g ∧ z'.1 39 = nI (mxN (wsF w (W * H) c a b D P Gs x2 (nI g)) dn) := by
  have hg := hG.1
  have hs := sz25 hg
  have n0 : ∀ i, i < 12 → 39 + i ∈ [39, 40, 41, 42, 43, 44, 45, 46, 47, 48, 49, 50] := by decide
  have n1 : ∀ s, s < 2 → 26 + s ∉ [39, 40, 41, 42, 43, 44, 45, 46, 47, 48, 49, 50] := by decide
  have n2 : ∀ s, s < 2 → 26 + s ∉ [51, 52, 53] := by decide
  have n3 : ∀ r, r < 12 → 39 + r ∉ [51, 52, 53] := by decide
  have hC : 2 ^ c ≤ 256 := Nat.pow_le_pow_right (n := 2) (by omega) hc
  have hC0 : 1 ≤ 2 ^ c := Nat.one_le_two_pow
  have gq : ∀ s, (∀ k, k ∉ [38, 39] → s.1 k = z.1 k) → geoC s W H := fun s h => ⟨hg, by rw [h 26 (by decide)]; exact hG.2.1, by rw [h 21 (by decide)]; exact hG.2.2.1, by rw [h 22 (by decide)]; exact hG.2.2.2.1, by rw [h 27 (by decide)]; exact hG.2.2.2.2.1, by rw [h 28 (by decide)]; exact hG.2.2.2.2.2⟩
  unfold f_X2_place F_X2_place_0
  rw [oL_s]
  refine loop_i (fun k i (s : St) => ∃ Gs g z', (∀ i, i < dn → goP W H (w.2.1 13 i) (Gs i)) ∧ isB (fun g => mxN (wsF w (W * H) c a b D P Gs x2 (nI g)) dn) (fun g => pc (nI g)) (2 ^ c) m g ∧ F_X2_place_3 k s (nI m) x2 (nI D) (nI i) = some z' ∧ fr [38, 39] [39, 40, 41, 42, 43, 44, 45, 46, 47, 48, 49, 50, 51, 52, 53] z z' ∧ z'.1 38 = nI g ∧ z'.1 39 = nI (mxN (wsF w (W * H) c a b D P Gs x2 (nI g)) dn)) (fun i s => fr [] [39, 40, 41, 42, 43, 44, 45, 46, 47, 48, 49, 50] z s ∧ ∀ j, j < i → aimP W H (w.2.1 13 j) (W * H) (s.2.1 (39 + j))) dn ?_ ?_ 100000 0 z (Nat.zero_le _) (by omega) ⟨fr_0, fun j hj => absurd hj (Nat.not_lt_zero j)⟩
  · rintro k z1 ⟨f1, hai⟩
    show ∃ Gs g z', _ ∧ _ ∧ F_X2_place_3_b _ z1 (nI m) x2 (nI D) (nI dn) = _ ∧ _
    unfold F_X2_place_3_b
    rw [f1.1 30 (by decide), e30, if_pos (Int32.le_refl _)]
    simp only [oL_s]
    have hgo : ∀ i, i < dn → goP W H (w.2.1 13 i) (goF (z1.2.1 (39 + i))) := fun i hi => (go_of hs.2 (hai i hi)).1
    have hrr : ∀ i, i < dn → ∀ v, v < W * H → z1.2.1 (39 + i) v = goI (goF (z1.2.1 (39 + i)) v) := fun i hi => (go_of hs.2 (hai i hi)).2
    refine ⟨fun i => goF (z1.2.1 (39 + i)), ?_⟩
    generalize hGs : (fun i => goF (z1.2.1 (39 + i))) = Gs
    have eGs : ∀ i, goF (z1.2.1 (39 + i)) = Gs i := fun i => by rw [← hGs]
    have hgo' : ∀ i, i < dn → goP W H (w.2.1 13 i) (Gs i) := fun i hi => by rw [← eGs]; exact hgo i hi
    have f62 : ∀ g, mxN (wsF w (W * H) c a b D P Gs x2 g) dn ≤ 62450 := by
      intro g
      refine mx_le (fun i hi => ?_)
      unfold wsF lsN
      split
      · have := dys_ok (x := w.2.1 13 i) (P := pOne P) ha hb (gd := gdV w g c) (go_lt (hgo' i hi)) D
        omega
      · omega
    generalize hf : (fun g => mxN (wsF w (W * H) c a b D P Gs x2 (nI g)) dn) = f
    generalize hpp : (fun g => pc (nI g)) = p
    have fe : ∀ g, mxN (wsF w (W * H) c a b D P Gs x2 (nI g)) dn = f g := fun g => by rw [← hf]
    have pe : ∀ g, pc (nI g) = p g := fun g => by rw [← hpp]
    have fb : ∀ g, f g ≤ 62450 := fun g => by rw [← fe]; exact f62 _
    have pcl : ∀ g, g < 2 ^ c → p g ≤ c := fun g hg => by rw [← pe]; exact pc_bl (bl_of (by omega) hg)
    simp only [fe]
    have tg : ∀ s B g, fr [38, 39] [51, 52, 53] z1 s → B ≤ 1000000000 → s.1 39 = nI B → ∃ s', f_X2_tryGuards s (nI g) x2 (nI D) = some s' ∧ fr [38, 39] [51, 52, 53] s s' ∧ ((f g < B ∧ s'.1 38 = nI g ∧ s'.1 39 = nI (f g)) ∨ (B ≤ f g ∧ s'.1 38 = s.1 38 ∧ s'.1 39 = nI B)) := by
      intro s B g q hB q39
      have := p_tryGuards (z := s) (w := w) (a := a) (b := b) (P := P) (Gs := Gs) (gq s (fun k hk => (q.1 k hk).trans (f1.1 k (List.not_mem_nil)))) hc (by rw [q.1 37 (by decide), f1.1 37 (by decide)]; exact e37) (by rw [q.2 37 (by decide), f1.2 37 (by decide)]; exact a37) hk hdn (by rw [q.1 30 (by decide), f1.1 30 (by decide)]; exact e30) (by rw [q.2 28 (by decide), f1.2 28 (by decide)]; exact a28) hgo' (fun i hi v hv => by rw [q.2 _ (n3 i (by omega)), ← eGs]; exact hrr i hi v hv) (by rw [q.1 40 (by decide), f1.1 40 (by decide)]; exact e40) (by rw [q.1 41 (by decide), f1.1 41 (by decide)]; exact e41) ha hb (fun t ht v hv => by rw [q.2 _ (n2 t ht), f1.2 _ (n1 t ht)]; exact hp t ht v hv) hS hD x2 (nI g) hB q39
      rw [fe] at this
      exact this
    have e37' : ∀ s, fr [38, 39] [51, 52, 53] z1 s → s.1 37 = nI c := fun s q => by rw [q.1 37 (by decide), f1.1 37 (by decide)]; exact e37
    have key := loop_i (fun k i (s : St) => ∃ g z', isB f p (2 ^ c) m g ∧ F_X2_place_50 k s (nI m) x2 (nI D) (nI i) = some z' ∧ fr [38, 39] [51, 52, 53] z1 z' ∧ z'.1 38 = nI g ∧ z'.1 39 = nI (f g)) (fun i s => fr [38, 39] [51, 52, 53] z1 s ∧ bstI f p (2 ^ c) i 0 s) (min m c + 1) ?_ ?_ 100000 0 (sI (sI z1 38 0) 39 1000000000) (Nat.zero_le _) (by omega) ⟨fr_I (fr_I fr_0 (by decide)) (by decide), Or.inl ⟨by rw [sI_ne _ 39 38 _ (by decide), sI_eq], sI_eq _ _ _, fun h q => by unfold prc at q; omega⟩⟩
    · obtain ⟨g, z', b1, b2, b3, b4, b5⟩ := key
      exact ⟨g, z', hgo', b1, b2, fr_t (fr_m f1 (by decide) (by decide)) (fr_m b3 (by decide) (by decide)), b4, b5⟩
    · rintro k s ⟨q, hI⟩
      have p0 : p 0 = 0 := by rw [← pe]; decide
      rcases hI with ⟨_, _, no⟩ | ⟨g, hg1, g38, g39, hmin⟩
      · exact absurd ⟨by omega, Or.inl (by omega)⟩ (no 0)
      · refine ⟨g, s, ⟨hg1.1, by unfold prc at hg1; omega, fun h h1 h2 => hmin h ⟨h1, Or.inl (by have := pcl h h1; omega)⟩⟩, ?_, q, g38, g39⟩
        show F_X2_place_50_b _ s (nI m) x2 (nI D) (nI (min m c + 1)) = _
        unfold F_X2_place_50_b F_X2_place_111
        by_cases e : m < min m c + 1
        · rw [if_pos (nI_lt e (by omega))]
        · rw [if_neg (fun q' => e (by
            have := (nI_ltI (by omega) (by omega)).mp q'
            omega)), e37' s q, if_pos (nI_lt (by omega) (by omega))]
    · rintro k i s hi ⟨q, hI⟩ K
      show ∃ g z', _ ∧ F_X2_place_50_b (F_X2_place_50 k) s (nI m) x2 (nI D) (nI i) = _ ∧ _
      unfold F_X2_place_50_b
      rw [if_neg (fun q' => by
        have := (nI_ltI (by omega) (by omega)).mp q'
        omega), e37' s q, if_neg (fun q' => by
        have := (nI_ltI (by omega) (by omega)).mp q'
        omega), oL_s]
      refine loop_i (fun k1 j (s : St) => ∃ g z', isB f p (2 ^ c) m g ∧ F_X2_place_68 (F_X2_place_50 k) k1 s (nI m) x2 (nI D) (nI i) (nI j) = some z' ∧ fr [38, 39] [51, 52, 53] z1 z' ∧ z'.1 38 = nI g ∧ z'.1 39 = nI (f g)) (fun j s => fr [38, 39] [51, 52, 53] z1 s ∧ bstI f p (2 ^ c) i j s) (2 ^ c) ?_ ?_ 100000 0 s (Nat.zero_le _) (by omega) ⟨q, hI⟩
      · rintro k1 s ⟨q, hI⟩
        show ∃ g z', _ ∧ F_X2_place_68_b _ _ s (nI m) x2 (nI D) (nI i) (nI (2 ^ c)) = _ ∧ _
        unfold F_X2_place_68_b
        rw [e37' s q, shl1 (by omega), if_pos (Int32.le_refl _), oL_s, nI_1]
        refine K s ⟨q, ?_⟩
        have same : ∀ h, prc p (2 ^ c) (i + 1) 0 h ↔ prc p (2 ^ c) i (2 ^ c) h := fun h => by unfold prc; omega
        rcases hI with ⟨a1, a2, no⟩ | ⟨g, hg1, g38, g39, hmin⟩
        · exact Or.inl ⟨a1, a2, fun h q => no h ((same h).mp q)⟩
        · exact Or.inr ⟨g, (same g).mpr hg1, g38, g39, fun h q => hmin h ((same h).mp q)⟩
      · rintro k1 j s hj ⟨q, hI⟩ K1
        show ∃ g z', _ ∧ F_X2_place_68_b _ (F_X2_place_68 (F_X2_place_50 k) k1) s (nI m) x2 (nI D) (nI i) (nI j) = _ ∧ _
        unfold F_X2_place_68_b F_X2_place_99
        rw [e37' s q, shl1 (by omega), if_neg (nI_ge hj (by omega)), p_bitCount, pe]
        simp only [oC_s, oL_s, nI_1]
        have pj := pcl j hj
        by_cases e : p j = i
        · have q1 : nI (p j) = nI i := by rw [e]
          rw [if_pos q1]
          have inn : ∀ h, prc p (2 ^ c) i (j + 1) h ↔ (prc p (2 ^ c) i j h ∨ h = j) := fun h => by
            unfold prc
            constructor
            · rintro ⟨h1, h2⟩
              by_cases eh : h = j
              · exact Or.inr eh
              · exact Or.inl ⟨h1, by omega⟩
            · rintro (⟨h1, h2⟩ | rfl)
              · exact ⟨h1, by omega⟩
              · exact ⟨hj, by omega⟩
          rcases hI with ⟨a1, a2, no⟩ | ⟨g, hg1, g38, g39, hmin⟩
          · obtain ⟨s', e', f', hh⟩ := tg s 1000000000 j q (by omega) a2
            have fbj := fb j
            rw [e', oC_s]
            refine K1 s' ⟨fr_t q f', Or.inr ?_⟩
            rcases hh with ⟨_, b1, b2⟩ | ⟨b0, _⟩
            · refine ⟨j, (inn j).mpr (Or.inr rfl), b1, b2, fun h qh => ?_⟩
              rcases (inn h).mp qh with q' | rfl
              · exact absurd q' (no h)
              · unfold btr; omega
            · omega
          · obtain ⟨s', e', f', hh⟩ := tg s (f g) j q (by have := fb g; omega) g39
            rw [e', oC_s]
            refine K1 s' ⟨fr_t q f', Or.inr ?_⟩
            rcases hh with ⟨b0, b1, b2⟩ | ⟨b0, b1, b2⟩
            · refine ⟨j, (inn j).mpr (Or.inr rfl), b1, b2, fun h qh => ?_⟩
              rcases (inn h).mp qh with q' | rfl
              · have := hmin h q'
                unfold btr at this ⊢
                omega
              · unfold btr; omega
            · refine ⟨g, (inn g).mpr (Or.inl hg1), b1.trans g38, b2, fun h qh => ?_⟩
              rcases (inn h).mp qh with q' | rfl
              · exact hmin h q'
              · unfold prc at hg1
                unfold btr
                omega
        · have q1 : ¬ nI (p j) = nI i := fun q' => e ((nI_eq (by omega) (by omega)).mp q')
          rw [if_neg q1]
          refine K1 s ⟨q, ?_⟩
          have same : ∀ h, prc p (2 ^ c) i (j + 1) h ↔ prc p (2 ^ c) i j h := fun h => by
            unfold prc
            constructor
            · rintro ⟨h1, h2⟩
              refine ⟨h1, ?_⟩
              by_cases eh : h = j
              · subst eh; omega
              · omega
            · rintro ⟨h1, h2⟩
              exact ⟨h1, by omega⟩
          rcases hI with ⟨a1, a2, no⟩ | ⟨g, hg1, g38, g39, hmin⟩
          · exact Or.inl ⟨a1, a2, fun h q => no h ((same h).mp q)⟩
          · exact Or.inr ⟨g, (same g).mpr hg1, g38, g39, fun h q => hmin h ((same h).mp q)⟩
  · rintro k i s hi ⟨f1, hai⟩ K
    show ∃ Gs g z', _ ∧ _ ∧ F_X2_place_3_b (F_X2_place_3 k) s (nI m) x2 (nI D) (nI i) = _ ∧ _
    have hin : vp_in (nI i) 12 := vp_in_nI (by omega) (by omega)
    obtain ⟨r, er, hr⟩ := p_aim (gq s (fun k hk => f1.1 k (List.not_mem_nil))) (hl i hi) (r := 39 + i) (by omega) (by omega)
    unfold F_X2_place_3_b
    rw [f1.1 30 (by decide), e30, if_neg (nI_ge hi (by omega)), oA_in _ hin, oA_in _ hin, nI_clamp (by omega), f1.2 28 (by decide), a28, er]
    simp only [oC_s, oL_s, nI_1]
    refine K _ ⟨fr_A f1 (n0 i (by omega)), fun j hj => ?_⟩
    by_cases e : j = i
    · subst e; rw [sA_eq]; exact hr
    · rw [sA_ne _ _ _ _ (by omega)]; exact hai j (by omega)
