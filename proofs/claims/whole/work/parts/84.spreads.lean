/-! PURE: the reference's spreads -/
section SPR2
variable {s w : St} {x : Int32} {m n : Nat}
/-- if the first told the other, the other has nothing to tell -/
theorem tl_two (sl : Nat → Bool) (f : Nat → Nat) {p q t : Nat} (hne : p ≠ q) (h : tlC sl f p q t = true) : tlC sl (tl sl f p q t) q p t = false ∧ tl sl (tl sl f p q t) q p t = tl sl f p q t := by
  have e : tl sl f p q t = set1 f q t := by unfold tl; rw [h, if_pos rfl]
  have c : tlC sl (set1 f q t) q p t = false := by
    unfold tlC at h ⊢
    rw [Bool.and_eq_true, Bool.and_eq_true, decide_eq_true_iff, decide_eq_true_iff] at h
    have : set1 f q t p = f p := by unfold set1; rw [if_neg hne]
    rw [this, decide_eq_false (show ¬ t < f p by omega), Bool.and_false, Bool.and_false]
  rw [e]
  refine ⟨c, ?_⟩
  unfold tl
  rw [c, if_neg (by decide)]
theorem p_roundR (hz : knW s w x m) (hw : ntW w m n) (x4 : Int32) (k100 : St → Int32 → Int32 → Option St) {g : Nat → Int32} {f : Nat → Nat} (h : ar8 g f) : ∃ g' b, F_X12_spreads_109 k100 100000 (sA s 26 g) x4 0 0 = k100 (sA s 26 g') x4 (b2 b) ∧ ar8 g' (rnd (slF x4) (mtF w x m) (n1 w) (n2 w) (n3 w) m f) ∧ (b = true ↔ rnd (slF x4) (mtF w x m) (n1 w) (n2 w) (n3 w) m f ≠ f) := by
  obtain ⟨e27, _, e16, e18, e19, e20, _, e23⟩ := hz
  have hm := hw.1
  have fin := mS_fold (slF x4) (mtF w x m) (n1 w) (n2 w) (n3 w) f false m
  have key : ∃ g', F_X12_spreads_109 k100 100000 (sA s 26 g) x4 (b2 (foldN (mS (slF x4) (mtF w x m) (n1 w) (n2 w) (n3 w)) 0 (f, false)).2) (nI 0) = k100 (sA s 26 g') x4 (b2 (foldN (mS (slF x4) (mtF w x m) (n1 w) (n2 w) (n3 w)) m (f, false)).2) ∧ ar8 g' (foldN (mS (slF x4) (mtF w x m) (n1 w) (n2 w) (n3 w)) m (f, false)).1 := by
    refine loop_i (fun k i (g : Nat → Int32) => ∃ g', F_X12_spreads_109 k100 k (sA s 26 g) x4 (b2 (foldN (mS (slF x4) (mtF w x m) (n1 w) (n2 w) (n3 w)) i (f, false)).2) (nI i) = k100 (sA s 26 g') x4 (b2 (foldN (mS (slF x4) (mtF w x m) (n1 w) (n2 w) (n3 w)) m (f, false)).2) ∧ ar8 g' (foldN (mS (slF x4) (mtF w x m) (n1 w) (n2 w) (n3 w)) m (f, false)).1) (fun i g => ar8 g (foldN (mS (slF x4) (mtF w x m) (n1 w) (n2 w) (n3 w)) i (f, false)).1) m ?_ ?_ 100000 0 g (Nat.zero_le _) (by omega) h
    · intro k g hg
      refine ⟨g, ?_, hg⟩
      show F_X12_spreads_109_b k100 _ (sA s 26 g) x4 _ (nI m) = _
      unfold F_X12_spreads_109_b
      simp only [sA_1, e27]
      rw [if_pos (Int32.le_refl _)]
    · intro k i g hi hg K
      have hin : vp_in (nI i) 80 := vp_in_nI (by omega) (by omega)
      show ∃ g', F_X12_spreads_109_b k100 (F_X12_spreads_109 k100 k) (sA s 26 g) x4 _ (nI i) = _ ∧ _
      unfold F_X12_spreads_109_b F_X12_spreads_197 F_X12_spreads_199
      simp only [sA_1, e27, oL_s, sA_a, Nat.reduceEqDiff, ↓reduceIte, e23 i hi, b2_0, e16, e18, e19, e20, oA_in _ hin, nI_clamp (show i < 2 ^ 31 by omega), nI_1]
      rw [if_neg (nI_ge hi (by omega))]
      have nxt : foldN (mS (slF x4) (mtF w x m) (n1 w) (n2 w) (n3 w)) (i + 1) (f, false) = mS (slF x4) (mtF w x m) (n1 w) (n2 w) (n3 w) i (foldN (mS (slF x4) (mtF w x m) (n1 w) (n2 w) (n3 w)) i (f, false)) := rfl
      rw [nxt] at K
      generalize foldN (mS (slF x4) (mtF w x m) (n1 w) (n2 w) (n3 w)) i (f, false) = y at *
      have no : mtF w x m i = false → ∃ g', F_X12_spreads_109 k100 k (sA s 26 g) x4 (b2 y.2) (nI (i + 1)) = k100 (sA s 26 g') x4 (b2 (foldN (mS (slF x4) (mtF w x m) (n1 w) (n2 w) (n3 w)) m (f, false)).2) ∧ ar8 g' (foldN (mS (slF x4) (mtF w x m) (n1 w) (n2 w) (n3 w)) m (f, false)).1 := by
        intro q
        have : mS (slF x4) (mtF w x m) (n1 w) (n2 w) (n3 w) i y = y := by unfold mS; rw [q, if_neg (by decide)]
        rw [this] at K
        exact K g hg
      by_cases a : kn w x m i = false
      · rw [if_pos a]
        exact no (by unfold mtF; rw [a, Bool.false_and, Bool.and_false])
      · have a' : kn w x m i = true := by simpa using a
        rw [if_neg a]
        by_cases b : w.2.1 16 i = (1 : Int32)
        · obtain ⟨h1, h2, h3, h4, h5, h6, h7⟩ := nt_meet hw hi b
          have mt1 : mtF w x m i = true := by unfold mtF; rw [a', decide_eq_true hi, decide_eq_true b]; rfl
          have this : mS (slF x4) (mtF w x m) (n1 w) (n2 w) (n3 w) i y = (tl (slF x4) (tl (slF x4) y.1 (n1 w i) (n2 w i) (n3 w i)) (n2 w i) (n1 w i) (n3 w i), (y.2 || tlC (slF x4) y.1 (n1 w i) (n2 w i) (n3 w i)) || tlC (slF x4) (tl (slF x4) y.1 (n1 w i) (n2 w i) (n3 w i)) (n2 w i) (n1 w i) (n3 w i)) := by unfold mS; rw [mt1, if_pos rfl]
          rw [this] at K
          rw [if_pos b, h5, h6, h7]
          obtain ⟨g1, t1, r1⟩ := p_tellsR s x4 hg h1 h2 (show n3 w i ≤ 1000 by omega)
          rw [t1]
          simp only [oC_s, oL_s, b2_0]
          cases c1 : tlC (slF x4) y.1 (n1 w i) (n2 w i) (n3 w i)
          · rw [if_pos rfl]
            simp only [sA_a, Nat.reduceEqDiff, ↓reduceIte, e18, e19, e20, h5, h6, h7]
            obtain ⟨g2, t2, r2⟩ := p_tellsR s x4 r1 h2 h1 (show n3 w i ≤ 1000 by omega)
            rw [t2]
            simp only [oC_s, oL_s, b2_0]
            rw [c1, Bool.or_false] at K
            cases c2 : tlC (slF x4) (tl (slF x4) y.1 (n1 w i) (n2 w i) (n3 w i)) (n2 w i) (n1 w i) (n3 w i)
            · rw [c2, Bool.or_false] at K
              rw [if_pos rfl]; exact K g2 r2
            · rw [c2, Bool.or_true] at K
              rw [if_neg (by decide)]; exact K g2 r2
          · rw [if_neg (by decide)]
            obtain ⟨q1, q2⟩ := tl_two (slF x4) y.1 h3 c1
            rw [c1, q1, q2, Bool.or_true, Bool.or_false] at K
            exact K g1 r1
        · rw [if_neg b]
          exact no (by unfold mtF; rw [decide_eq_false b, Bool.and_false, Bool.and_false])
  obtain ⟨g', k1, k2⟩ := key
  rw [fin.1] at k2
  refine ⟨g', (foldN (mS (slF x4) (mtF w x m) (n1 w) (n2 w) (n3 w)) m (f, false)).2, k1, k2, ?_⟩
  rw [fin.2]
  exact ⟨fun h => h.elim (fun q => by cases q) id, Or.inr⟩
theorem p_roundsR (hz : knW s w x m) (hw : ntW w m n) (x4 : Int32) : ∀ j (g : Nat → Int32) (f : Nat → Nat) (b : Bool) fuel, ar8 g f → (b = false → rnd (slF x4) (mtF w x m) (n1 w) (n2 w) (n3 w) m f = f) → rnd (slF x4) (mtF w x m) (n1 w) (n2 w) (n3 w) m (itR (slF x4) (mtF w x m) (n1 w) (n2 w) (n3 w) m j f) = itR (slF x4) (mtF w x m) (n1 w) (n2 w) (n3 w) m j f → ∃ g', F_X12_spreads_100 (fuel + j + 2) (sA s 26 g) x4 (b2 b) = some (sA s 26 g') ∧ ar8 g' (itR (slF x4) (mtF w x m) (n1 w) (n2 w) (n3 w) m j f) := by
  have stop : ∀ (g : Nat → Int32) fuel, F_X12_spreads_100 (fuel + 1) (sA s 26 g) x4 (b2 false) = some (sA s 26 g) := by
    intro g fuel
    show F_X12_spreads_100_b _ (sA s 26 g) x4 (b2 false) = _
    unfold F_X12_spreads_100_b
    have b0 : b2 false = 0 := rfl
    rw [if_pos b0]
  have step : ∀ (g : Nat → Int32) (f : Nat → Nat) fuel, ar8 g f → ∃ g' b, F_X12_spreads_100 (fuel + 1) (sA s 26 g) x4 (b2 true) = F_X12_spreads_100 fuel (sA s 26 g') x4 (b2 b) ∧ ar8 g' (rnd (slF x4) (mtF w x m) (n1 w) (n2 w) (n3 w) m f) ∧ (b = true ↔ rnd (slF x4) (mtF w x m) (n1 w) (n2 w) (n3 w) m f ≠ f) := by
    intro g f fuel hg
    obtain ⟨g', b, t1, t2, t3⟩ := p_roundR hz hw x4 (F_X12_spreads_100 fuel) hg
    refine ⟨g', b, ?_, t2, t3⟩
    show F_X12_spreads_100_b _ (sA s 26 g) x4 (b2 true) = _
    unfold F_X12_spreads_100_b
    have b0 : ¬ b2 true = 0 := by decide
    rw [if_neg b0, oL_s, oL_s, t1]
  intro j
  induction j with
  | zero =>
    intro g f b fuel hg hb hst
    have hst' : rnd (slF x4) (mtF w x m) (n1 w) (n2 w) (n3 w) m f = f := hst
    cases b
    · exact ⟨g, stop g _, hg⟩
    · obtain ⟨g', b', t1, t2, t3⟩ := step g f (fuel + 0 + 1) hg
      rw [t1]
      cases b'
      · exact ⟨g', stop g' _, by rw [hst'] at t2; exact t2⟩
      · exact absurd hst' (t3.mp rfl)
  | succ j ih =>
    intro g f b fuel hg hb hst
    cases b
    · exact ⟨g, stop g _, by rw [itR_st (hb rfl)]; exact hg⟩
    · obtain ⟨g', b', t1, t2, t3⟩ := step g f (fuel + j + 2) hg
      rw [show fuel + (j + 1) + 2 = fuel + j + 2 + 1 by omega, t1]
      refine ih g' _ b' fuel t2 (fun h => ?_) hst
      have e : rnd (slF x4) (mtF w x m) (n1 w) (n2 w) (n3 w) m f = f := Classical.byContradiction (fun q => by rw [t3.mpr q] at h; cases h)
      rw [e, e]
theorem p_spreads (hz : knW s w x m) (hw : ntW w m n) (d x4 : Int32) : ∃ g, f_X12_spreads s d x4 = some (sA s 26 g) ∧ ar8 g (spr w x m d x4) := by
  obtain ⟨e27, _, e16, e18, e19, e20, _, e23⟩ := id hz
  have hm := hw.1
  unfold f_X12_spreads F_X12_spreads_0
  rw [oL_s]
  have key := loop_i (fun k i (g : Nat → Int32) => ∃ g', F_X12_spreads_2 k (sA s 26 g) d x4 (nI i) = some (sA s 26 g') ∧ ar8 g' (spr w x m d x4)) (fun i g => ∀ p, p < i → g p = nI 1000) 8 ?_ ?_ 100000 0 (s.2.1 26) (Nat.zero_le _) (by omega) (fun p hp => absurd hp (Nat.not_lt_zero p))
  · rw [sA_same] at key; exact key
  · intro k g hg
    show ∃ g', F_X12_spreads_2_b _ (sA s 26 g) d x4 (nI 8) = _ ∧ _
    unfold F_X12_spreads_2_b
    have q : (8 : Int32) ≤ nI 8 := Int32.le_refl _
    rw [if_pos q, oL_s]
    refine loop_i (fun k i (g : Nat → Int32) => ∃ g', F_X12_spreads_25 k (sA s 26 g) d x4 (nI i) = some (sA s 26 g') ∧ ar8 g' (spr w x m d x4)) (fun i g => ar8 g (foldN (sgS w x m d) i (fun _ => 1000))) m ?_ ?_ 100000 0 g (Nat.zero_le _) (by omega) (fun p hp => ⟨hg p hp, Nat.le_refl _⟩)
    · intro k g hg
      show ∃ g', F_X12_spreads_25_b _ (sA s 26 g) d x4 (nI m) = _ ∧ _
      unfold F_X12_spreads_25_b
      simp only [sA_1, e27, oL_s]
      rw [if_pos (Int32.le_refl _)]
      exact p_roundsR hz hw x4 8 g (ini w x m d) true 99990 hg (fun q => by cases q) (stable8 _ _ _ _ _ m (mt_p hw) _)
    · intro k i g hi hg K
      have hin : vp_in (nI i) 80 := vp_in_nI (by omega) (by omega)
      show ∃ g', F_X12_spreads_25_b (F_X12_spreads_25 k) (sA s 26 g) d x4 (nI i) = _ ∧ _
      unfold F_X12_spreads_25_b F_X12_spreads_92
      simp only [sA_1, e27, oL_s, sA_a, Nat.reduceEqDiff, ↓reduceIte, e23 i hi, b2_0, e16, e18, e19, e20, oA_in _ hin, nI_clamp (show i < 2 ^ 31 by omega), nI_1]
      rw [if_neg (nI_ge hi (by omega))]
      have nxt : foldN (sgS w x m d) (i + 1) (fun _ => 1000) = sgS w x m d i (foldN (sgS w x m d) i (fun _ => 1000)) := rfl
      rw [nxt] at K
      generalize foldN (sgS w x m d) i (fun _ => 1000) = f at *
      have no : sgF w x m d i = false → ∃ g', F_X12_spreads_25 k (sA s 26 g) d x4 (nI (i + 1)) = some (sA s 26 g') ∧ ar8 g' (spr w x m d x4) := by
        intro q
        have : sgS w x m d i f = f := by unfold sgS; rw [q, if_neg (by decide)]
        rw [this] at K
        exact K g hg
      by_cases a : kn w x m i = false
      · rw [if_pos a]
        exact no (by unfold sgF; rw [a]; rfl)
      · have a' : kn w x m i = true := by simpa using a
        rw [if_neg a]
        by_cases b : w.2.1 16 i = 0
        · rw [if_pos b]
          by_cases c : w.2.1 18 i = d
          · obtain ⟨h1, h2, h3, h4, h5, h6⟩ := nt_sight hw hi (Or.inl b)
            have hin2 : vp_in (nI (n2 w i)) 8 := vp_in_nI h2 (by omega)
            obtain ⟨r1, r2⟩ := hg (n2 w i) h2
            rw [if_pos c, h5, h6, oA_in _ hin2, oA_in _ hin2, nI_clamp (by omega), r1, jminN (by omega) (by omega), sA_sA]
            refine K _ ?_
            have : sgS w x m d i f = if n3 w i < f (n2 w i) then set1 f (n2 w i) (n3 w i) else f := by
              unfold sgS sgF
              rw [a', decide_eq_true b, decide_eq_true c, if_pos (by decide)]
            rw [this]
            by_cases e : n3 w i < f (n2 w i)
            · rw [if_pos e, Nat.min_eq_right (by omega)]; exact ar8_set hg (by omega)
            · rw [if_neg e, Nat.min_eq_left (by omega), fa_upd_same r1]; exact hg
          · rw [if_neg c]
            exact no (by unfold sgF; rw [decide_eq_false c, Bool.and_false, Bool.and_false])
        · rw [if_neg b]
          exact no (by unfold sgF; rw [decide_eq_false b, Bool.false_and, Bool.and_false])
  · intro k i g hi hg K
    have hin : vp_in (nI i) 8 := vp_in_nI hi (by omega)
    have q : ¬ (8 : Int32) ≤ nI i := nI_ge (b := 8) hi (by omega)
    show ∃ g', F_X12_spreads_2_b (F_X12_spreads_2 k) (sA s 26 g) d x4 (nI i) = _ ∧ _
    unfold F_X12_spreads_2_b
    rw [if_neg q, oA_in _ hin, oL_s, oL_s, nI_clamp (by omega), sA_sA, sA_eq, nI_1]
    refine K _ (fun p hp => ?_)
    rw [upd_i]
    by_cases e : p = i
    · rw [if_pos e]; rfl
    · rw [if_neg e]; exact hg p (by omega)
end SPR2
