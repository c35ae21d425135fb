/-! PURE: who can know a draft: the class's spread, the reference's spreads -/
def n1 (w : St) (i : Nat) : Nat := (w.2.1 18 i).toNatClampNeg
def n2 (w : St) (i : Nat) : Nat := (w.2.1 19 i).toNatClampNeg
def n3 (w : St) (i : Nat) : Nat := (w.2.1 20 i).toNatClampNeg
theorem nt_meet {w : St} {m n i : Nat} (h : ntW w m n) (hi : i < m) (hk : w.2.1 16 i = 1) : n1 w i < 8 ∧ n2 w i < 8 ∧ n1 w i ≠ n2 w i ∧ n3 w i ≤ 999 ∧ w.2.1 18 i = nI (n1 w i) ∧ w.2.1 19 i = nI (n2 w i) ∧ w.2.1 20 i = nI (n3 w i) := by
  have := (h.2.2 i hi).2
  unfold noteD at this
  rw [hk] at this
  rcases this with ⟨a | a, _⟩ | ⟨_, p, q, t, h1, h2, h3, h4, e1, e2, e3⟩ | ⟨a, _⟩ | ⟨a, _⟩
  · exact absurd a (by decide)
  · exact absurd a (by decide)
  · unfold n1 n2 n3
    rw [e1, e2, e3, nI_clamp (by omega), nI_clamp (by omega), nI_clamp (by omega)]
    exact ⟨h1, h2, h3, h4, rfl, rfl, rfl⟩
  · exact absurd a (by decide)
  · exact absurd a (by decide)
theorem nt_sight {w : St} {m n i : Nat} (h : ntW w m n) (hi : i < m) (hk : w.2.1 16 i = 0 ∨ w.2.1 16 i = 2) : n1 w i < 12 ∧ n2 w i < 8 ∧ n3 w i ≤ 999 ∧ w.2.1 18 i = nI (n1 w i) ∧ w.2.1 19 i = nI (n2 w i) ∧ w.2.1 20 i = nI (n3 w i) := by
  have := (h.2.2 i hi).2
  unfold noteD at this
  rcases this with ⟨_, x, p, t, h1, h2, h3, e1, e2, e3⟩ | ⟨a, _⟩ | ⟨a, _⟩ | ⟨a, _⟩
  · unfold n1 n2 n3
    rw [e1, e2, e3, nI_clamp (by omega), nI_clamp (by omega), nI_clamp (by omega)]
    exact ⟨h1, h2, h3, rfl, rfl, rfl⟩
  all_goals
    rw [a] at hk
    exact absurd hk (by decide)
def knZ (s w : St) (x : Int32) (m : Nat) : Prop := s.1 29 = nI m ∧ s.2.1 11 = w.2.1 16 ∧ s.2.1 12 = w.2.1 18 ∧ s.2.1 13 = w.2.1 19 ∧ s.2.1 14 = w.2.1 20 ∧ ∀ i, i < m → s.2.1 17 i = b2 (kn w x m i)
def mtF (w : St) (x : Int32) (m i : Nat) : Bool := decide (i < m) && (kn w x m i && decide (w.2.1 16 i = 1))
def sgF (w : St) (x : Int32) (m : Nat) (d : Int32) (i : Nat) : Bool := kn w x m i && (decide (w.2.1 16 i = 0) && decide (w.2.1 18 i = d))
def slF (x4 : Int32) (p : Nat) : Bool := decide (nI p = x4)
def ar8 (g : Nat → Int32) (f : Nat → Nat) : Prop := ∀ p, p < 8 → g p = nI (f p) ∧ f p ≤ 1000
def sgS (w : St) (x : Int32) (m : Nat) (d : Int32) (i : Nat) (f : Nat → Nat) : Nat → Nat := if sgF w x m d i then (if n3 w i < f (n2 w i) then set1 f (n2 w i) (n3 w i) else f) else f
def ini (w : St) (x : Int32) (m : Nat) (d : Int32) : Nat → Nat := foldN (sgS w x m d) m (fun _ => 1000)
/-- since when each can know draft d, if x4 tells nobody -/
def spr (w : St) (x : Int32) (m : Nat) (d x4 : Int32) : Nat → Nat := itR (slF x4) (mtF w x m) (n1 w) (n2 w) (n3 w) m 8 (ini w x m d)
theorem mt_p {w : St} {x : Int32} {m n : Nat} (h : ntW w m n) (i : Nat) (hm : mtF w x m i = true) : n1 w i < 8 ∧ n2 w i < 8 := by
  unfold mtF at hm
  rw [Bool.and_eq_true, Bool.and_eq_true, decide_eq_true_iff, decide_eq_true_iff] at hm
  have := nt_meet h hm.1 hm.2.2
  exact ⟨this.1, this.2.1⟩
theorem ar8_set {g : Nat → Int32} {f : Nat → Nat} {q t : Nat} (h : ar8 g f) (ht : t ≤ 1000) : ar8 (upd g q (nI t)) (set1 f q t) := by
  intro p hp
  unfold set1
  rw [upd_i]
  by_cases e : p = q
  · rw [if_pos e, if_pos e]; exact ⟨rfl, ht⟩
  · rw [if_neg e, if_neg e]; exact h p hp
theorem p_hears (s : St) {g : Nat → Int32} {f : Nat → Nat} {q t : Nat} (h : ar8 g f) (hq : q < 8) (ht : t ≤ 1000) : ∃ g', f_X7_hears (sA s 35 g) (nI q) (nI t) = some (b2 (decide (t < f q)), sA s 35 g') ∧ ar8 g' (if t < f q then set1 f q t else f) := by
  have hin : vp_in (nI q) 8 := vp_in_nI hq (by omega)
  obtain ⟨e, b⟩ := h q hq
  unfold f_X7_hears F_X7_hears_0
  simp only [oA_in _ hin, nI_clamp (show q < 2 ^ 31 by omega), sA_eq, e, oL_s, sA_sA]
  by_cases c : t < f q
  · rw [if_pos (nI_lt c (by omega)), if_pos c, decide_eq_true c, oC_s]
    exact ⟨_, oZ_1 _, ar8_set h ht⟩
  · rw [if_neg (nI_nlt (by omega) (by omega)), if_neg c, decide_eq_false c, oC_s]
    exact ⟨_, oZ_0 _, h⟩
theorem p_tellsC (s : St) {g : Nat → Int32} {f : Nat → Nat} {p q t : Nat} (x4 : Int32) (h : ar8 g f) (hp : p < 8) (hq : q < 8) (ht : t ≤ 1000) : ∃ g', f_X7_tells (sA s 35 g) (nI p) (nI q) (nI t) x4 = some (b2 (tlC (slF x4) f p q t), sA s 35 g') ∧ ar8 g' (tl (slF x4) f p q t) := by
  have hin : vp_in (nI p) 8 := vp_in_nI hp (by omega)
  obtain ⟨e, b⟩ := h p hp
  unfold f_X7_tells F_X7_tells_0 F_X7_tells_29 F_X7_tells_30
  simp only [oA_in _ hin, nI_clamp (show p < 2 ^ 31 by omega), sA_eq, e]
  unfold tl tlC slF
  by_cases c1 : nI p = x4
  · rw [if_pos c1, decide_eq_true c1, oC_s]
    exact ⟨g, oZ_0 _, by rw [if_neg (by simp)]; exact h⟩
  · rw [if_neg c1, decide_eq_false c1]
    by_cases c2 : t < f p
    · rw [if_pos (nI_lt c2 (by omega)), decide_eq_false (show ¬ f p ≤ t by omega), oC_s]
      exact ⟨g, oZ_0 _, by rw [if_neg (by simp)]; exact h⟩
    · rw [if_neg (nI_nlt (by omega) (by omega)), decide_eq_true (show f p ≤ t by omega)]
      obtain ⟨g', h1, h2⟩ := p_hears s h hq ht
      rw [h1]
      simp only [oC_s, oL_s, b2_0]
      by_cases c3 : t < f q
      · rw [if_pos c3] at h2
        rw [decide_eq_true c3, if_neg (by decide), oC_s]
        exact ⟨g', oZ_1 _, by rw [if_pos (by decide)]; exact h2⟩
      · rw [if_neg c3] at h2
        rw [decide_eq_false c3, if_pos rfl, oC_s]
        exact ⟨g', oZ_0 _, by rw [if_neg (by decide)]; exact h2⟩
theorem p_tellsR (s : St) {g : Nat → Int32} {f : Nat → Nat} {p q t : Nat} (x4 : Int32) (h : ar8 g f) (hp : p < 8) (hq : q < 8) (ht : t ≤ 1000) : ∃ g', f_X12_tells (sA s 26 g) (nI p) (nI q) (nI t) x4 = some (b2 (tlC (slF x4) f p q t), sA s 26 g') ∧ ar8 g' (tl (slF x4) f p q t) := by
  have hin : vp_in (nI p) 8 := vp_in_nI hp (by omega)
  have hin2 : vp_in (nI q) 8 := vp_in_nI hq (by omega)
  obtain ⟨e, b⟩ := h p hp
  obtain ⟨e', b'⟩ := h q hq
  unfold f_X12_tells F_X12_tells_0 F_X12_tells_26
  simp only [oA_in _ hin, oA_in _ hin2, nI_clamp (show p < 2 ^ 31 by omega), nI_clamp (show q < 2 ^ 31 by omega), sA_eq, e, e', oL_s, sA_sA]
  unfold tl tlC slF
  by_cases c1 : nI p = x4
  · rw [if_pos c1, decide_eq_true c1, oC_s]
    exact ⟨g, oZ_0 _, by rw [if_neg (by simp)]; exact h⟩
  · rw [if_neg c1, decide_eq_false c1]
    by_cases c2 : t < f p
    · rw [if_pos (nI_lt c2 (by omega)), decide_eq_false (show ¬ f p ≤ t by omega), oC_s]
      exact ⟨g, oZ_0 _, by rw [if_neg (by simp)]; exact h⟩
    · rw [if_neg (nI_nlt (by omega) (by omega)), decide_eq_true (show f p ≤ t by omega)]
      by_cases c3 : t < f q
      · rw [if_pos (nI_lt c3 (by omega)), decide_eq_true c3, oC_s]
        exact ⟨_, oZ_1 _, by rw [if_pos (by decide)]; exact ar8_set h ht⟩
      · rw [if_neg (nI_nlt (by omega) (by omega)), decide_eq_false c3, oC_s]
        exact ⟨g, oZ_0 _, by rw [if_neg (by simp)]; exact h⟩
theorem b2_or (a b : Bool) : b2 a ||| b2 b = b2 (a || b) := by cases a <;> cases b <;> decide
section SPR
variable {s w : St} {x : Int32} {m n : Nat}
theorem p_meetAll (hz : knZ s w x m) (hw : ntW w m n) (x4 : Int32) {g : Nat → Int32} {f : Nat → Nat} (h : ar8 g f) : ∃ g' b, f_X7_meetAll (sA s 35 g) x4 = some (b2 b, sA s 35 g') ∧ ar8 g' (rnd (slF x4) (mtF w x m) (n1 w) (n2 w) (n3 w) m f) ∧ (b = false → rnd (slF x4) (mtF w x m) (n1 w) (n2 w) (n3 w) m f = f) := by
  obtain ⟨e29, e11, e12, e13, e14, e17⟩ := hz
  have hm := hw.1
  have fin := mS_fold (slF x4) (mtF w x m) (n1 w) (n2 w) (n3 w) f false m
  have key : ∃ g', F_X7_meetAll_4 100000 (sA s 35 g) x4 (b2 (foldN (mS (slF x4) (mtF w x m) (n1 w) (n2 w) (n3 w)) 0 (f, false)).2) (nI 0) = some (b2 (foldN (mS (slF x4) (mtF w x m) (n1 w) (n2 w) (n3 w)) m (f, false)).2, sA s 35 g') ∧ ar8 g' (foldN (mS (slF x4) (mtF w x m) (n1 w) (n2 w) (n3 w)) m (f, false)).1 := by
    refine loop_i (fun k i (g : Nat → Int32) => ∃ g', F_X7_meetAll_4 k (sA s 35 g) x4 (b2 (foldN (mS (slF x4) (mtF w x m) (n1 w) (n2 w) (n3 w)) i (f, false)).2) (nI i) = some (b2 (foldN (mS (slF x4) (mtF w x m) (n1 w) (n2 w) (n3 w)) m (f, false)).2, sA s 35 g') ∧ ar8 g' (foldN (mS (slF x4) (mtF w x m) (n1 w) (n2 w) (n3 w)) m (f, false)).1) (fun i g => ar8 g (foldN (mS (slF x4) (mtF w x m) (n1 w) (n2 w) (n3 w)) i (f, false)).1) m ?_ ?_ 100000 0 g (Nat.zero_le _) (by omega) h
    · intro k g hg
      refine ⟨g, ?_, hg⟩
      show F_X7_meetAll_4_b _ (sA s 35 g) x4 _ (nI m) = _
      unfold F_X7_meetAll_4_b
      simp only [sA_1, e29]
      rw [if_pos (Int32.le_refl _)]
    · intro k i g hi hg K
      have hin : vp_in (nI i) 80 := vp_in_nI (by omega) (by omega)
      show ∃ g', F_X7_meetAll_4_b (F_X7_meetAll_4 k) (sA s 35 g) x4 _ (nI i) = _ ∧ _
      unfold F_X7_meetAll_4_b F_X7_meetAll_97
      rw [p_isKnown _ _ (show i < 80 by omega)]
      simp only [sA_1, e29, oC_s, oL_s, sA_a, Nat.reduceEqDiff, ↓reduceIte, e17 i hi, b2_0, e11, e12, e13, e14, oA_in _ hin, nI_clamp (show i < 2 ^ 31 by omega), nI_1]
      rw [if_neg (nI_ge hi (by omega))]
      have nxt : foldN (mS (slF x4) (mtF w x m) (n1 w) (n2 w) (n3 w)) (i + 1) (f, false) = mS (slF x4) (mtF w x m) (n1 w) (n2 w) (n3 w) i (foldN (mS (slF x4) (mtF w x m) (n1 w) (n2 w) (n3 w)) i (f, false)) := rfl
      rw [nxt] at K
      generalize foldN (mS (slF x4) (mtF w x m) (n1 w) (n2 w) (n3 w)) i (f, false) = y at *
      have no : mtF w x m i = false → ∃ g', F_X7_meetAll_4 k (sA s 35 g) x4 (b2 y.2) (nI (i + 1)) = some (b2 (foldN (mS (slF x4) (mtF w x m) (n1 w) (n2 w) (n3 w)) m (f, false)).2, sA s 35 g') ∧ ar8 g' (foldN (mS (slF x4) (mtF w x m) (n1 w) (n2 w) (n3 w)) m (f, false)).1 := by
        intro q
        have : mS (slF x4) (mtF w x m) (n1 w) (n2 w) (n3 w) i y = y := by unfold mS; rw [q, if_neg (by decide)]
        rw [this] at K
        exact K g hg
      by_cases a : kn w x m i = false
      · rw [if_pos a, if_pos rfl]
        exact no (by unfold mtF; rw [a, Bool.false_and, Bool.and_false])
      · have a' : kn w x m i = true := by simpa using a
        rw [if_neg a]
        by_cases b : w.2.1 16 i = (1 : Int32)
        · obtain ⟨h1, h2, h3, h4, h5, h6, h7⟩ := nt_meet hw hi b
          have mt1 : mtF w x m i = true := by unfold mtF; rw [a', decide_eq_true hi, decide_eq_true b]; rfl
          rw [if_pos b, if_neg (by decide), h5, h6, h7]
          obtain ⟨g1, t1, r1⟩ := p_tellsC s x4 hg h1 h2 (show n3 w i ≤ 1000 by omega)
          rw [t1]
          simp only [oC_s, oL_s, sA_a, Nat.reduceEqDiff, ↓reduceIte, e12, e13, e14, h5, h6, h7]
          obtain ⟨g2, t2, r2⟩ := p_tellsC s x4 r1 h2 h1 (show n3 w i ≤ 1000 by omega)
          rw [t2]
          simp only [oC_s, oL_s, b2_or]
          have : mS (slF x4) (mtF w x m) (n1 w) (n2 w) (n3 w) i y = (tl (slF x4) (tl (slF x4) y.1 (n1 w i) (n2 w i) (n3 w i)) (n2 w i) (n1 w i) (n3 w i), (y.2 || tlC (slF x4) y.1 (n1 w i) (n2 w i) (n3 w i)) || tlC (slF x4) (tl (slF x4) y.1 (n1 w i) (n2 w i) (n3 w i)) (n2 w i) (n1 w i) (n3 w i)) := by unfold mS; rw [mt1, if_pos rfl]
          rw [this] at K
          exact K g2 r2
        · rw [if_neg b, if_pos rfl]
          exact no (by unfold mtF; rw [decide_eq_false b, Bool.and_false, Bool.and_false])
  obtain ⟨g', k1, k2⟩ := key
  rw [fin.1] at k2
  refine ⟨g', (foldN (mS (slF x4) (mtF w x m) (n1 w) (n2 w) (n3 w)) m (f, false)).2, ?_, k2, ?_⟩
  · unfold f_X7_meetAll F_X7_meetAll_0
    simp only [oL_s]
    have k1' : F_X7_meetAll_4 100000 (sA s 35 g) x4 0 0 = some (b2 (foldN (mS (slF x4) (mtF w x m) (n1 w) (n2 w) (n3 w)) m (f, false)).2, sA s 35 g') := k1
    rw [k1', oC_s]
    cases (foldN (mS (slF x4) (mtF w x m) (n1 w) (n2 w) (n3 w)) m (f, false)).2
    · exact oZ_0 _
    · exact oZ_1 _
  · intro hb
    apply Classical.byContradiction
    intro hn
    rw [fin.2.mpr (Or.inr hn)] at hb
    cases hb
theorem itR_st {sl mt : Nat → Bool} {pa pb tt : Nat → Nat} {f : Nat → Nat} (h : rnd sl mt pa pb tt m f = f) : ∀ k, itR sl mt pa pb tt m k f = f := by
  intro k
  induction k with
  | zero => rfl
  | succ k ih => show itR sl mt pa pb tt m k (rnd sl mt pa pb tt m f) = f; rw [h]; exact ih
theorem p_spread (hz : knZ s w x m) (hw : ntW w m n) (d x4 : Int32) : ∃ g, f_X7_spread s d x4 = some (sA s 35 g) ∧ ar8 g (spr w x m d x4) := by
  obtain ⟨e29, e11, e12, e13, e14, e17⟩ := id hz
  have hm := hw.1
  unfold f_X7_spread F_X7_spread_0
  rw [p_fill s (show 35 < 54 by omega) (by decide) (by decide), oC_s, oL_s, oL_s]
  refine loop_i (fun k i (g : Nat → Int32) => ∃ g', F_X7_spread_12 k (sA s 35 g) d x4 (nI i) = some (sA s 35 g') ∧ ar8 g' (spr w x m d x4)) (fun i g => ar8 g (foldN (sgS w x m d) i (fun _ => 1000))) m ?_ ?_ 100000 0 _ (Nat.zero_le _) (by omega) (fun p hp => ⟨if_pos hp, Nat.le_refl _⟩)
  · intro k g hg
    show ∃ g', F_X7_spread_12_b _ (sA s 35 g) d x4 (nI m) = _ ∧ _
    unfold F_X7_spread_12_b
    simp only [sA_1, e29, oL_s]
    rw [if_pos (Int32.le_refl _)]
    refine loop_i (fun k i (y : (Nat → Int32) × (Nat → Nat) × Bool) => ∃ g', F_X7_spread_82 k (sA s 35 y.1) x4 (b2 y.2.2) (nI i) = some (sA s 35 g') ∧ ar8 g' (spr w x m d x4)) (fun i y => ar8 y.1 y.2.1 ∧ itR (slF x4) (mtF w x m) (n1 w) (n2 w) (n3 w) m (8 - i) y.2.1 = spr w x m d x4 ∧ (y.2.2 = false → rnd (slF x4) (mtF w x m) (n1 w) (n2 w) (n3 w) m y.2.1 = y.2.1)) 8 ?_ ?_ 100000 0 (g, ini w x m d, true) (Nat.zero_le _) (by omega) ⟨hg, rfl, fun q => by cases q⟩
    · rintro k2 ⟨g, f, b⟩ ⟨y1, y2, y3⟩
      refine ⟨g, ?_, by rw [← y2]; exact y1⟩
      show F_X7_spread_82_b _ (sA s 35 g) x4 (b2 b) (nI 8) = _
      unfold F_X7_spread_82_b F_X7_spread_105
      have q : (8 : Int32) ≤ nI 8 := Int32.le_refl _
      rw [if_pos q]
    · rintro k2 i ⟨g, f, b⟩ hi ⟨y1, y2, y3⟩ K
      show ∃ g', F_X7_spread_82_b (F_X7_spread_82 k2) (sA s 35 g) x4 (b2 b) (nI i) = _ ∧ _
      unfold F_X7_spread_82_b F_X7_spread_105
      have q : ¬ (8 : Int32) ≤ nI i := nI_ge (b := 8) hi (by omega)
      rw [if_neg q]
      cases b
      · have b0 : b2 false = 0 := rfl
        rw [if_pos b0]
        refine ⟨g, rfl, ?_⟩
        have y2' : itR (slF x4) (mtF w x m) (n1 w) (n2 w) (n3 w) m (8 - i) f = spr w x m d x4 := y2
        rw [itR_st (y3 rfl)] at y2'
        rw [← y2']; exact y1
      · have b0 : ¬ b2 true = 0 := by decide
        rw [if_neg b0]
        obtain ⟨g', b', t1, t2, t3⟩ := p_meetAll hz hw x4 y1
        rw [t1]
        simp only [oC_s, oL_s, nI_1]
        refine K (g', _, b') ⟨t2, ?_, ?_⟩
        · rw [← y2, show 8 - i = (8 - (i + 1)) + 1 by omega]; rfl
        · intro hb
          show rnd _ _ _ _ _ m (rnd _ _ _ _ _ m f) = rnd _ _ _ _ _ m f
          rw [t3 hb, t3 hb]
  · intro k i g hi hg K
    have hin : vp_in (nI i) 80 := vp_in_nI (by omega) (by omega)
    show ∃ g', F_X7_spread_12_b (F_X7_spread_12 k) (sA s 35 g) d x4 (nI i) = _ ∧ _
    unfold F_X7_spread_12_b F_X7_spread_71
    rw [p_isKnown _ _ (show i < 80 by omega)]
    simp only [sA_1, e29, oC_s, oL_s, sA_a, Nat.reduceEqDiff, ↓reduceIte, e17 i hi, b2_0, e11, e12, e13, e14, oA_in _ hin, nI_clamp (show i < 2 ^ 31 by omega), nI_1]
    rw [if_neg (nI_ge hi (by omega))]
    have nxt : foldN (sgS w x m d) (i + 1) (fun _ => 1000) = sgS w x m d i (foldN (sgS w x m d) i (fun _ => 1000)) := rfl
    rw [nxt] at K
    generalize foldN (sgS w x m d) i (fun _ => 1000) = f at *
    have no : sgF w x m d i = false → ∃ g', F_X7_spread_12 k (sA s 35 g) d x4 (nI (i + 1)) = some (sA s 35 g') ∧ ar8 g' (spr w x m d x4) := by
      intro q
      have : sgS w x m d i f = f := by unfold sgS; rw [q, if_neg (by decide)]
      rw [this] at K
      exact K g hg
    by_cases a : kn w x m i = false
    · rw [if_pos a, if_pos rfl]
      exact no (by unfold sgF; rw [a]; rfl)
    · have a' : kn w x m i = true := by simpa using a
      rw [if_neg a]
      by_cases b : w.2.1 16 i = 0
      · rw [if_pos b, if_neg (by decide)]
        by_cases c : w.2.1 18 i = d
        · obtain ⟨h1, h2, h3, h4, h5, h6⟩ := nt_sight hw hi (Or.inl b)
          rw [if_pos c, h5, h6]
          obtain ⟨g1, t1, r1⟩ := p_hears s hg h2 (show n3 w i ≤ 1000 by omega)
          rw [t1]
          simp only [oC_s]
          refine K g1 ?_
          have : sgS w x m d i f = if n3 w i < f (n2 w i) then set1 f (n2 w i) (n3 w i) else f := by
            unfold sgS sgF
            rw [a', decide_eq_true b, decide_eq_true c, if_pos (by decide)]
          rw [this]; exact r1
        · rw [if_neg c]
          exact no (by unfold sgF; rw [decide_eq_false c, Bool.and_false, Bool.and_false])
      · rw [if_neg b, if_pos rfl]
        exact no (by unfold sgF; rw [decide_eq_false b, Bool.false_and, Bool.and_false])
end SPR
