/-! PURE: rounds of meetings; eight of them are enough -/
def set1 (f : Nat → Nat) (q t : Nat) : Nat → Nat := fun j => if j = q then t else f j
section RND
variable (sl mt : Nat → Bool) (pa pb tt : Nat → Nat)
def tlC (f : Nat → Nat) (p q t : Nat) : Bool := !sl p && (decide (f p ≤ t) && decide (t < f q))
def tl (f : Nat → Nat) (p q t : Nat) : Nat → Nat := if tlC sl f p q t then set1 f q t else f
def meet (i : Nat) (f : Nat → Nat) : Nat → Nat := if mt i then tl sl (tl sl f (pa i) (pb i) (tt i)) (pb i) (pa i) (tt i) else f
def mS (i : Nat) (x : (Nat → Nat) × Bool) : (Nat → Nat) × Bool := if mt i then (tl sl (tl sl x.1 (pa i) (pb i) (tt i)) (pb i) (pa i) (tt i), (x.2 || tlC sl x.1 (pa i) (pb i) (tt i)) || tlC sl (tl sl x.1 (pa i) (pb i) (tt i)) (pb i) (pa i) (tt i)) else x
def rnd (m : Nat) (f : Nat → Nat) : Nat → Nat := foldN (meet sl mt pa pb tt) m f
def itR (m : Nat) : Nat → (Nat → Nat) → (Nat → Nat)
  | 0, f => f
  | k + 1, f => itR m k (rnd sl mt pa pb tt m f)
theorem tl_le (f : Nat → Nat) (p q t j : Nat) : tl sl f p q t j ≤ f j := by
  unfold tl
  cases h : tlC sl f p q t
  · rw [if_neg (by decide)]; exact Nat.le_refl _
  · rw [if_pos rfl]
    unfold tlC at h
    rw [Bool.and_eq_true, Bool.and_eq_true, decide_eq_true_iff, decide_eq_true_iff] at h
    unfold set1
    by_cases e : j = q
    · rw [if_pos e, e]; omega
    · rw [if_neg e]; exact Nat.le_refl _
theorem tl_eq (f : Nat → Nat) (p q t : Nat) : tlC sl f p q t = true ↔ tl sl f p q t ≠ f := by
  unfold tl
  cases h : tlC sl f p q t
  · rw [if_neg (by decide)]
    exact ⟨fun r => (by cases r), fun r => absurd rfl r⟩
  · rw [if_pos rfl]
    refine ⟨fun _ r => ?_, fun _ => rfl⟩
    unfold tlC at h
    rw [Bool.and_eq_true, Bool.and_eq_true, decide_eq_true_iff, decide_eq_true_iff] at h
    have := congrFun r q
    unfold set1 at this
    rw [if_pos rfl] at this
    omega
theorem meet_le (i : Nat) (f : Nat → Nat) (j : Nat) : meet sl mt pa pb tt i f j ≤ f j := by
  unfold meet
  cases mt i
  · rw [if_neg (by decide)]; exact Nat.le_refl _
  · rw [if_pos rfl]; exact Nat.le_trans (tl_le sl _ _ _ _ j) (tl_le sl _ _ _ _ j)
theorem fold_le (f : Nat → Nat) (j : Nat) : ∀ i, foldN (meet sl mt pa pb tt) i f j ≤ f j
  | 0 => Nat.le_refl _
  | i + 1 => Nat.le_trans (meet_le sl mt pa pb tt i _ j) (fold_le f j i)
theorem fold_mono (f : Nat → Nat) (j i : Nat) : ∀ k, foldN (meet sl mt pa pb tt) (i + k) f j ≤ foldN (meet sl mt pa pb tt) i f j
  | 0 => Nat.le_refl _
  | k + 1 => Nat.le_trans (meet_le sl mt pa pb tt (i + k) _ j) (fold_mono f j i k)
theorem rnd_le (m : Nat) (f : Nat → Nat) (j : Nat) : rnd sl mt pa pb tt m f j ≤ f j := fold_le sl mt pa pb tt f j m
theorem itR_le (m : Nat) : ∀ k f j, itR sl mt pa pb tt m k f j ≤ f j
  | 0, _, _ => Nat.le_refl _
  | k + 1, f, j => Nat.le_trans (itR_le m k _ j) (rnd_le sl mt pa pb tt m f j)
theorem itR_s (m : Nat) : ∀ k f, itR sl mt pa pb tt m (k + 1) f = rnd sl mt pa pb tt m (itR sl mt pa pb tt m k f)
  | 0, _ => rfl
  | k + 1, f => itR_s m k (rnd sl mt pa pb tt m f)
/-- states and whether there was news -/
theorem mS_fold (f : Nat → Nat) (b : Bool) : ∀ i, (foldN (mS sl mt pa pb tt) i (f, b)).1 = foldN (meet sl mt pa pb tt) i f ∧ ((foldN (mS sl mt pa pb tt) i (f, b)).2 = true ↔ b = true ∨ foldN (meet sl mt pa pb tt) i f ≠ f) := by
  intro i
  induction i with
  | zero => exact ⟨rfl, ⟨Or.inl, fun h => h.elim id (fun h => absurd rfl h)⟩⟩
  | succ i ih =>
    obtain ⟨h1, h2⟩ := ih
    have hl := fold_le sl mt pa pb tt f
    show (mS sl mt pa pb tt i (foldN (mS sl mt pa pb tt) i (f, b))).1 = meet sl mt pa pb tt i (foldN (meet sl mt pa pb tt) i f) ∧ ((mS sl mt pa pb tt i (foldN (mS sl mt pa pb tt) i (f, b))).2 = true ↔ b = true ∨ meet sl mt pa pb tt i (foldN (meet sl mt pa pb tt) i f) ≠ f)
    generalize foldN (mS sl mt pa pb tt) i (f, b) = y at *
    have hg := fun j => hl j i
    generalize foldN (meet sl mt pa pb tt) i f = g at *
    unfold mS meet
    cases mt i
    · rw [if_neg (by decide), if_neg (by decide)]; exact ⟨h1, h2⟩
    · rw [if_pos rfl, if_pos rfl, h1]
      refine ⟨rfl, ?_⟩
      show ((y.2 || tlC sl g (pa i) (pb i) (tt i)) || tlC sl (tl sl g (pa i) (pb i) (tt i)) (pb i) (pa i) (tt i)) = true ↔ _
      rw [Bool.or_eq_true, Bool.or_eq_true, h2, tl_eq, tl_eq]
      have hl1 := fun j => tl_le sl g (pa i) (pb i) (tt i) j
      have hl2 := fun j => tl_le sl (tl sl g (pa i) (pb i) (tt i)) (pb i) (pa i) (tt i) j
      generalize tl sl g (pa i) (pb i) (tt i) = g1 at *
      generalize tl sl g1 (pb i) (pa i) (tt i) = g2 at *
      have ex : ∀ {a c : Nat → Nat}, (∀ j, a j ≤ c j) → a ≠ c → ∃ j, a j < c j := by
        intro a c h n
        rcases Classical.em (∃ j, a j < c j) with q | q
        · exact q
        · exfalso; apply n; funext j
          rcases Nat.lt_or_ge (a j) (c j) with r | r
          · exact absurd ⟨j, r⟩ q
          · exact Nat.le_antisymm (h j) r
      constructor
      · rintro ((h | h) | h)
        · rcases h with h | h
          · exact Or.inl h
          · right
            obtain ⟨j, hj⟩ := ex hg h
            intro e
            have := congrFun e j
            have := hl1 j; have := hl2 j; omega
        · right
          obtain ⟨j, hj⟩ := ex hl1 h
          intro e
          have := congrFun e j
          have := hg j; have := hl2 j; omega
        · right
          obtain ⟨j, hj⟩ := ex hl2 h
          intro e
          have := congrFun e j
          have := hg j; have := hl1 j; omega
      · rintro (h | h)
        · exact Or.inl (Or.inl (Or.inl h))
        · by_cases e1 : g1 = g
          · by_cases e2 : g2 = g1
            · left; left; right
              intro e; apply h; rw [e2, e1, e]
            · exact Or.inr e2
          · exact Or.inl (Or.inr e1)
/-- who meets one who knows it hears it in the same round -/
theorem rnd_hear (m : Nat) (f : Nat → Nat) {i : Nat} (hi : i < m) (hm : mt i = true) {p q : Nat} (hpq : (q = pa i ∧ p = pb i) ∨ (q = pb i ∧ p = pa i)) (hs : sl q = false) (hf : f q ≤ tt i) : rnd sl mt pa pb tt m f p ≤ tt i := by
  have h1 : foldN (meet sl mt pa pb tt) i f q ≤ tt i := Nat.le_trans (fold_le sl mt pa pb tt f q i) hf
  have h2 : foldN (meet sl mt pa pb tt) (i + 1) f p ≤ tt i := by
    show meet sl mt pa pb tt i (foldN (meet sl mt pa pb tt) i f) p ≤ tt i
    generalize foldN (meet sl mt pa pb tt) i f = g at *
    unfold meet
    rw [if_pos hm]
    have one : ∀ (g : Nat → Nat) a b, sl a = false → g a ≤ tt i → tl sl g a b (tt i) b ≤ tt i := by
      intro g a b ha hg
      unfold tl tlC
      rw [ha, decide_eq_true hg]
      by_cases c : tt i < g b
      · rw [decide_eq_true c, if_pos (by decide)]
        unfold set1
        rw [if_pos rfl]; exact Nat.le_refl _
      · rw [decide_eq_false c, if_neg (by decide)]; omega
    rcases hpq with ⟨e1, e2⟩ | ⟨e1, e2⟩
    · subst e1; subst e2
      exact Nat.le_trans (tl_le sl _ _ _ _ _) (one g _ _ hs h1)
    · subst e1; subst e2
      exact one _ _ _ hs (Nat.le_trans (tl_le sl _ _ _ _ _) h1)
  have := fold_mono sl mt pa pb tt f p (i + 1) (m - (i + 1))
  rw [show i + 1 + (m - (i + 1)) = m by omega] at this
  exact Nat.le_trans this h2
/-- one meeting lowers at most to its day, by a teller who knows it by then -/
theorem meet_low (i : Nat) (g : Nat → Nat) (p v : Nat) (h1 : v < g p) (h2 : meet sl mt pa pb tt i g p ≤ v) : mt i = true ∧ tt i ≤ v ∧ ∃ q, ((q = pa i ∧ p = pb i) ∨ (q = pb i ∧ p = pa i)) ∧ sl q = false ∧ g q ≤ tt i := by
  unfold meet at h2
  cases hm : mt i
  · rw [hm, if_neg (by decide)] at h2; omega
  · rw [hm, if_pos rfl] at h2
    have one : ∀ (g : Nat → Nat) a b, v < g p → tl sl g a b (tt i) p ≤ v → tt i ≤ v ∧ p = b ∧ sl a = false ∧ g a ≤ tt i := by
      intro g a b h1 h2
      unfold tl at h2
      cases hc : tlC sl g a b (tt i)
      · rw [hc, if_neg (by decide)] at h2; omega
      · rw [hc, if_pos rfl] at h2
        unfold tlC at hc
        rw [Bool.and_eq_true, Bool.and_eq_true, decide_eq_true_iff, decide_eq_true_iff, Bool.not_eq_true'] at hc
        unfold set1 at h2
        by_cases e : p = b
        · rw [if_pos e] at h2; exact ⟨h2, e, hc.1, hc.2.1⟩
        · rw [if_neg e] at h2; omega
    refine ⟨rfl, ?_⟩
    rcases Nat.lt_or_ge v (tl sl g (pa i) (pb i) (tt i) p) with c | c
    · obtain ⟨r1, r2, r3, r4⟩ := one _ _ _ c h2
      refine ⟨r1, pb i, Or.inr ⟨rfl, r2⟩, r3, ?_⟩
      -- had the first told, the second would hear nothing new
      rcases Nat.lt_or_ge (tt i) (g (pb i)) with d | d
      · exfalso
        have hx : tl sl g (pa i) (pb i) (tt i) (pb i) ≤ tt i := r4
        unfold tl at hx
        cases hc : tlC sl g (pa i) (pb i) (tt i)
        · rw [hc, if_neg (by decide)] at hx; omega
        · unfold tlC at hc
          rw [Bool.and_eq_true, Bool.and_eq_true, decide_eq_true_iff, decide_eq_true_iff] at hc
          have := hc.2.1
          rw [← r2] at this
          omega
      · exact d
    · obtain ⟨r1, r2, r3, r4⟩ := one _ _ _ h1 c
      exact ⟨r1, pa i, Or.inl ⟨rfl, r2⟩, r3, r4⟩
theorem progress (m : Nat) (f L : Nat → Nat) (N : Nat) (hL : L = itR sl mt pa pb tt m N f) (hout : ∀ p, 8 ≤ p → f p = L p) (hne : ∃ p, f p ≠ L p) : ∃ p, p < 8 ∧ f p ≠ L p ∧ rnd sl mt pa pb tt m f p = L p := by
  apply Classical.byContradiction
  intro hcon
  have hno : ∀ p, f p ≠ L p → rnd sl mt pa pb tt m f p ≠ L p := by
    intro p h1 h2
    refine hcon ⟨p, ?_, h1, h2⟩
    rcases Nat.lt_or_ge p 8 with q | q
    · exact q
    · exact absurd (hout p q) h1
  -- one of the least
  have hmin : ∃ v, (∃ p, f p ≠ L p ∧ L p = v) ∧ ∀ p, f p ≠ L p → v ≤ L p := by
    obtain ⟨p0, h0⟩ := hne
    have : ∀ n p, L p ≤ n → f p ≠ L p → ∃ v, (∃ p, f p ≠ L p ∧ L p = v) ∧ ∀ p, f p ≠ L p → v ≤ L p := by
      intro n
      induction n with
      | zero => intro p hp h; exact ⟨0, ⟨p, h, by omega⟩, fun _ _ => Nat.zero_le _⟩
      | succ n ih =>
        intro p hp h
        rcases Classical.em (∃ p', f p' ≠ L p' ∧ L p' ≤ n) with ⟨p', h1, h2⟩ | q
        · exact ih p' h2 h1
        · refine ⟨L p, ⟨p, h, rfl⟩, fun p' hp' => ?_⟩
          rcases Nat.lt_or_ge n (L p') with r | r
          · omega
          · exact absurd ⟨p', hp', r⟩ q
    exact this _ p0 (Nat.le_refl _) h0
  obtain ⟨v, ⟨p0, hp0, hv0⟩, hmin⟩ := hmin
  have hfL : ∀ p, L p ≤ f p := fun p => by rw [hL]; exact itR_le sl mt pa pb tt m N f p
  have stay : ∀ k, k ≤ N → ∀ p, f p ≠ L p → L p = v → v < itR sl mt pa pb tt m k f p := by
    intro k
    induction k with
    | zero => intro _ p h1 h2; have := hfL p; show v < f p; omega
    | succ k ih =>
      intro hk p h1 h2
      have ih := ih (by omega)
      rw [itR_s]
      have hge : ∀ p, L p ≤ rnd sl mt pa pb tt m (itR sl mt pa pb tt m k f) p := by
        intro p
        rw [← itR_s, hL]
        have e : N = (k + 1) + (N - (k + 1)) := by omega
        have add : ∀ a b f, itR sl mt pa pb tt m (a + b) f = itR sl mt pa pb tt m b (itR sl mt pa pb tt m a f) := by
          intro a
          induction a with
          | zero => intro b f; rw [Nat.zero_add]; rfl
          | succ a iha => intro b f; rw [show a + 1 + b = (a + b) + 1 by omega]; exact iha b _
        rw [e, add]
        exact itR_le sl mt pa pb tt m _ _ p
      have inner : ∀ i, i ≤ m → ∀ p, f p ≠ L p → L p = v → v < foldN (meet sl mt pa pb tt) i (itR sl mt pa pb tt m k f) p := by
        intro i
        induction i with
        | zero => intro _ p h1 h2; exact ih p h1 h2
        | succ i ihi =>
          intro hi p h1 h2
          rcases Nat.lt_or_ge v (foldN (meet sl mt pa pb tt) (i + 1) (itR sl mt pa pb tt m k f) p) with r | r
          · exact r
          · exfalso
            have hb := ihi (by omega) p h1 h2
            obtain ⟨hm, ht, q, hpq, hs, hg⟩ := meet_low sl mt pa pb tt i _ p v hb r
            have hLq : L q ≤ foldN (meet sl mt pa pb tt) i (itR sl mt pa pb tt m k f) q := by
              have := fold_mono sl mt pa pb tt (itR sl mt pa pb tt m k f) q i (m - i)
              rw [show i + (m - i) = m by omega] at this
              exact Nat.le_trans (hge q) this
            have hq : f q = L q := by
              apply Classical.byContradiction
              intro hq
              have m1 := hmin q hq
              have := ihi (by omega) q hq (by omega)
              omega
            have hh := rnd_hear sl mt pa pb tt m f (show i < m by omega) hm hpq hs (by omega)
            have hr : L p ≤ rnd sl mt pa pb tt m f p := by
              cases N with
              | zero => exact absurd (by rw [hL]; rfl) h1
              | succ N => rw [hL]; exact itR_le sl mt pa pb tt m N _ p
            exact hno p h1 (by omega)
      exact inner m (Nat.le_refl _) p h1 h2
  have := stay N (Nat.le_refl _) p0 hp0 hv0
  rw [← hL] at this
  omega
theorem rounds8 (m : Nat) (L : Nat → Nat) (hst : rnd sl mt pa pb tt m L = L) : ∀ j N f, L = itR sl mt pa pb tt m N f → (∀ p, 8 ≤ p → f p = L p) → 8 ≤ fb_ct (fun p => decide (f p = L p)) 8 + j → itR sl mt pa pb tt m j f = L := by
  have stI : ∀ j, itR sl mt pa pb tt m j L = L := by
    intro j
    induction j with
    | zero => rfl
    | succ j ih => show itR sl mt pa pb tt m j (rnd sl mt pa pb tt m L) = L; rw [hst]; exact ih
  intro j
  induction j with
  | zero =>
    intro N f hL hout hc
    have : fb_ct (fun p => decide (f p = L p)) 8 = 8 := by have := fb_ct_le (fun p => decide (f p = L p)) 8; omega
    rw [fb_ct_all] at this
    show f = L
    funext p
    rcases Nat.lt_or_ge p 8 with q | q
    · exact of_decide_eq_true (this p q)
    · exact hout p q
  | succ j ih =>
    intro N f hL hout hc
    by_cases e : f = L
    · rw [e]; exact stI (j + 1)
    · have hne : ∃ p, f p ≠ L p := by
        apply Classical.byContradiction
        intro q
        apply e
        funext p
        exact Classical.byContradiction (fun r => q ⟨p, r⟩)
      obtain ⟨p, hp, h1, h2⟩ := progress sl mt pa pb tt m f L N hL hout hne
      cases N with
      | zero => exact absurd hL.symm e
      | succ N =>
        have hge : ∀ p, L p ≤ rnd sl mt pa pb tt m f p := fun p => by rw [hL]; exact itR_le sl mt pa pb tt m N _ p
        have hup : ∀ p, f p = L p → rnd sl mt pa pb tt m f p = L p := fun p hp => Nat.le_antisymm (by rw [← hp]; exact rnd_le sl mt pa pb tt m f p) (hge p)
        refine ih N (rnd sl mt pa pb tt m f) hL (fun p hp => hup p (hout p hp)) ?_
        have u := fb_ct_upd (fun p => decide (f p = L p)) true hp
        simp only [h1, decide_false, Bool.false_eq_true, ↓reduceIte, Nat.add_zero] at u
        have s : fb_ct (fun k => if k = p then true else decide (f k = L k)) 8 ≤ fb_ct (fun p => decide (rnd sl mt pa pb tt m f p = L p)) 8 := by
          apply fb_ct_sub
          intro k _ hk
          by_cases c : k = p
          · rw [c]; exact decide_eq_true h2
          · rw [if_neg c] at hk
            exact decide_eq_true (hup k (of_decide_eq_true hk))
        omega
/-- it ends somewhere -/
theorem stable_ex (m : Nat) (hp : ∀ i, mt i = true → pa i < 8 ∧ pb i < 8) : ∀ n f, fb_sm f 8 ≤ n → ∃ N, rnd sl mt pa pb tt m (itR sl mt pa pb tt m N f) = itR sl mt pa pb tt m N f := by
  have out : ∀ f p, 8 ≤ p → rnd sl mt pa pb tt m f p = f p := by
    intro f p h8
    have : ∀ i, foldN (meet sl mt pa pb tt) i f p = f p := by
      intro i
      induction i with
      | zero => rfl
      | succ i ih =>
        show meet sl mt pa pb tt i (foldN (meet sl mt pa pb tt) i f) p = f p
        rw [← ih]
        generalize foldN (meet sl mt pa pb tt) i f = g
        unfold meet
        cases hm : mt i
        · rw [if_neg (by decide)]
        · rw [if_pos rfl]
          have := hp i hm
          have one : ∀ g a b, p ≠ b → tl sl g a b (tt i) p = g p := by
            intro g a b hb
            unfold tl
            cases tlC sl g a b (tt i)
            · rw [if_neg (by decide)]
            · rw [if_pos rfl]; unfold set1; rw [if_neg hb]
          rw [one _ _ _ (by omega), one _ _ _ (by omega)]
    exact this m
  intro n
  induction n with
  | zero =>
    intro f h
    refine ⟨0, ?_⟩
    show rnd sl mt pa pb tt m f = f
    funext p
    rcases Nat.lt_or_ge p 8 with q | q
    · have := fb_sm_zero (show fb_sm f 8 = 0 by omega) p q
      have := rnd_le sl mt pa pb tt m f p
      omega
    · exact out f p q
  | succ n ih =>
    intro f h
    by_cases e : rnd sl mt pa pb tt m f = f
    · exact ⟨0, e⟩
    · have : fb_sm (rnd sl mt pa pb tt m f) 8 < fb_sm f 8 := by
        have hle : fb_sm (rnd sl mt pa pb tt m f) 8 ≤ fb_sm f 8 := fb_sm_le (fun k _ => rnd_le sl mt pa pb tt m f k)
        rcases Nat.lt_or_ge (fb_sm (rnd sl mt pa pb tt m f) 8) (fb_sm f 8) with q | q
        · exact q
        · exfalso
          apply e
          funext p
          rcases Nat.lt_or_ge p 8 with r | r
          · have h1 := fb_sm_add (rnd sl mt pa pb tt m f) (fun k => f k - rnd sl mt pa pb tt m f k) 8
            have h2 : fb_sm (fun k => rnd sl mt pa pb tt m f k + (f k - rnd sl mt pa pb tt m f k)) 8 = fb_sm f 8 := fb_sm_cong (fun k _ => by have := rnd_le sl mt pa pb tt m f k; omega)
            rw [h2] at h1
            have h3 := fb_sm_zero (f := fun k => f k - rnd sl mt pa pb tt m f k) (n := 8) (by omega) p r
            have := rnd_le sl mt pa pb tt m f p
            omega
          · exact out f p r
      obtain ⟨N, hN⟩ := ih (rnd sl mt pa pb tt m f) (by omega)
      exact ⟨N + 1, hN⟩
theorem out8 (m : Nat) (hp : ∀ i, mt i = true → pa i < 8 ∧ pb i < 8) (f : Nat → Nat) (p : Nat) (h8 : 8 ≤ p) : ∀ k, itR sl mt pa pb tt m k f p = f p := by
  have one' : ∀ g : Nat → Nat, rnd sl mt pa pb tt m g p = g p := by
    intro g
    have : ∀ i, foldN (meet sl mt pa pb tt) i g p = g p := by
      intro i
      induction i with
      | zero => rfl
      | succ i ih =>
        show meet sl mt pa pb tt i (foldN (meet sl mt pa pb tt) i g) p = g p
        rw [← ih]
        generalize foldN (meet sl mt pa pb tt) i g = g'
        unfold meet
        cases hm : mt i
        · rw [if_neg (by decide)]
        · rw [if_pos rfl]
          have := hp i hm
          have one : ∀ g a b, p ≠ b → tl sl g a b (tt i) p = g p := by
            intro g a b hb
            unfold tl
            cases tlC sl g a b (tt i)
            · rw [if_neg (by decide)]
            · rw [if_pos rfl]; unfold set1; rw [if_neg hb]
          rw [one _ _ _ (by omega), one _ _ _ (by omega)]
    exact this m
  intro k
  induction k generalizing f with
  | zero => rfl
  | succ k ih => show itR sl mt pa pb tt m k (rnd sl mt pa pb tt m f) p = f p; rw [ih, one']
theorem stable8 (m : Nat) (hp : ∀ i, mt i = true → pa i < 8 ∧ pb i < 8) (f : Nat → Nat) : rnd sl mt pa pb tt m (itR sl mt pa pb tt m 8 f) = itR sl mt pa pb tt m 8 f := by
  obtain ⟨N, hN⟩ := stable_ex sl mt pa pb tt m hp _ f (Nat.le_refl _)
  have := rounds8 sl mt pa pb tt m _ hN 8 N f rfl (fun p hp8 => (out8 sl mt pa pb tt m hp f p hp8 N).symm) (by omega)
  rw [this]
  exact hN
end RND
