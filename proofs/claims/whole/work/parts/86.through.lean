/-! PURE: through whom -/
section SIL
variable {sl sl' mt : Nat → Bool} {pa pb tt : Nat → Nat} {p m : Nat}
theorem tlC_sil {f : Nat → Nat} {a b t : Nat} (hs : a ≠ p → sl' a = sl a) (ht : t < 1000) (h : 1000 ≤ f p) : tlC sl' f a b t = tlC sl f a b t := by
  unfold tlC
  by_cases e : a = p
  · rw [decide_eq_false (show ¬ f a ≤ t by rw [e]; omega), Bool.false_and, Bool.and_false, Bool.and_false]
  · rw [hs e]
theorem tl_sil {f : Nat → Nat} {a b t : Nat} (hs : a ≠ p → sl' a = sl a) (ht : t < 1000) (h : 1000 ≤ f p) : tl sl' f a b t = tl sl f a b t := by
  unfold tl
  rw [tlC_sil hs ht h]
theorem meet_sil (hs : ∀ q, q < 8 → q ≠ p → sl' q = sl q) (hm : ∀ i, mt i = true → pa i < 8 ∧ pb i < 8 ∧ tt i < 1000) (i : Nat) (f : Nat → Nat) (h : 1000 ≤ meet sl mt pa pb tt i f p) : meet sl' mt pa pb tt i f = meet sl mt pa pb tt i f := by
  have h0 := meet_le sl mt pa pb tt i f p
  unfold meet at h ⊢
  cases hi : mt i
  · rw [if_neg (by decide), if_neg (by decide)]
  · obtain ⟨h1, h2, h3⟩ := hm i hi
    rw [hi, if_pos rfl] at h
    rw [if_pos rfl, if_pos rfl]
    have l1 := tl_le sl (tl sl f (pa i) (pb i) (tt i)) (pb i) (pa i) (tt i) p
    have l2 := tl_le sl f (pa i) (pb i) (tt i) p
    rw [tl_sil (hs _ h1) h3 (show 1000 ≤ f p by omega), tl_sil (hs _ h2) h3 (by omega)]
theorem itR_sil (hs : ∀ q, q < 8 → q ≠ p → sl' q = sl q) (hm : ∀ i, mt i = true → pa i < 8 ∧ pb i < 8 ∧ tt i < 1000) : ∀ k f, 1000 ≤ itR sl mt pa pb tt m k f p → itR sl' mt pa pb tt m k f = itR sl mt pa pb tt m k f := by
  have one : ∀ f, 1000 ≤ rnd sl mt pa pb tt m f p → rnd sl' mt pa pb tt m f = rnd sl mt pa pb tt m f := by
    intro f h
    have : ∀ i, i ≤ m → foldN (meet sl' mt pa pb tt) i f = foldN (meet sl mt pa pb tt) i f := by
      intro i
      induction i with
      | zero => intro _; rfl
      | succ i ih =>
        intro hi
        show meet sl' mt pa pb tt i (foldN (meet sl' mt pa pb tt) i f) = meet sl mt pa pb tt i (foldN (meet sl mt pa pb tt) i f)
        rw [ih (by omega)]
        apply meet_sil hs hm
        have := fold_mono sl mt pa pb tt f p (i + 1) (m - (i + 1))
        rw [show i + 1 + (m - (i + 1)) = m by omega] at this
        exact Nat.le_trans h this
    exact this m (Nat.le_refl _)
  intro k
  induction k with
  | zero => intro f _; rfl
  | succ k ih =>
    intro f h
    show itR sl' mt pa pb tt m k (rnd sl' mt pa pb tt m f) = itR sl mt pa pb tt m k (rnd sl mt pa pb tt m f)
    rw [one f (Nat.le_trans h (itR_le sl mt pa pb tt m k _ p))]
    exact ih _ h
end SIL
theorem spr_sil {w : St} {x : Int32} {m n p : Nat} (hw : ntW w m n) (d : Int32) (hp : p < 8) (h : spr w x m d (-1) p = 1000) : spr w x m d (nI p) = spr w x m d (-1) := by
  unfold spr at h ⊢
  refine itR_sil (p := p) ?_ ?_ 8 _ (by rw [h]; exact Nat.le_refl _)
  · intro q hq hne
    unfold slF
    rw [decide_eq_false (fun e => hne ((nI_eq (by omega) (by omega)).mp e)), decide_eq_false]
    intro e
    have := congrArg Int32.toInt e
    rw [nI_toInt (by omega), show ((-1 : Int32)).toInt = -1 by decide] at this
    omega
  · intro i hi
    unfold mtF at hi
    rw [Bool.and_eq_true, Bool.and_eq_true, decide_eq_true_iff, decide_eq_true_iff] at hi
    have := nt_meet hw hi.1 hi.2.2
    exact ⟨this.1, this.2.1, by omega⟩
/-- the note i is a known act as one who knew d -/
def actP (w : St) (x : Int32) (m : Nat) (d : Int32) (i : Nat) : Prop := kn w x m i = true ∧ w.2.1 16 i = 2 ∧ w.2.1 18 i = d
def losP (w : St) (x : Int32) (m : Nat) (f0 f : Nat → Nat) (d : Int32) (i : Nat) : Prop := actP w x m d i ∧ f0 (n2 w i) ≤ n3 w i ∧ n3 w i < f (n2 w i)
theorem knZ_f {s q w : St} {x : Int32} {m : Nat} {I A : List Nat} (h : knZ s w x m) (f : fr I A s q) (h1 : 29 ∉ I) (h2 : 11 ∉ A) (h3 : 12 ∉ A) (h4 : 13 ∉ A) (h5 : 14 ∉ A) (h6 : 17 ∉ A) : knZ q w x m := by
  unfold knZ at h ⊢
  rw [f.1 29 h1, f.2 11 h2, f.2 12 h3, f.2 13 h4, f.2 14 h5, f.2 17 h6]
  exact h
theorem knW_f {s q w : St} {x : Int32} {m : Nat} {I A : List Nat} (h : knW s w x m) (f : fr I A s q) (h1 : 27 ∉ I) (h2 : 10 ∉ A) (h3 : 16 ∉ A) (h4 : 18 ∉ A) (h5 : 19 ∉ A) (h6 : 20 ∉ A) (h7 : 21 ∉ A) (h8 : 23 ∉ A) : knW q w x m := by
  unfold knW at h ⊢
  rw [f.1 27 h1, f.2 10 h2, f.2 16 h3, f.2 18 h4, f.2 19 h5, f.2 20 h6, f.2 21 h7, f.2 23 h8]
  exact h
section THR
variable {s w : St} {x : Int32} {m n : Nat}
theorem p_hasAct (hz : knZ s w x m) (hm : m ≤ 80) (d : Int32) : ∃ b, f_X7_hasAct s d = some (b2 b, s) ∧ (b = true ↔ ∃ i, i < m ∧ actP w x m d i) := by
  obtain ⟨e29, e11, e12, e13, e14, e17⟩ := hz
  have c := lp_find (fun n i => F_X7_hasAct_2 n s d (nI i)) (actP w x m d) m (some ((1 : Int32), s)) (some ((0 : Int32), s)) ?_ ?_ ?_ 100000 (by omega)
  · unfold f_X7_hasAct F_X7_hasAct_0
    rw [oL_s]
    rcases c with ⟨p, g⟩ | ⟨p, g⟩
    · have g' : F_X7_hasAct_2 100000 s d 0 = some ((1 : Int32), s) := g
      rw [g', oC_s]
      exact ⟨true, oZ_1 _, fun _ => p, fun _ => rfl⟩
    · have g' : F_X7_hasAct_2 100000 s d 0 = some ((0 : Int32), s) := g
      rw [g', oC_s]
      exact ⟨false, oZ_0 _, fun q => (by cases q), fun ⟨i, hi, q⟩ => absurd q (p i hi)⟩
  · intro n'
    show F_X7_hasAct_2_b _ s d (nI m) = _
    unfold F_X7_hasAct_2_b
    rw [e29, if_pos (Int32.le_refl _)]
  · intro n' i hi hp
    have hini : vp_in (nI i) 80 := vp_in_nI (by omega) (by omega)
    obtain ⟨p1, p2, p3⟩ := hp
    show F_X7_hasAct_2_b _ s d (nI i) = _
    unfold F_X7_hasAct_2_b
    rw [p_isKnown _ _ (show i < 80 by omega), e29, if_neg (nI_ge hi (by omega)), e11, e17 i hi]
    simp only [oC_s, oL_s, b2_0]
    rw [if_neg (show ¬ kn w x m i = false by rw [p1]; decide), if_pos p2, if_neg (by decide), oA_in _ hini, nI_clamp (by omega), e12, if_pos p3]
  · intro n' i hi hp
    have hini : vp_in (nI i) 80 := vp_in_nI (by omega) (by omega)
    show F_X7_hasAct_2_b (F_X7_hasAct_2 n') s d (nI i) = F_X7_hasAct_2 n' s d (nI (i + 1))
    unfold F_X7_hasAct_2_b F_X7_hasAct_40
    rw [p_isKnown _ _ (show i < 80 by omega), e29, if_neg (nI_ge hi (by omega)), e11, e17 i hi]
    simp only [oC_s, oL_s, b2_0, nI_1, oA_in _ hini, nI_clamp (show i < 2 ^ 31 by omega), e12]
    by_cases p1 : kn w x m i = false
    · rw [if_pos p1, if_pos rfl]
    · rw [if_neg p1]
      by_cases p2 : w.2.1 16 i = (2 : Int32)
      · rw [if_pos p2, if_neg (by decide)]
        by_cases p3 : w.2.1 18 i = d
        · exact absurd ⟨by simpa using p1, p2, p3⟩ hp
        · rw [if_neg p3]
      · rw [if_neg p2, if_pos rfl]
theorem p_losesAct (hz : knZ s w x m) (hw : ntW w m n) (d : Int32) {f f0 : Nat → Nat} (h35 : ar8 (s.2.1 35) f) (h36 : ar8 (s.2.1 36) f0) : ∃ b, f_X7_losesAct s d = some (b2 b, s) ∧ (b = true ↔ ∃ i, i < m ∧ losP w x m f0 f d i) := by
  obtain ⟨e29, e11, e12, e13, e14, e17⟩ := hz
  have hm := hw.1
  have c := lp_find (fun n i => F_X7_losesAct_2 n s d (nI i)) (losP w x m f0 f d) m (some ((1 : Int32), s)) (some ((0 : Int32), s)) ?_ ?_ ?_ 100000 (by omega)
  · unfold f_X7_losesAct F_X7_losesAct_0
    rw [oL_s]
    rcases c with ⟨p, g⟩ | ⟨p, g⟩
    · have g' : F_X7_losesAct_2 100000 s d 0 = some ((1 : Int32), s) := g
      rw [g', oC_s]
      exact ⟨true, oZ_1 _, fun _ => p, fun _ => rfl⟩
    · have g' : F_X7_losesAct_2 100000 s d 0 = some ((0 : Int32), s) := g
      rw [g', oC_s]
      exact ⟨false, oZ_0 _, fun q => (by cases q), fun ⟨i, hi, q⟩ => absurd q (p i hi)⟩
  · intro n'
    show F_X7_losesAct_2_b _ s d (nI m) = _
    unfold F_X7_losesAct_2_b
    rw [e29, if_pos (Int32.le_refl _)]
  · intro n' i hi hp
    have hini : vp_in (nI i) 80 := vp_in_nI (by omega) (by omega)
    obtain ⟨⟨p1, p2, p3⟩, p4, p5⟩ := hp
    obtain ⟨h1, h2, h3, h4, h5, h6⟩ := nt_sight hw hi (Or.inr p2)
    have hin8 : vp_in (nI (n2 w i)) 8 := vp_in_nI h2 (by omega)
    obtain ⟨r1, r2⟩ := h35 _ h2
    obtain ⟨r3, r4⟩ := h36 _ h2
    show F_X7_losesAct_2_b _ s d (nI i) = _
    unfold F_X7_losesAct_2_b
    rw [p_isKnown _ _ (show i < 80 by omega), e29, if_neg (nI_ge hi (by omega)), e11, e17 i hi]
    simp only [oC_s, oL_s, b2_0]
    rw [if_neg (show ¬ kn w x m i = false by rw [p1]; decide), if_pos p2, if_neg (by decide), oA_in _ hini, nI_clamp (by omega), e12, if_pos p3, oA_in _ hini, oA_in _ hini, e13, e14, h5, h6, oA_in _ hin8, oA_in _ hin8, nI_clamp (by omega), r1, r3, if_neg (nI_nlt (by omega) (by omega)), if_neg (nI_ge (by omega) (by omega))]
  · intro n' i hi hp
    have hini : vp_in (nI i) 80 := vp_in_nI (by omega) (by omega)
    show F_X7_losesAct_2_b (F_X7_losesAct_2 n') s d (nI i) = F_X7_losesAct_2 n' s d (nI (i + 1))
    unfold F_X7_losesAct_2_b F_X7_losesAct_83
    rw [p_isKnown _ _ (show i < 80 by omega), e29, if_neg (nI_ge hi (by omega)), e11, e17 i hi]
    simp only [oC_s, oL_s, b2_0, nI_1, oA_in _ hini, nI_clamp (show i < 2 ^ 31 by omega), e12, e13, e14]
    by_cases p1 : kn w x m i = false
    · rw [if_pos p1, if_pos rfl]
    · rw [if_neg p1]
      by_cases p2 : w.2.1 16 i = (2 : Int32)
      · rw [if_pos p2, if_neg (by decide)]
        by_cases p3 : w.2.1 18 i = d
        · obtain ⟨h1, h2, h3, h4, h5, h6⟩ := nt_sight hw hi (Or.inr p2)
          have hin8 : vp_in (nI (n2 w i)) 8 := vp_in_nI h2 (by omega)
          obtain ⟨r1, r2⟩ := h35 _ h2
          obtain ⟨r3, r4⟩ := h36 _ h2
          rw [if_pos p3, h5, h6, oA_in _ hin8, oA_in _ hin8, nI_clamp (by omega), r1, r3]
          by_cases p4 : n3 w i < f0 (n2 w i)
          · rw [if_pos (nI_lt p4 (by omega))]
          · rw [if_neg (nI_nlt (by omega) (by omega))]
            by_cases p5 : f (n2 w i) ≤ n3 w i
            · rw [if_pos (nI_le p5 (by omega))]
            · exact absurd ⟨⟨by simpa using p1, p2, p3⟩, by omega, by omega⟩ hp
        · rw [if_neg p3]
      · rw [if_neg p2, if_pos rfl]
/-- silence of p makes some act as one who knew d unexplained -/
def losB (w : St) (x : Int32) (m : Nat) (d : Int32) (p : Nat) : Prop := ∃ i, i < m ∧ losP w x m (spr w x m d (-1)) (spr w x m d (nI p)) d i
theorem p_carriersOf (hz : knZ s w x m) (hw : ntW w m n) (d : Int32) : ∃ r q, f_X7_carriersOf s d = some (r, q) ∧ fr [] [35, 36] s q ∧ ∀ p, bt r p = true ↔ p < 8 ∧ losB w x m d p := by
  obtain ⟨g, s1, a1⟩ := p_spread hz hw d (-1)
  unfold f_X7_carriersOf F_X7_carriersOf_0
  rw [s1]
  simp only [oC_s, oL_s, sA_eq]
  have f0 : fr [] [35, 36] s (sA (sA s 35 g) 36 (va_cpy g ((sA s 35 g).2.1 36) (Int32.toNatClampNeg (0 : Int32)) (Int32.toNatClampNeg (0 : Int32)) (Int32.toNatClampNeg (8 : Int32)))) := fr_A (fr_A fr_0 (by decide)) (by decide)
  have c0 : ar8 ((sA (sA s 35 g) 36 (va_cpy g ((sA s 35 g).2.1 36) (Int32.toNatClampNeg (0 : Int32)) (Int32.toNatClampNeg (0 : Int32)) (Int32.toNatClampNeg (8 : Int32)))).2.1 36) (spr w x m d (-1)) := by
    rw [sA_eq]
    intro p hp
    have : va_cpy g ((sA s 35 g).2.1 36) (Int32.toNatClampNeg (0 : Int32)) (Int32.toNatClampNeg (0 : Int32)) (Int32.toNatClampNeg (8 : Int32)) p = g p := by
      show va_cpy g ((sA s 35 g).2.1 36) 0 0 8 p = g p
      simp [va_cpy, hp]
    rw [this]
    exact a1 p hp
  generalize sA (sA s 35 g) 36 (va_cpy g ((sA s 35 g).2.1 36) (Int32.toNatClampNeg (0 : Int32)) (Int32.toNatClampNeg (0 : Int32)) (Int32.toNatClampNeg (8 : Int32))) = s0 at *
  refine loop_i (fun k i (y : St × Int32) => ∃ r q, F_X7_carriersOf_25 k y.1 d y.2 (nI i) = some (r, q) ∧ fr [] [35, 36] s q ∧ ∀ p, bt r p = true ↔ p < 8 ∧ losB w x m d p) (fun i y => fr [] [35, 36] s y.1 ∧ ar8 (y.1.2.1 36) (spr w x m d (-1)) ∧ ∀ p, bt y.2 p = true ↔ p < i ∧ losB w x m d p) 8 ?_ ?_ 100000 0 (s0, 0) (Nat.zero_le _) (by omega) ⟨f0, c0, fun p => by rw [b_0]; exact ⟨fun q => (by cases q), fun q => absurd q.1 (Nat.not_lt_zero p)⟩⟩
  · rintro k ⟨q, r⟩ ⟨y1, y2, y3⟩
    refine ⟨r, q, ?_, y1, y3⟩
    show F_X7_carriersOf_25_b _ q d r (nI 8) = _
    unfold F_X7_carriersOf_25_b
    have c : (8 : Int32) ≤ nI 8 := Int32.le_refl _
    rw [if_pos c]
  · rintro k i ⟨q, r⟩ hi ⟨y1, y2, y3⟩ K
    show ∃ r' q', F_X7_carriersOf_25_b (F_X7_carriersOf_25 k) q d r (nI i) = _ ∧ _
    have c : ¬ (8 : Int32) ≤ nI i := nI_ge (b := 8) hi (by omega)
    have hin : vp_in (nI i) 8 := vp_in_nI hi (by omega)
    obtain ⟨r1, r2⟩ := y2 i hi
    have r1' : q.2.1 36 i = nI (spr w x m d (-1) i) := r1
    unfold F_X7_carriersOf_25_b F_X7_carriersOf_65 F_X7_carriersOf_67
    rw [if_neg c, oA_in _ hin, nI_clamp (by omega), r1']
    simp only [oL_s, nI_1]
    have stay : ¬ losB w x m d i → ∀ q' r', fr [] [35, 36] s q' → ar8 (q'.2.1 36) (spr w x m d (-1)) → r' = r → ∃ r'' q'', F_X7_carriersOf_25 k q' d r' (nI (i + 1)) = some (r'', q'') ∧ fr [] [35, 36] s q'' ∧ ∀ p, bt r'' p = true ↔ p < 8 ∧ losB w x m d p := by
      intro nl q' r' h1 h2 h3
      refine K (q', r') ⟨h1, h2, fun p => ?_⟩
      show bt r' p = true ↔ _
      rw [h3, y3 p]
      constructor
      · rintro ⟨a, b⟩; exact ⟨by omega, b⟩
      · rintro ⟨a, b⟩
        refine ⟨?_, b⟩
        rcases Nat.lt_or_ge p i with q | q
        · exact q
        · rw [show p = i by omega] at b; exact absurd b nl
    by_cases c1 : nI (spr w x m d (-1) i) = (1000 : Int32)
    · have c1' : spr w x m d (-1) i = 1000 := (nI_eq (b := 1000) (by omega) (by omega)).mp c1
      rw [if_pos c1]
      refine stay ?_ q r y1 y2 rfl
      rintro ⟨j, _, _, l1, l2⟩
      rw [spr_sil hw d hi c1'] at l2
      omega
    · rw [if_neg c1]
      have kq := knZ_f hz y1 (by decide) (by decide) (by decide) (by decide) (by decide) (by decide)
      obtain ⟨g', s2, a2⟩ := p_spread kq hw d (nI i)
      have s2' : f_X7_spread q d (nI i) = some (sA q 35 g') := s2
      rw [s2']
      simp only [oC_s]
      have kq2 : knZ (sA q 35 g') w x m := kq
      have h35 : ar8 ((sA q 35 g').2.1 35) (spr w x m d (nI i)) := by rw [sA_eq]; exact a2
      have h36 : ar8 ((sA q 35 g').2.1 36) (spr w x m d (-1)) := y2
      obtain ⟨b, t1, t2⟩ := p_losesAct kq2 hw d h35 h36
      rw [t1]
      simp only [oC_s, b2_0]
      cases b
      · rw [if_pos rfl]
        refine stay (fun l => by have := t2.mpr l; cases this) _ _ (fr_A y1 (by decide)) h36 ?_
        apply b_ext; intro v _; rw [b_or, b_0, Bool.or_false]
      · rw [if_neg (by decide), shl1 (show i < 32 by omega)]
        refine K (sA q 35 g', r ||| nI (2 ^ i)) ⟨fr_A y1 (by decide), h36, fun p => ?_⟩
        show bt (r ||| nI (2 ^ i)) p = true ↔ _
        rw [bt_set (by omega), Bool.or_eq_true, y3 p, decide_eq_true_iff]
        constructor
        · rintro (⟨a, b⟩ | a)
          · exact ⟨by omega, b⟩
          · rw [a]; exact ⟨by omega, t2.mp rfl⟩
        · rintro ⟨a, b⟩
          rcases Nat.lt_or_ge p i with q | q
          · exact Or.inl ⟨q, b⟩
          · exact Or.inr (by omega)
theorem p_carriers (hz : knZ s w x m) (hw : ntW w m n) : ∃ r q, f_X7_carriers s = some (r, q) ∧ fr [] [35, 36] s q ∧ ∀ p, bt r p = true ↔ p < 8 ∧ ∃ d, d < 12 ∧ losB w x m (nI d) p := by
  have hm := hw.1
  unfold f_X7_carriers F_X7_carriers_0
  simp only [oL_s]
  refine loop_i (fun k i (y : St × Int32) => ∃ r q, F_X7_carriers_4 k y.1 y.2 (nI i) = some (r, q) ∧ fr [] [35, 36] s q ∧ ∀ p, bt r p = true ↔ p < 8 ∧ ∃ d, d < 12 ∧ losB w x m (nI d) p) (fun i y => fr [] [35, 36] s y.1 ∧ ∀ p, bt y.2 p = true ↔ p < 8 ∧ ∃ d, d < i ∧ losB w x m (nI d) p) 12 ?_ ?_ 100000 0 (s, 0) (Nat.zero_le _) (by omega) ⟨fr_0, fun p => by rw [b_0]; exact ⟨fun q => (by cases q), fun ⟨_, d, hd, _⟩ => absurd hd (Nat.not_lt_zero d)⟩⟩
  · rintro k ⟨q, r⟩ ⟨y1, y3⟩
    refine ⟨r, q, ?_, y1, y3⟩
    show F_X7_carriers_4_b _ q r (nI 12) = _
    unfold F_X7_carriers_4_b
    have c : (12 : Int32) ≤ nI 12 := Int32.le_refl _
    rw [if_pos c]
  · rintro k i ⟨q, r⟩ hi ⟨y1, y3⟩ K
    show ∃ r' q', F_X7_carriers_4_b (F_X7_carriers_4 k) q r (nI i) = _ ∧ _
    have c : ¬ (12 : Int32) ≤ nI i := nI_ge (b := 12) hi (by omega)
    have kq := knZ_f hz y1 (by decide) (by decide) (by decide) (by decide) (by decide) (by decide)
    obtain ⟨b, t1, t2⟩ := p_hasAct kq hm (nI i)
    have t1' : f_X7_hasAct q (nI i) = some (b2 b, q) := t1
    unfold F_X7_carriers_4_b F_X7_carriers_26
    rw [if_neg c, t1']
    simp only [oC_s, oL_s, b2_0, nI_1]
    cases b
    · rw [if_pos rfl]
      refine K (q, r) ⟨y1, fun p => ?_⟩
      show bt r p = true ↔ _
      rw [y3 p]
      constructor
      · rintro ⟨a, d, hd, l⟩; exact ⟨a, d, by omega, l⟩
      · rintro ⟨a, d, hd, l⟩
        refine ⟨a, d, ?_, l⟩
        rcases Nat.lt_or_ge d i with q | q
        · exact q
        · rw [show d = i by omega] at l
          obtain ⟨j, hj, la, _⟩ := l
          have := t2.mpr ⟨j, hj, la⟩
          cases this
    · rw [if_neg (by decide)]
      obtain ⟨r2, q2, u1, u2, u3⟩ := p_carriersOf kq hw (nI i)
      have u1' : f_X7_carriersOf q (nI i) = some (r2, q2) := u1
      rw [u1']
      simp only [oC_s]
      refine K (q2, r ||| r2) ⟨fr_t y1 u2, fun p => ?_⟩
      show bt (r ||| r2) p = true ↔ _
      rw [b_or, Bool.or_eq_true, y3 p, u3 p]
      constructor
      · rintro (⟨a, d, hd, l⟩ | ⟨a, l⟩)
        · exact ⟨a, d, by omega, l⟩
        · exact ⟨a, i, by omega, l⟩
      · rintro ⟨a, d, hd, l⟩
        rcases Nat.lt_or_ge d i with q | q
        · exact Or.inl ⟨a, d, q, l⟩
        · rw [show d = i by omega] at l; exact Or.inr ⟨a, l⟩
/-- the same, act by act -/
def losR (w : St) (x : Int32) (m j p : Nat) : Prop := kn w x m j = true ∧ w.2.1 16 j = 2 ∧ spr w x m (w.2.1 18 j) (-1) (n2 w j) ≤ n3 w j ∧ n3 w j < spr w x m (w.2.1 18 j) (nI p) (n2 w j)
theorem los_eq (hw : ntW w m n) (p : Nat) : (∃ d, d < 12 ∧ losB w x m (nI d) p) ↔ ∃ j, j < m ∧ losR w x m j p := by
  constructor
  · rintro ⟨d, _, j, hj, ⟨a1, a2, a3⟩, l1, l2⟩
    exact ⟨j, hj, a1, a2, by rw [a3]; exact l1, by rw [a3]; exact l2⟩
  · rintro ⟨j, hj, a1, a2, l1, l2⟩
    obtain ⟨h1, h2, h3, h4, h5, h6⟩ := nt_sight hw hj (Or.inr a2)
    rw [h4] at l1 l2
    exact ⟨n1 w j, h1, j, hj, ⟨a1, a2, h4⟩, l1, l2⟩
theorem p_throughR (hz : knW s w x m) (hw : ntW w m n) : ∃ r q, F_X12_through_23 100000 s 0 0 = some (r, q) ∧ fr [] [26] s q ∧ ∀ p, bt r p = true ↔ p < 8 ∧ ∃ j, j < m ∧ losR w x m j p := by
  have hm := hw.1
  refine loop_i (fun k i (y : St × Int32) => ∃ r q, F_X12_through_23 k y.1 y.2 (nI i) = some (r, q) ∧ fr [] [26] s q ∧ ∀ p, bt r p = true ↔ p < 8 ∧ ∃ j, j < m ∧ losR w x m j p) (fun i y => fr [] [26] s y.1 ∧ ∀ p, bt y.2 p = true ↔ p < 8 ∧ ∃ j, j < i ∧ losR w x m j p) m ?_ ?_ 100000 0 (s, 0) (Nat.zero_le _) (by omega) ⟨fr_0, fun p => by rw [b_0]; exact ⟨fun q => (by cases q), fun ⟨_, d, hd, _⟩ => absurd hd (Nat.not_lt_zero d)⟩⟩
  · rintro k ⟨q, r⟩ ⟨y1, y3⟩
    have e27 : q.1 27 = nI m := (y1.1 27 (by decide)).trans hz.1
    refine ⟨r, q, ?_, y1, y3⟩
    show F_X12_through_23_b _ q r (nI m) = _
    unfold F_X12_through_23_b
    rw [e27, if_pos (Int32.le_refl _)]
  · rintro k i ⟨q, r⟩ hi ⟨y1, y3⟩ K
    have kq := knW_f hz y1 (by decide) (by decide) (by decide) (by decide) (by decide) (by decide) (by decide) (by decide)
    obtain ⟨e27, _, e16, e18, e19, e20, _, e23⟩ := id kq
    have hin : vp_in (nI i) 80 := vp_in_nI (by omega) (by omega)
    have e27' : q.1 27 = nI m := e27
    have e16' : q.2.1 16 = w.2.1 16 := e16
    have e18' : q.2.1 18 = w.2.1 18 := e18
    have e23' : q.2.1 23 i = b2 (kn w x m i) := e23 i hi
    show ∃ r' q', F_X12_through_23_b (F_X12_through_23 k) q r (nI i) = _ ∧ _
    unfold F_X12_through_23_b F_X12_through_142
    simp only [oA_in _ hin, nI_clamp (show i < 2 ^ 31 by omega), e27', e16', e18', e23', oL_s, nI_1, b2_0]
    rw [if_neg (nI_ge hi (by omega))]
    have stay : (∀ p, p < 8 → ¬ losR w x m i p) → ∀ q', fr [] [26] s q' → ∃ r' q'', F_X12_through_23 k q' r (nI (i + 1)) = some (r', q'') ∧ fr [] [26] s q'' ∧ ∀ p, bt r' p = true ↔ p < 8 ∧ ∃ j, j < m ∧ losR w x m j p := by
      intro nl q' h1
      refine K (q', r) ⟨h1, fun p => ?_⟩
      show bt r p = true ↔ _
      rw [y3 p]
      constructor
      · rintro ⟨a, d, hd, l⟩; exact ⟨a, d, by omega, l⟩
      · rintro ⟨a, d, hd, l⟩
        refine ⟨a, d, ?_, l⟩
        rcases Nat.lt_or_ge d i with q | q
        · exact q
        · rw [show d = i by omega] at l
          exact absurd l (nl p a)
    by_cases c1 : kn w x m i = false
    · rw [if_pos c1]
      exact stay (fun p _ l => by rw [l.1] at c1; cases c1) q y1
    · rw [if_neg c1]
      by_cases c2 : w.2.1 16 i = (2 : Int32)
      · rw [if_pos c2]
        obtain ⟨h1, h2, h3, h4, h5, h6⟩ := nt_sight hw hi (Or.inr c2)
        have hin8 : vp_in (nI (n2 w i)) 8 := vp_in_nI h2 (by omega)
        obtain ⟨g, s1, a1⟩ := p_spreads kq hw (w.2.1 18 i) (-1)
        have s1' : f_X12_spreads q (w.2.1 18 i) (-1) = some (sA q 26 g) := s1
        rw [s1']
        simp only [oC_s]
        have w19 : ∀ g, (sA q 26 g).2.1 19 i = nI (n2 w i) := fun g => by show q.2.1 19 i = _; rw [show q.2.1 19 = w.2.1 19 from e19]; exact h5
        have w20 : ∀ g, (sA q 26 g).2.1 20 i = nI (n3 w i) := fun g => by show q.2.1 20 i = _; rw [show q.2.1 20 = w.2.1 20 from e20]; exact h6
        rw [w19, w20, oA_in _ hin8, nI_clamp (show n2 w i < 2 ^ 31 by omega), sA_eq, (a1 _ h2).1]
        have bd := (a1 _ h2).2
        by_cases c3 : spr w x m (w.2.1 18 i) (-1) (n2 w i) ≤ n3 w i
        · rw [if_pos (nI_le c3 (by omega))]
          refine loop_i (fun k' p (y : St × Int32) => ∃ r' q'', F_X12_through_90 (F_X12_through_23 k) k' y.1 y.2 (nI i) (nI p) = some (r', q'') ∧ fr [] [26] s q'' ∧ ∀ p, bt r' p = true ↔ p < 8 ∧ ∃ j, j < m ∧ losR w x m j p) (fun p y => fr [] [26] s y.1 ∧ ∀ u, bt y.2 u = true ↔ u < 8 ∧ ((∃ j, j < i ∧ losR w x m j u) ∨ (u < p ∧ losR w x m i u))) 8 ?_ ?_ 100000 0 (sA q 26 g, r) (Nat.zero_le _) (by omega) ⟨fr_A y1 (by decide), fun u => by
            show bt r u = true ↔ _
            rw [y3 u]
            exact ⟨fun ⟨a, b⟩ => ⟨a, Or.inl b⟩, fun ⟨a, b⟩ => ⟨a, b.elim id (fun c => absurd c.1 (Nat.not_lt_zero u))⟩⟩⟩
          · rintro k' ⟨q', r'⟩ ⟨v1, v2⟩
            show ∃ r'' q'', F_X12_through_90_b _ _ q' r' (nI i) (nI 8) = _ ∧ _
            unfold F_X12_through_90_b F_X12_through_142
            have c : (8 : Int32) ≤ nI 8 := Int32.le_refl _
            rw [if_pos c, oL_s, nI_1]
            refine K (q', r') ⟨v1, fun u => ?_⟩
            show bt r' u = true ↔ _
            rw [v2 u]
            constructor
            · rintro ⟨a, ⟨j, hj, l⟩ | ⟨_, l⟩⟩
              · exact ⟨a, j, by omega, l⟩
              · exact ⟨a, i, by omega, l⟩
            · rintro ⟨a, j, hj, l⟩
              rcases Nat.lt_or_ge j i with q | q
              · exact ⟨a, Or.inl ⟨j, q, l⟩⟩
              · rw [show j = i by omega] at l; exact ⟨a, Or.inr ⟨a, l⟩⟩
          · rintro k' p ⟨q', r'⟩ hp ⟨v1, v2⟩ K'
            show ∃ r'' q'', F_X12_through_90_b _ (F_X12_through_90 (F_X12_through_23 k) k') q' r' (nI i) (nI p) = _ ∧ _
            have c : ¬ (8 : Int32) ≤ nI p := nI_ge (b := 8) hp (by omega)
            have kq' := knW_f hz v1 (by decide) (by decide) (by decide) (by decide) (by decide) (by decide) (by decide) (by decide)
            obtain ⟨_, _, _, f18, f19, f20, _, _⟩ := id kq'
            obtain ⟨g', s2, a2⟩ := p_spreads kq' hw (w.2.1 18 i) (nI p)
            have s2' : f_X12_spreads q' (w.2.1 18 i) (nI p) = some (sA q' 26 g') := s2
            have f18' : q'.2.1 18 = w.2.1 18 := f18
            have x19 : (sA q' 26 g').2.1 19 i = nI (n2 w i) := by show q'.2.1 19 i = _; rw [show q'.2.1 19 = w.2.1 19 from f19]; exact h5
            have x20 : (sA q' 26 g').2.1 20 i = nI (n3 w i) := by show q'.2.1 20 i = _; rw [show q'.2.1 20 = w.2.1 20 from f20]; exact h6
            unfold F_X12_through_90_b F_X12_through_136
            rw [if_neg c, oA_in _ hin, nI_clamp (show i < 2 ^ 31 by omega), f18', s2']
            simp only [oC_s, oL_s, oA_in _ hin, x19, x20, oA_in _ hin8, nI_clamp (show n2 w i < 2 ^ 31 by omega), sA_eq, (a2 _ h2).1, nI_1]
            have bd' := (a2 _ h2).2
            by_cases c4 : spr w x m (w.2.1 18 i) (nI p) (n2 w i) ≤ n3 w i
            · rw [if_pos (nI_le c4 (by omega))]
              refine K' (sA q' 26 g', r') ⟨fr_A v1 (by decide), fun u => ?_⟩
              show bt r' u = true ↔ _
              rw [v2 u]
              constructor
              · rintro ⟨a, b | ⟨b, l⟩⟩
                · exact ⟨a, Or.inl b⟩
                · exact ⟨a, Or.inr ⟨by omega, l⟩⟩
              · rintro ⟨a, b | ⟨b, l⟩⟩
                · exact ⟨a, Or.inl b⟩
                · refine ⟨a, Or.inr ⟨?_, l⟩⟩
                  rcases Nat.lt_or_ge u p with q | q
                  · exact q
                  · have e : u = p := by omega
                    subst e
                    have := l.2.2.2
                    omega
            · rw [if_neg (nI_ge (by omega) (by omega)), shl1 (show p < 32 by omega)]
              refine K' (sA q' 26 g', r' ||| nI (2 ^ p)) ⟨fr_A v1 (by decide), fun u => ?_⟩
              show bt (r' ||| nI (2 ^ p)) u = true ↔ _
              rw [bt_set (by omega), Bool.or_eq_true, v2 u, decide_eq_true_iff]
              constructor
              · rintro (⟨a, b | ⟨b, l⟩⟩ | e)
                · exact ⟨a, Or.inl b⟩
                · exact ⟨a, Or.inr ⟨by omega, l⟩⟩
                · subst e
                  exact ⟨hp, Or.inr ⟨by omega, by simpa using c1, c2, c3, by omega⟩⟩
              · rintro ⟨a, b | ⟨b, l⟩⟩
                · exact Or.inl ⟨a, Or.inl b⟩
                · rcases Nat.lt_or_ge u p with q | q
                  · exact Or.inl ⟨a, Or.inr ⟨q, l⟩⟩
                  · exact Or.inr (by omega)
        · rw [if_neg (nI_ge (by omega) (by omega))]
          exact stay (fun p _ l => c3 l.2.2.1) _ (fr_A y1 (by decide))
      · rw [if_neg c2]
        exact stay (fun p _ l => c2 l.2.1) q y1
end THR
theorem q_through {z w : St} (h : Inv z w) (x : Int32) : Ok (f_X11_through z x) (f_X12_through w x) := by
  have h' := h
  obtain ⟨W, H, hDy, hL, hV, hC, hN, hE, hD, hK, hT, hF, hR⟩ := h
  unfold f_X11_through F_X11_through_0 f_X12_through F_X12_through_0
  rcases c_day z (sI w 0 0) x with ⟨v1, v2⟩ | ⟨k, hk, rfl, v1, v2⟩
  · simp only [v1, v2, oC_s, oL_s, ↓reduceIte]
    exact ⟨-1, _, _, rfl, rfl, Inv_0 h'⟩
  simp only [v1, v2, oC_s, oL_s, i10, ↓reduceIte]
  obtain ⟨m, hz, hw⟩ := nt_of (w := sI w 0 0) hN
  obtain ⟨g, t1, hg⟩ := p_sift hz hw (nI k)
  obtain ⟨ga, gb, t2, hgb⟩ := p_knows hw (nI k)
  obtain ⟨r, q, c1, c2, c3⟩ := p_carriers (knZ_of hz hg) hw
  obtain ⟨r', q', d1, d2, d3⟩ := p_throughR (knW_of (g := ga) hw hgb) hw
  have e : r = r' := by
    apply b_ext
    intro v _
    rw [Bool.eq_iff_iff, c3 v, d3 v, los_eq hw v]
  rw [t1, t2]
  simp only [oC_s]
  rw [c1, d1, oC_s, e]
  exact ⟨_, _, _, rfl, rfl, Inv_q h' (fr_t (fr_A fr_0 (by decide)) (fr_m c2 (by decide) (by decide))) (fr_t (fr_A (fr_A (fr_I fr_0 (by decide)) (by decide)) (by decide)) (fr_m d2 (by decide) (by decide)))⟩
