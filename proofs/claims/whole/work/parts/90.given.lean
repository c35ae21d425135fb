/-! PURE: the line that a rule gives; given, turned -/
def HB (z : St) (V : Int32) : Prop := ∃ s', f_X3_holds z V = some (1, s')
/-- the unit of the village p -/
def Vs (z w : St) (u p : Nat) : Int32 := if u = 0 then nI (2 ^ p) else if u = 2 then z.1 22 else z.2.1 7 (w.2.1 7 p).toNatClampNeg
section JDG
variable {z w : St} {W H m c : Nat} {P : Nat → Nat → Nat}
def juOK (z w : St) (W H m c : Nat) (P : Nat → Nat → Nat) : Prop := geoC z W H ∧ geoR w W H ∧ ivVil z w (W * H) ∧ plC z P (W * H) ∧ plR w P (W * H) ∧ (∀ v s, s < 2 → P v s ≤ 1249) ∧ trm z w m ∧ c ≤ 6 ∧ w.1 24 = nI c ∧ (∀ v, v < 32 → (bt (z.1 24) v = true ↔ ∃ i, i < c ∧ w.2.1 11 (6 * i) = nI v)) ∧ (∀ i, i < c → ∃ v, v < W * H ∧ w.2.1 11 (6 * i) = nI v)
theorem ju_nm (h : juOK z w W H m c P) {V : Int32} (hV : bl V (W * H)) : nmC z V (nmF w P c V (W * H)) := by
  obtain ⟨h1, h2, h3, h4, h5, h6, h7, h8, h9, h10, h11⟩ := h
  exact nm_C (sz25 h1.1).2 h1.2.2.1 h4 h6 h3 h10 hV
theorem hold_R (h : juOK z w W H m c P) {V : Int32} (hV : bl V (W * H)) {q : St} (f : fr [20] [] w q) (hq : ∀ j, j < 6 → q.2.2 5 j = nmF w P c V (W * H) j) : ∃ r q', f_X12_isFirst q = some (b2 r, q') ∧ fr [20] [] w q' ∧ (r = true ↔ HB z V) := by
  have hn := ju_nm h hV
  obtain ⟨h1, h2, h3, h4, h5, h6, h7, h8, h9, h10, h11⟩ := h
  have t : trm z q m := by
    unfold trm at h7 ⊢
    rw [f.1 2 (by decide), f.1 4 (by decide), f.2 1 (by decide), f.2 2 (by decide)]
    exact h7
  obtain ⟨r, s', q', g1, g2, f1, f2⟩ := hold_lock t hn (fun j hj => ⟨hq j hj, nm_inb h6 (sz25 h1.1).2⟩)
  refine ⟨r, q', g2, fr_t f f2, ?_⟩
  unfold HB
  rw [g1]
  cases r
  · exact ⟨fun q => (by cases q), fun ⟨s'', e⟩ => by
      have this : b2 false = 1 := congrArg Prod.fst (Option.some.inj e)
      exact absurd this (by decide)⟩
  · exact ⟨fun _ => ⟨s', rfl⟩, fun _ => rfl⟩
theorem hold_C (h : juOK z w W H m c P) {V : Int32} (hV : bl V (W * H)) {s : St} (f : fr [31] [] z s) : ∃ r s', f_X3_holds s V = some (b2 r, s') ∧ fr [31] [] z s' ∧ (r = true ↔ HB z V) := by
  have hn := ju_nm h hV
  have hR := hold_R h hV (q := sJ w 5 (nmF w P c V (W * H))) (fr_J fr_0) (fun j _ => rfl)
  obtain ⟨h1, h2, h3, h4, h5, h6, h7, h8, h9, h10, h11⟩ := h
  have t : trm s (sJ w 5 (nmF w P c V (W * H))) m := by
    unfold trm at h7 ⊢
    rw [f.1 16 (by decide), f.2 2 (by decide), f.2 3 (by decide)]
    exact h7
  obtain ⟨r, s', q', g1, g2, f1, f2⟩ := hold_lock t (fun s'' f'' => hn s'' (fr_t f f'')) (fun j _ => ⟨rfl, nm_inb h6 (sz25 h1.1).2⟩)
  obtain ⟨r2, q2, u1, u2, u3⟩ := hR
  rw [u1] at g2
  have e := congrArg Prod.fst (Option.some.inj g2)
  have e' : r2 = r := by
    have : b2 r2 = b2 r := e
    cases r2 <;> cases r <;> first | rfl | exact absurd this (by decide)
  subst e'
  exact ⟨r2, s', g1, fr_t f f1, u3⟩
theorem bl_dist (h : juOK z w W H m c P) {d : Nat} (hd : d < 6) : bl (z.2.1 7 d) (W * H) := fun i hi => by
  rw [h.2.2.1.2.1 d hd i, decide_eq_false (fun q => by omega)]
theorem bl_Vs (h : juOK z w W H m c P) {u p : Nat} (hp : p < W * H) : bl (Vs z w u p) (W * H) := by
  have hs := sz25 h.1.1
  unfold Vs
  split
  · exact bl_pow hp (by omega)
  · split
    · intro i hi; rw [h.1.2.2.2.1 i, decide_eq_false (by omega)]
    · obtain ⟨⟨d, hd, e⟩, _⟩ := h.2.2.1.1 p hp
      rw [e, nI_clamp (by omega)]
      exact bl_dist h hd
theorem p_award (h : juOK z w W H m c P) {u : Nat} (hu : u ≤ 2) {s : St} (f : fr [31] [] z s) : ∃ r s', f_X3_award s (nI u) = some (r, s') ∧ fr [31] [] z s' ∧ ∀ p, bt r p = true ↔ p < W * H ∧ HB z (Vs z w u p) := by
  have hs := sz25 h.1.1
  have e22 : s.1 22 = z.1 22 := f.1 22 (by decide)
  have e21 : s.1 21 = nI (W * H) := (f.1 21 (by decide)).trans h.1.2.2.1
  have a22 := h.1.2.2.2.1
  unfold f_X3_award F_X3_award_0 F_X3_award_31 F_X3_award_50
  by_cases c2 : u = 2
  · subst c2
    have b22 : bl (z.1 22) (W * H) := fun i hi => by rw [a22 i, decide_eq_false (by omega)]
    obtain ⟨r, s', g1, g2, g3⟩ := hold_C h b22 f
    have u2 : nI 2 = (2 : Int32) := rfl
    rw [if_pos u2, e22, g1]
    simp only [oC_s, oL_s, b2_0]
    have V2 : ∀ p, Vs z w 2 p = z.1 22 := fun p => rfl
    cases r
    · rw [if_pos rfl]
      refine ⟨0, s', rfl, g2, fun p => ?_⟩
      rw [b_0, V2]
      exact ⟨fun q => (by cases q), fun q => by have := g3.mpr q.2; cases this⟩
    · rw [if_neg (by decide), g2.1 22 (by decide)]
      refine ⟨z.1 22, s', rfl, g2, fun p => ?_⟩
      rw [a22 p, decide_eq_true_iff, V2]
      exact ⟨fun q => ⟨q, g3.mp rfl⟩, fun q => q.1⟩
  · have u2 : ¬ nI u = (2 : Int32) := fun q => c2 ((nI_eq (b := 2) (by omega) (by omega)).mp q)
    rw [if_neg u2, oL_s]
    -- the loop, over sets V j
    have loop : ∀ (e : Nat) (V : Nat → Int32), e ≤ 25 → (∀ j, j < e → bl (V j) (W * H)) → (∀ (k : St → Int32 → Int32 → Int32 → Int32 → Option (Int32 × St)) q x j, fr [31] [] z q → j < e → F_X3_award_55_b k q (nI u) x (nI e) (nI j) = F_X3_award_83 k q (nI u) x (nI e) (nI j) (V j)) → ∃ r s', F_X3_award_55 100000 s (nI u) 0 (nI e) 0 = some (r, s') ∧ fr [31] [] z s' ∧ ∀ p, bt r p = true ↔ ∃ j, j < e ∧ bt (V j) p = true ∧ HB z (V j) := by
      intro e V he hV hst
      refine loop_i (fun k i (y : St × Int32) => ∃ r s', F_X3_award_55 k y.1 (nI u) y.2 (nI e) (nI i) = some (r, s') ∧ fr [31] [] z s' ∧ ∀ p, bt r p = true ↔ ∃ j, j < e ∧ bt (V j) p = true ∧ HB z (V j)) (fun i y => fr [31] [] z y.1 ∧ ∀ p, bt y.2 p = true ↔ ∃ j, j < i ∧ bt (V j) p = true ∧ HB z (V j)) e ?_ ?_ 100000 0 (s, 0) (Nat.zero_le _) (by omega) ⟨f, fun p => by rw [b_0]; exact ⟨fun q => (by cases q), fun ⟨j, hj, _⟩ => absurd hj (Nat.not_lt_zero j)⟩⟩
      · rintro k ⟨q, x⟩ ⟨y1, y2⟩
        refine ⟨x, q, ?_, y1, y2⟩
        show F_X3_award_55_b _ q (nI u) x (nI e) (nI e) = _
        unfold F_X3_award_55_b
        rw [if_pos (Int32.le_refl _)]
      · rintro k i ⟨q, x⟩ hi ⟨y1, y2⟩ K
        show ∃ r s', F_X3_award_55_b (F_X3_award_55 k) q (nI u) x (nI e) (nI i) = _ ∧ _
        rw [hst _ q x i y1 hi]
        unfold F_X3_award_83 F_X3_award_105
        simp only [oL_s, nI_1]
        have stay : (¬ ∃ p, bt (V i) p = true ∧ HB z (V i)) → ∀ q', fr [31] [] z q' → ∃ r s', F_X3_award_55 k q' (nI u) x (nI e) (nI (i + 1)) = some (r, s') ∧ fr [31] [] z s' ∧ ∀ p, bt r p = true ↔ ∃ j, j < e ∧ bt (V j) p = true ∧ HB z (V j) := by
          intro no q' f'
          refine K (q', x) ⟨f', fun p => ?_⟩
          show bt x p = true ↔ _
          rw [y2 p]
          constructor
          · rintro ⟨j, hj, l⟩; exact ⟨j, by omega, l⟩
          · rintro ⟨j, hj, l⟩
            refine ⟨j, ?_, l⟩
            rcases Nat.lt_or_ge j i with q | q
            · exact q
            · rw [show j = i by omega] at l; exact absurd ⟨p, l⟩ no
        by_cases c0 : V i = 0
        · rw [if_pos c0]
          exact stay (fun ⟨p, l1, _⟩ => by rw [c0, b_0] at l1; cases l1) q y1
        · rw [if_neg c0]
          obtain ⟨r, s', g1, g2, g3⟩ := hold_C h (hV i hi) y1
          have g1' : f_X3_holds q (V i) = some (b2 r, s') := g1
          rw [g1']
          simp only [oC_s, b2_0]
          cases r
          · rw [if_pos rfl]
            exact stay (fun ⟨p, _, l2⟩ => by have := g3.mpr l2; cases this) s' g2
          · rw [if_neg (by decide)]
            refine K (s', x ||| V i) ⟨g2, fun p => ?_⟩
            show bt (x ||| V i) p = true ↔ _
            rw [b_or, Bool.or_eq_true, y2 p]
            constructor
            · rintro (⟨j, hj, l⟩ | l)
              · exact ⟨j, by omega, l⟩
              · exact ⟨i, by omega, l, g3.mp rfl⟩
            · rintro ⟨j, hj, l⟩
              rcases Nat.lt_or_ge j i with q | q
              · exact Or.inl ⟨j, q, l⟩
              · rw [show j = i by omega] at l; exact Or.inr l.1
    by_cases c0 : u = 0
    · subst c0
      have u0 : nI 0 = (0 : Int32) := rfl
      rw [if_pos u0, e21, oL_s]
      obtain ⟨r, s', g1, g2, g3⟩ := loop (W * H) (fun j => nI (2 ^ j)) hs.2 (fun j hj => bl_pow hj (by omega)) (fun k q x j fq hj => by
        unfold F_X3_award_55_b
        rw [if_neg (nI_ge hj (by omega)), if_pos u0, shl1 (by omega)])
      refine ⟨r, s', g1, g2, fun p => ?_⟩
      rw [g3 p]
      constructor
      · rintro ⟨j, hj, l1, l2⟩
        rw [bt_pow (by omega), decide_eq_true_iff] at l1
        subst l1
        exact ⟨hj, l2⟩
      · rintro ⟨hp, l⟩
        exact ⟨p, hp, by rw [bt_pow (by omega), decide_eq_true rfl], l⟩
    · have u0 : ¬ nI u = (0 : Int32) := fun q => c0 ((nI_eq (b := 0) (by omega) (by omega)).mp q)
      rw [if_neg u0, oL_s]
      obtain ⟨r, s', g1, g2, g3⟩ := loop 6 (fun j => z.2.1 7 j) (by omega) (fun j hj => bl_dist h hj) (fun k q x j fq hj => by
        unfold F_X3_award_55_b
        rw [if_neg (nI_ge hj (by omega)), if_neg u0, oA_in _ (vp_in_nI hj (by omega)), nI_clamp (by omega), fq.2 7 (by decide)])
      refine ⟨r, s', g1, g2, fun p => ?_⟩
      rw [g3 p]
      have ev : ∀ p, Vs z w u p = z.2.1 7 (w.2.1 7 p).toNatClampNeg := fun p => by unfold Vs; rw [if_neg c0, if_neg c2]
      constructor
      · rintro ⟨j, hj, l1, l2⟩
        rw [h.2.2.1.2.1 j hj p, decide_eq_true_iff] at l1
        refine ⟨l1.1, ?_⟩
        rw [ev, l1.2, nI_clamp (by omega)]; exact l2
      · rintro ⟨hp, l⟩
        obtain ⟨⟨d, hd, e⟩, _⟩ := h.2.2.1.1 p hp
        rw [ev, e, nI_clamp (by omega)] at l
        exact ⟨d, hd, by rw [h.2.2.1.2.1 d hd p]; exact decide_eq_true ⟨hp, e⟩, l⟩
theorem p_isHead (h : juOK z w W H m c P) {q : St} (f : fr [20] [] w q) {u : Nat} (hu : u < 25) : f_X12_isHead q (nI u) = some (b2 (hdB w c u), q) := by
  obtain ⟨h1, h2, h3, h4, h5, h6, h7, h8, h9, h10, h11⟩ := h
  have e24 : q.1 24 = nI c := (f.1 24 (by decide)).trans h9
  have e11 : q.2.1 11 = w.2.1 11 := f.2 11 (by decide)
  have e6 : ∀ i, (6 : Int32) * nI i = nI (6 * i) := fun i => by rw [show (6 : Int32) = nI 6 from rfl, mulN]
  have cc := lp_find (fun n i => F_X12_isHead_2 n q (nI u) (nI i)) (fun i => w.2.1 11 (6 * i) = nI u) c (some ((1 : Int32), q)) (some ((0 : Int32), q)) ?_ ?_ ?_ 100000 (by omega)
  · unfold f_X12_isHead F_X12_isHead_0 hdB
    rw [oL_s]
    rcases cc with ⟨p, g⟩ | ⟨p, g⟩
    · have g' : F_X12_isHead_2 100000 q (nI u) 0 = some ((1 : Int32), q) := g
      rw [g', oC_s, decide_eq_true p]; exact oZ_1 _
    · have g' : F_X12_isHead_2 100000 q (nI u) 0 = some ((0 : Int32), q) := g
      rw [g', oC_s, decide_eq_false (fun ⟨i, hi, e⟩ => p i hi e)]; exact oZ_0 _
  · intro n'
    show F_X12_isHead_2_b _ q (nI u) (nI c) = _
    unfold F_X12_isHead_2_b
    rw [e24, if_pos (Int32.le_refl _)]
  · intro n' i hi hp
    show F_X12_isHead_2_b _ q (nI u) (nI i) = _
    unfold F_X12_isHead_2_b
    rw [e24, if_neg (nI_ge hi (by omega)), e6, oA_in _ (vp_in_nI (show 6 * i < 36 by omega) (by omega)), nI_clamp (by omega), e11, if_pos hp]
  · intro n' i hi hp
    show F_X12_isHead_2_b (F_X12_isHead_2 n') q (nI u) (nI i) = F_X12_isHead_2 n' q (nI u) (nI (i + 1))
    unfold F_X12_isHead_2_b
    rw [e24, if_neg (nI_ge hi (by omega)), e6, oA_in _ (vp_in_nI (show 6 * i < 36 by omega) (by omega)), nI_clamp (by omega), e11, if_neg hp, oL_s, nI_1]
theorem p_isOfUnit (h : juOK z w W H m c P) {q : St} (f : fr [20] [] w q) {un u v : Nat} (hun : un ≤ 2) (hu : u < W * H) (hv : v < W * H) : f_X12_isOfUnit q (nI un) (nI u) (nI v) = some (b2 (bt (Vs z w un v) u), q) := by
  have hs := sz25 h.1.1
  have e7 : q.2.1 7 = w.2.1 7 := f.2 7 (by decide)
  have z01 : ∀ (b : Bool), oC (some (b2 b, q)) (fun w => oZ w.1 (some w)) = some (b2 b, q) := by
    intro b
    rw [oC_s]
    cases b
    · exact oZ_0 _
    · exact oZ_1 _
  unfold f_X12_isOfUnit F_X12_isOfUnit_0 F_X12_isOfUnit_37 F_X12_isOfUnit_42 Vs
  by_cases c0 : un = 0
  · subst c0
    have u0 : nI 0 = (0 : Int32) := rfl
    rw [if_pos u0, if_pos rfl, bt_pow (by omega)]
    by_cases c : u = v
    · rw [if_pos (by rw [c]), decide_eq_true c]; exact z01 true
    · rw [if_neg (fun e => c ((nI_eq (by omega) (by omega)).mp e)), decide_eq_false c]; exact z01 false
  · have u0 : ¬ nI un = (0 : Int32) := fun q => c0 ((nI_eq (b := 0) (by omega) (by omega)).mp q)
    rw [if_neg u0, if_neg c0]
    by_cases c2 : un = 2
    · subst c2
      have u2 : nI 2 = (2 : Int32) := rfl
      rw [if_pos u2, if_pos rfl, h.1.2.2.2.1 u, decide_eq_true hu]; exact z01 true
    · have u2 : ¬ nI un = (2 : Int32) := fun q => c2 ((nI_eq (b := 2) (by omega) (by omega)).mp q)
      rw [if_neg u2, if_neg c2, oA_in _ (vp_in_nI (show u < 25 by omega) (by omega)), oA_in _ (vp_in_nI (show v < 25 by omega) (by omega)), nI_clamp (by omega), nI_clamp (by omega), e7]
      obtain ⟨⟨d, hd, e⟩, _⟩ := h.2.2.1.1 v hv
      rw [e, nI_clamp (by omega), h.2.2.1.2.1 d hd u]
      by_cases cc : w.2.1 7 u = nI d
      · rw [if_pos cc, decide_eq_true ⟨hu, cc⟩]; exact z01 true
      · rw [if_neg cc, decide_eq_false (fun r => cc r.2)]; exact z01 false
end JDG
