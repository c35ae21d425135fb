/-! PURE: best: the search -/
/-- of two lines alike above v the one without v comes first -/
theorem lt_bit {a b v : Nat} (h : ∀ u, v < u → a.testBit u = b.testBit u) (ha : a.testBit v = false) (hb : b.testBit v = true) : a < b := by
  have e : a / 2 ^ (v + 1) = b / 2 ^ (v + 1) := by
    apply Nat.eq_of_testBit_eq
    intro i
    rw [Nat.testBit_div_two_pow, Nat.testBit_div_two_pow]
    exact h _ (by omega)
  rw [Nat.testBit_eq_decide_div_mod_eq] at ha hb
  have ha' := of_decide_eq_false ha
  have hb' := of_decide_eq_true hb
  rw [Nat.pow_succ, ← Nat.div_div_eq_div_mul, ← Nat.div_div_eq_div_mul] at e
  rcases Nat.lt_or_ge a b with q | q
  · exact q
  · exfalso
    have m := Nat.div_le_div_right (c := 2 ^ v) q
    omega
def bR (f : Nat → Nat) (S : Nat → Prop) (B B' : Nat) (s s' : St) : Prop := s'.1 33 = nI B' ∧ B' ≤ B ∧ ((∃ y, S y ∧ f y < B ∧ B' = f y ∧ s'.1 32 = nI y ∧ ∀ y', S y' → B' < f y' ∨ (B' = f y' ∧ y ≤ y')) ∨ ((∀ y, S y → B ≤ f y) ∧ B' = B ∧ s'.1 32 = s.1 32))
theorem bR_skip {f : Nat → Nat} {S : Nat → Prop} {B : Nat} {s : St} (e : s.1 33 = nI B) (h : ∀ y, S y → B ≤ f y) : bR f S B B s s := ⟨e, Nat.le_refl _, Or.inr ⟨h, rfl, rfl⟩⟩
theorem bR_cong {f : Nat → Nat} {S S' : Nat → Prop} {B B' : Nat} {s s' : St} (hS : ∀ y, S' y ↔ S y) (h : bR f S B B' s s') : bR f S' B B' s s' := by
  obtain ⟨a, b, h⟩ := h
  refine ⟨a, b, ?_⟩
  rcases h with ⟨y, h1, h2, h3, h4, h5⟩ | ⟨h1, h2⟩
  · exact Or.inl ⟨y, (hS y).mpr h1, h2, h3, h4, fun y' hy => h5 y' ((hS y').mp hy)⟩
  · exact Or.inr ⟨fun y hy => h1 y ((hS y).mp hy), h2⟩
theorem bR_t {f : Nat → Nat} {S0 S1 S : Nat → Prop} {B B1 B2 : Nat} {s s1 s2 : St} (h0 : bR f S0 B B1 s s1) (h1 : bR f S1 B1 B2 s1 s2) (hS : ∀ y, S y ↔ S0 y ∨ S1 y) (hl : ∀ y0 y1, S0 y0 → S1 y1 → y0 ≤ y1) : bR f S B B2 s s2 := by
  obtain ⟨a0, b0, h0⟩ := h0
  obtain ⟨a1, b1', h1⟩ := h1
  refine ⟨a1, by omega, ?_⟩
  rcases h0 with ⟨y, p1, p2, p3, p4, p5⟩ | ⟨p1, p2, p3⟩
  · rcases h1 with ⟨y', q1, q2, q3, q4, q5⟩ | ⟨q1, q2, q3⟩
    · refine Or.inl ⟨y', (hS y').mpr (Or.inr q1), by omega, q3, q4, fun t ht => ?_⟩
      rcases (hS t).mp ht with r | r
      · have := p5 t r
        omega
      · exact q5 t r
    · refine Or.inl ⟨y, (hS y).mpr (Or.inl p1), p2, by omega, q3.trans p4, fun t ht => ?_⟩
      rcases (hS t).mp ht with r | r
      · have := p5 t r
        omega
      · have := q1 t r
        have := hl y t p1 r
        omega
  · rcases h1 with ⟨y', q1, q2, q3, q4, q5⟩ | ⟨q1, q2, q3⟩
    · refine Or.inl ⟨y', (hS y').mpr (Or.inr q1), by omega, q3, q4, fun t ht => ?_⟩
      rcases (hS t).mp ht with r | r
      · have := p1 t r
        omega
      · exact q5 t r
    · refine Or.inr ⟨fun t ht => ?_, by omega, q3.trans p3⟩
      rcases (hS t).mp ht with r | r
      · exact p1 t r
      · have := q1 t r
        omega
/-- what the search stands on -/
def bcx (w : St) (P : Nat → Nat → Nat) (W H c f0 f1 f2 : Nat) (s : St) : Prop := geoC s W H ∧ ivVil s w (W * H) ∧ plC s P (W * H) ∧ s.1 25 = nI c ∧ (∀ i, i < c → ∃ k, k ≤ 5 ∧ canOK s w (W * H) i k) ∧ (∀ u, u ≤ W * H → s.2.1 31 u = nI (fb_sm (mnN w P f0) u)) ∧ s.1 34 = nI f0 ∧ s.1 35 = nI f1 ∧ s.1 36 = nI f2
theorem bcx_fr {w : St} {P : Nat → Nat → Nat} {W H c f0 f1 f2 : Nat} {s s' : St} (h : bcx w P W H c f0 f1 f2 s) (f : fr [32, 33] [] s s') : bcx w P W H c f0 f1 f2 s' := by
  obtain ⟨i, a⟩ := f
  have a' : s'.2.1 = s.2.1 := funext (fun k => a k List.not_mem_nil)
  unfold bcx geoC ivVil plC canOK at h ⊢
  rw [a', i 21 (by decide), i 22 (by decide), i 23 (by decide), i 25 (by decide), i 26 (by decide), i 27 (by decide), i 28 (by decide), i 34 (by decide), i 35 (by decide), i 36 (by decide)]
  exact h
/-- the lines in one piece on each side that are x from v on -/
def bS (W n v : Nat) (x : Int32) (y : Nat) : Prop := y < 2 ^ n ∧ pcs W n (nI y) ≤ 1 ∧ pcs W n (nI (2 ^ n - 1) &&& (nI y ^^^ (-1 : Int32))) ≤ 1 ∧ ∀ u, v ≤ u → bt (nI y) u = bt x u
theorem rs_bt {n : Nat} (hn : n ≤ 25) (x : Int32) (v : Nat) : bt (nI (2 ^ n - 1) &&& (x ^^^ (-1 : Int32))) v = (decide (v < n) && !bt x v) := by
  rcases Nat.lt_or_ge v 32 with q | q
  · rw [b_and, bt_allN hn, b_not _ q]
  · rw [b_big q, decide_eq_false (by omega)]; rfl
theorem cn_ok {s w : St} {n c : Nat} (hn : n ≤ 25) (hC : ∀ i, i < c → ∃ k, k ≤ 5 ∧ canOK s w n i k) : cnOK w n c := by
  intro i hi
  obtain ⟨k, hk, ok⟩ := hC i hi
  obtain ⟨n1, n2, n3, n4⟩ := can_n hn hk ok
  exact ⟨n2, fun j hj => (n4 j (by omega)).1⟩
theorem p_ch81 {w : St} {P : Nat → Nat → Nat} {W H c f0 f1 f2 : Nat} (hn : W * H ≤ 16) (hc : c ≤ 6) (hP : ∀ v s, s < 2 → P v s ≤ 1249) (h0 : f0 ≤ 999) (h1 : f1 ≤ 999) (h2 : f2 ≤ 999) (hK : ∀ i, i < c → cKk w i ≤ 5)
    {me : St → Int32 → Int32 → Int32 → Option St} {v : Nat} (hv : v < W * H)
    (hme : ∀ s x C B, bcx w P W H c f0 f1 f2 s → bl x (W * H) → (∀ u, u < v → bt x u = false) → (∀ y, bl y (W * H) → (∀ u, v ≤ u → bt y u = bt x u) → gN w P W (W * H) c f0 f1 f2 y v = C) → s.1 33 = nI B → B ≤ 1000000000 → C + fb_sm (mnN w P f0) v < B → (v = 0 → pcs W (W * H) x ≤ 1 ∧ pcs W (W * H) (nI (2 ^ (W * H) - 1) &&& (x ^^^ (-1 : Int32))) ≤ 1) → ∃ s' B', me s (nI v - 1) x (nI C) = some s' ∧ fr [32, 33] [] s s' ∧ bR (fun y => hmN w P W (W * H) c f0 f1 f2 (nI y)) (bS W (W * H) v x) B B' s s')
    {t : St} (ht : bcx w P W H c f0 f1 f2 t) {x t0 oth acr : Int32} {C B i : Nat} (hi : i < 2) (bt0 : bl t0 (W * H)) (low : ∀ u, u < v → bt t0 u = false) (etv : bt t0 v = decide (i = 1)) (hoth : ∀ u, bt oth u = (decide (u < W * H) && (decide (v ≤ u) && !bt t0 u))) (hacr : ∀ u, u < W * H → bt acr u = (decide (v < u) && (bt t0 u ^^ bt t0 v)))
    (hC : ∀ y, bl y (W * H) → (∀ u, v + 1 ≤ u → bt y u = bt t0 u) → gN w P W (W * H) c f0 f1 f2 y (v + 1) = C) (eB : t.1 33 = nI B) (hB : B ≤ 1000000000) (k29 : St → Int32 → Int32 → Int32 → Int32 → Int32 → Int32 → Option St) :
    ∃ t' B', F_X10_choose_81 me k29 t (nI v) x (nI C) (nI (2 ^ v)) (nI (2 ^ v - 1)) (nI i) t0 oth acr = k29 t' (nI v) x (nI C) (nI (2 ^ v)) (nI (2 ^ v - 1)) (nI (i + 1)) ∧ fr [32, 33] [] t t' ∧ bR (fun y => hmN w P W (W * H) c f0 f1 f2 (nI y)) (bS W (W * H) v t0) B B' t t' := by
  obtain ⟨hG, hV, hp, e25, hCn, e31, e34, e35, e36⟩ := id ht
  have hg := hG.1
  have hs := sz25 hg
  have hcn := cn_ok hs.2 hCn
  have bi : b1 (bt t0 v) = i := by
    rw [etv]
    by_cases e : i = 1
    · rw [decide_eq_true e, e]; rfl
    · rw [decide_eq_false e]; show 0 = i; omega
  -- what the village adds, for every line that is t0 from v on
  have hvy : ∀ y, bl y (W * H) → (∀ u, v ≤ u → bt y u = bt t0 u) → hvN w P W (W * H) c f0 f1 f2 y v = (ownN w P f0 v i + f1 * trN w W (W * H) acr v) + f2 * fb_sm (ppN w (nI (2 ^ v)) acr) c := by
    intro y hy ha
    have hacr' : ∀ u, u < W * H → bt acr u = (decide (v < u) && (bt y u ^^ bt y v)) := by
      intro u hu
      rw [hacr u hu]
      by_cases q : v < u
      · rw [ha u (by omega), ha v (Nat.le_refl _)]
      · rw [decide_eq_false q, Bool.false_and, Bool.false_and]
    unfold hvN
    rw [ha v (Nat.le_refl _), bi, tr_sv hg hv hacr']
    congr 2
    exact fb_sm_cong (fun i hi => (pp_pp hs.2 hv (hcn i hi).1 (hcn i hi).2 hacr').symm)
  generalize eC : C + ((ownN w P f0 v i + f1 * trN w W (W * H) acr v) + f2 * fb_sm (ppN w (nI (2 ^ v)) acr) c) = C'
  have hC' : ∀ y, bl y (W * H) → (∀ u, v ≤ u → bt y u = bt t0 u) → gN w P W (W * H) c f0 f1 f2 y v = C' := by
    intro y hy ha
    rw [gN_s y hv, hvy y hy ha, hC y hy (fun u hu => ha u (by omega))]
    omega
  have low' : ∀ y, bl y (W * H) → (∀ u, v ≤ u → bt y u = bt t0 u) → C' + fb_sm (mnN w P f0) v ≤ hmN w P W (W * H) c f0 f1 f2 y := by
    intro y hy ha
    have := gN_low (P := P) (W := W) (f0 := f0) (f1 := f1) (f2 := f2) hcn y (Nat.le_of_lt hv)
    rw [hC' y hy ha] at this
    exact this
  have bd := low' t0 bt0 (fun _ _ => rfl)
  have bd2 := hm_bd (W := W) (w := w) (P := P) hs.2 hc hP h0 h1 h2 hK t0
  have eop : ∀ u, bt (nI (2 ^ v - 1)) u = decide (u < v) := bt_allN (by omega)
  have both : bl oth (W * H) := fun u hu => by rw [hoth, decide_eq_false (by omega), Bool.false_and]
  unfold F_X10_choose_81 F_X10_choose_182
  rw [p_ownCost hs.2 hV hp e34 hv hi]
  simp only [oC_s, oL_s]
  rw [p_tracks hG hV _ hv]
  simp only [oC_s, oL_s]
  rw [p_pipes hs.2 hc e25 hCn]
  simp only [oC_s, oL_s, oA_in _ (vp_in_nI (show v < 17 by omega) (by omega)), nI_clamp (show v < 2 ^ 31 by omega), e31 v (by omega), e35, e36, mulN, nI_add, eB, nI_1]
  have ecost : C + ownN w P f0 v i + f1 * trN w W (W * H) acr v + f2 * fb_sm (ppN w (nI (2 ^ v)) acr) c = C' := by omega
  rw [ecost]
  by_cases q1 : B ≤ C' + fb_sm (mnN w P f0) v
  · rw [if_pos (nI_le q1 (by omega))]
    refine ⟨t, B, rfl, fr_0, bR_skip eB ?_⟩
    rintro y ⟨y1, y2, y3, y4⟩
    have := low' (nI y) (bl_of (by omega) y1) y4
    omega
  rw [if_neg (fun q => q1 ((nI_leI (by omega) (by omega)).mp q)), p_parted' hG bt0]
  simp only [oC_s]
  cases e1 : ptF W (W * H) t0 (nI (2 ^ v - 1)) 25 t0
  · have z1 : b2 false = 0 := rfl
    rw [if_pos z1, p_parted' hG both]
    simp only [oC_s]
    cases e2 : ptF W (W * H) oth (nI (2 ^ v - 1)) 25 oth
    · rw [if_pos z1]
      obtain ⟨s', B', g1, g2, g3⟩ := hme t t0 C' B ht bt0 low hC' eB hB (by omega) (by
        intro ev
        subst ev
        rw [show nI (2 ^ 0 - 1) = 0 from rfl, pt_0] at e1 e2
        have a1 := of_decide_eq_false e1
        have a2 := of_decide_eq_false e2
        have eo : oth = nI (2 ^ (W * H) - 1) &&& (t0 ^^^ (-1 : Int32)) := by
          apply b_ext
          intro u hu
          rw [hoth, rs_bt hs.2, decide_eq_true (Nat.zero_le u), Bool.true_and]
        rw [eo] at a2
        exact ⟨by omega, by omega⟩)
      rw [g1]
      simp only [oC_s, oL_s, nI_1]
      exact ⟨s', B', rfl, g2, g3⟩
    · have z2 : ¬ b2 true = 0 := by decide
      rw [if_neg z2]
      refine ⟨t, B, rfl, fr_0, bR_skip eB ?_⟩
      rintro y ⟨y1, y2, y3, y4⟩
      exfalso
      have := pt_no hg both (y := nI (2 ^ (W * H) - 1) &&& (nI y ^^^ (-1 : Int32))) (fun u hu => by rw [rs_bt hs.2, decide_eq_false (by omega), Bool.false_and]) e2 (by
        intro u hu
        rw [hoth, Bool.and_eq_true, Bool.and_eq_true] at hu
        rw [rs_bt hs.2, hu.1, y4 u (of_decide_eq_true hu.2.1), hu.2.2]; rfl) (by
        intro u hu
        rw [rs_bt hs.2, Bool.and_eq_true] at hu
        rw [eop, hoth, hu.1]
        rcases Nat.lt_or_ge u v with q | q
        · exact Or.inr (decide_eq_true q)
        · left
          rw [← y4 u q, hu.2, decide_eq_true q]; rfl)
      omega
  · have z2 : ¬ b2 true = 0 := by decide
    rw [if_neg z2]
    refine ⟨t, B, rfl, fr_0, bR_skip eB ?_⟩
    rintro y ⟨y1, y2, y3, y4⟩
    exfalso
    have := pt_no hg bt0 (bl_of (by omega) y1) e1 (by
      intro u hu
      rcases Nat.lt_or_ge u v with q | q
      · rw [low u q] at hu; cases hu
      · rw [y4 u q]; exact hu) (by
      intro u hu
      rcases Nat.lt_or_ge u v with q | q
      · exact Or.inr (by rw [eop]; exact decide_eq_true q)
      · left; rw [← y4 u q]; exact hu)
    omega
