/-! PURE: what the names say of a set of villages -/
def hdB (w : St) (c u : Nat) : Bool := decide (∃ i, i < c ∧ w.2.1 11 (6 * i) = nI u)
def inc (w : St) (P : Nat → Nat → Nat) (c u j : Nat) : Int64 := if j = 0 then lN (P u 0) else if j = 1 then lN (P u 1) else if j = 2 then (if w.2.1 8 u = 0 then 1 else if w.2.1 8 u = 1 then -1 else 0) else if j = 3 then (if rl w u then 1 else 0) else if j = 4 then (if hdB w c u then 1 else 0) else 1
def nmF (w : St) (P : Nat → Nat → Nat) (c : Nat) (V : Int32) : Nat → Nat → Int64
  | 0, _ => 0
  | u + 1, j => if bt V u then nmF w P c V u j + inc w P c u j else nmF w P c V u j
theorem lN_s (a : Nat) : lN a + 1 = lN (a + 1) := lN_1 a
theorem nm_ct {w : St} {P : Nat → Nat → Nat} {c : Nat} {V : Int32} {j : Nat} (p : Nat → Bool) (h : ∀ u, inc w P c u j = if p u then 1 else 0) : ∀ n, nmF w P c V n j = lN (fb_ct (fun u => bt V u && p u) n)
  | 0 => rfl
  | n + 1 => by
    show (if bt V n then nmF w P c V n j + inc w P c n j else nmF w P c V n j) = _
    rw [nm_ct p h n, fb_ct_succ, h n]
    cases bt V n
    · rw [if_neg (by decide), Bool.false_and]; rfl
    · rw [if_pos rfl, Bool.true_and]
      cases p n
      · rw [if_neg (by decide), if_neg (by decide), Nat.add_zero, Int64.add_zero]
      · rw [if_pos rfl, if_pos rfl, lN_s]
theorem nm_2 {w : St} {P : Nat → Nat → Nat} {c : Nat} {V : Int32} : ∀ n, nmF w P c V n 2 = lN (fb_ct (fun u => bt V u && decide (w.2.1 8 u = 0)) n) - lN (fb_ct (fun u => bt V u && decide (w.2.1 8 u = 1)) n)
  | 0 => show (0 : Int64) = lN 0 - lN 0 by decide
  | n + 1 => by
    show (if bt V n then nmF w P c V n 2 + (if w.2.1 8 n = 0 then 1 else if w.2.1 8 n = 1 then -1 else 0) else nmF w P c V n 2) = _
    rw [nm_2 n, fb_ct_succ, fb_ct_succ]
    cases bt V n
    · rw [if_neg (by decide), Bool.false_and, Bool.false_and]; rfl
    · rw [if_pos rfl, Bool.true_and, Bool.true_and]
      by_cases c0 : w.2.1 8 n = 0
      · have c1 : ¬ w.2.1 8 n = 1 := by rw [c0]; decide
        rw [if_pos c0, decide_eq_true c0, decide_eq_false c1, if_pos rfl, if_neg (by decide), Nat.add_zero, ← lN_s]
        generalize lN (fb_ct (fun u => bt V u && decide (w.2.1 8 u = 0)) n) = a
        generalize lN (fb_ct (fun u => bt V u && decide (w.2.1 8 u = 1)) n) = b
        grind
      · have ft : ¬ (false = true) := by decide
        rw [if_neg c0, decide_eq_false c0, if_neg ft, Nat.add_zero]
        by_cases c1 : w.2.1 8 n = 1
        · rw [if_pos c1, decide_eq_true c1, if_pos rfl, ← lN_s]
          generalize lN (fb_ct (fun u => bt V u && decide (w.2.1 8 u = 0)) n) = a
          generalize lN (fb_ct (fun u => bt V u && decide (w.2.1 8 u = 1)) n) = b
          grind
        · rw [if_neg c1, decide_eq_false c1, if_neg (by decide), Nat.add_zero, Int64.add_zero]
theorem lN_sm {a : Nat} (h : a < 2147483648) : (lN a).toInt = a := lN_toInt h
theorem inc_b {w : St} {P : Nat → Nat → Nat} {c u j : Nat} (hP : ∀ v s, s < 2 → P v s ≤ 1249) : -1249 ≤ (inc w P c u j).toInt ∧ (inc w P c u j).toInt ≤ 1249 := by
  have h0 := hP u 0 (by omega)
  have h1 := hP u 1 (by omega)
  have e1 : ((1 : Int64)).toInt = 1 := by decide
  have e0 : ((0 : Int64)).toInt = 0 := by decide
  have em : ((-1 : Int64)).toInt = -1 := by decide
  unfold inc
  split
  · rw [lN_sm (by omega)]; omega
  · split
    · rw [lN_sm (by omega)]; omega
    · split
      · split
        · rw [e1]; omega
        · split
          · rw [em]; omega
          · rw [e0]; omega
      · split
        · split
          · rw [e1]; omega
          · rw [e0]; omega
        · split
          · split
            · rw [e1]; omega
            · rw [e0]; omega
          · rw [e1]; omega
theorem nm_b {w : St} {P : Nat → Nat → Nat} {c j : Nat} {V : Int32} (hP : ∀ v s, s < 2 → P v s ≤ 1249) : ∀ n : Nat, n ≤ 25 → -((n : Int) * 1249) ≤ (nmF w P c V n j).toInt ∧ (nmF w P c V n j).toInt ≤ (n : Int) * 1249
  | 0, _ => by
    have e0 : ((0 : Int64)).toInt = 0 := by decide
    show -(((0 : Nat) : Int) * 1249) ≤ (0 : Int64).toInt ∧ (0 : Int64).toInt ≤ ((0 : Nat) : Int) * 1249
    rw [e0]; omega
  | n + 1, hn => by
    have ih := nm_b (V := V) (c := c) (j := j) (w := w) hP n (by omega)
    have hi := inc_b (w := w) (c := c) (u := n) (j := j) hP
    show -(((n + 1 : Nat) : Int) * 1249) ≤ (if bt V n then nmF w P c V n j + inc w P c n j else nmF w P c V n j : Int64).toInt ∧ (if bt V n then nmF w P c V n j + inc w P c n j else nmF w P c V n j : Int64).toInt ≤ ((n + 1 : Nat) : Int) * 1249
    cases bt V n
    · rw [if_neg (by decide)]; omega
    · rw [if_pos rfl, fb_addL (by omega) (by omega)]; omega
theorem nm_inb {w : St} {P : Nat → Nat → Nat} {c n j : Nat} {V : Int32} (hP : ∀ v s, s < 2 → P v s ≤ 1249) (hn : n ≤ 25) : inb (nmF w P c V n j) := by
  have := nm_b (V := V) (c := c) (j := j) (w := w) hP n hn
  rw [inb_i]
  omega
/-- the class's names -/
theorem p_peopleIn {s w : St} {P : Nat → Nat → Nat} {n c : Nat} {V : Int32} {t : Nat} (hn : n ≤ 25) (e21 : s.1 21 = nI n) (hp : plC s P n) (hP : ∀ v s, s < 2 → P v s ≤ 1249) (ht : t < 2) : f_X3_peopleIn s (nI t) V = some (nmF w P c V n t, s) := by
  unfold f_X3_peopleIn F_X3_peopleIn_0
  simp only [oL_s]
  have hin : vp_in (nI t) 2 := vp_in_nI ht (by omega)
  have key := loop_i (σ := Unit) (fun k i _ => F_X3_peopleIn_5 k s (nI t) V (nmF w P c V i t) (nI i) = some (nmF w P c V n t, s)) (fun _ _ => True) n ?_ ?_ 100000 0 () (Nat.zero_le _) (by omega) trivial
  · exact key
  · intro k _ _
    show F_X3_peopleIn_5_b _ s (nI t) V _ (nI n) = _
    unfold F_X3_peopleIn_5_b
    rw [e21, if_pos (Int32.le_refl _)]
  · intro k i _ hi _ K
    have K := K () trivial
    show F_X3_peopleIn_5_b (F_X3_peopleIn_5 k) s (nI t) V _ (nI i) = _
    unfold F_X3_peopleIn_5_b F_X3_peopleIn_42
    have K' : F_X3_peopleIn_5 k s (nI t) V (if bt V i then nmF w P c V i t + inc w P c i t else nmF w P c V i t) (nI (i + 1)) = some (nmF w P c V n t, s) := K
    rw [e21, if_neg (nI_ge hi (by omega))]
    cases hb : bt V i
    · rw [hb, if_neg (by decide)] at K'
      rw [if_pos ((b_test0 V (by omega)).mpr hb), oL_s, nI_1]; exact K'
    · rw [hb, if_pos rfl] at K'
      have nb : ¬ ((V >>> (nI i &&& 31)) &&& (1 : Int32) = 0) := by rw [b_test0 _ (by omega), hb]; decide
      have b := hP i t ht
      rw [if_neg nb, oA_in _ hin, nI_clamp (by omega), row26 ht (by omega), oL_s, oL_s, nI_clamp (show i < 2 ^ 31 by omega), hp t ht i hi, nI_l (by omega), nI_1]
      have ei : inc w P c i t = lN (P i t) := by
        unfold inc
        rcases (show t = 0 ∨ t = 1 by omega) with rfl | rfl <;> rfl
      rw [ei] at K'; exact K'
theorem sub64 {a b : Nat} (ha : a < 1000) (hb : b < 1000) : Int32.toInt64 (nI a - nI b) = lN a - lN b := by
  apply Int64.toInt_inj.mp
  rw [Int32.toInt_toInt64, fb_subI (by rw [nI_toInt (by omega), nI_toInt (by omega)]; omega) (by rw [nI_toInt (by omega), nI_toInt (by omega)]; omega), fb_subL (by rw [lN_sm (by omega), lN_sm (by omega)]; omega) (by rw [lN_sm (by omega), lN_sm (by omega)]; omega), nI_toInt (by omega), nI_toInt (by omega), lN_sm (by omega), lN_sm (by omega)]
theorem pcV {V x : Int32} {n : Nat} {p : Nat → Bool} (hn : n ≤ 25) (hV : bl V n) (h : ∀ u, u < n → bt x u = p u) : pc (x &&& V) = fb_ct (fun u => bt V u && p u) n := by
  unfold pc
  rw [ct_cut (n := n) (N := 32) (fun k hk => by rw [b_and, hV k hk, Bool.and_false]) (by omega)]
  apply fb_ct_cong
  intro u hu
  rw [b_and, h u hu, Bool.and_comm]
theorem nm_C {s w : St} {P : Nat → Nat → Nat} {n c : Nat} {V : Int32} (hn : n ≤ 25) (e21 : s.1 21 = nI n) (hp : plC s P n) (hP : ∀ v s, s < 2 → P v s ≤ 1249) (hV : ivVil s w n) (hc : ∀ v, v < 32 → (bt (s.1 24) v = true ↔ ∃ i, i < c ∧ w.2.1 11 (6 * i) = nI v)) (hb : bl V n) : nmC s V (nmF w P c V n) := by
  intro s' f
  have e21' : s'.1 21 = nI n := (f.1 21 (by decide)).trans e21
  have hp' : plC s' P n := fun t ht v hv => by rw [f.2 (26 + t) (by simp)]; exact hp t ht v hv
  have q0 := p_peopleIn (w := w) (c := c) (V := V) hn e21' hp' hP (show 0 < 2 by omega)
  have q1 := p_peopleIn (w := w) (c := c) (V := V) hn e21' hp' hP (show 1 < 2 by omega)
  refine ⟨?_, q0, q1⟩
  have q0' : f_X3_peopleIn s' 0 V = some (nmF w P c V n 0, s') := q0
  have q1' : f_X3_peopleIn s' 1 V = some (nmF w P c V n 1, s') := q1
  have e8 : s'.2.1 8 = s.2.1 8 := f.2 8 (by decide)
  have e23 : s'.1 23 = s.1 23 := f.1 23 (by decide)
  have e24 : s'.1 24 = s.1 24 := f.1 24 (by decide)
  have i0 : vp_in (0 : Int32) 2 := by unfold vp_in; decide
  have i1 : vp_in (1 : Int32) 2 := by unfold vp_in; decide
  intro j hj
  unfold f_X3_named F_X3_named_0
  rcases (show j = 0 ∨ j = 1 ∨ j = 2 ∨ j = 3 ∨ j = 4 ∨ j = 5 by omega) with rfl | rfl | rfl | rfl | rfl | rfl
  · have a : nI (11 + 0) = (11 : Int32) := rfl
    rw [a, if_pos rfl, q0']; rfl
  · have a : nI (11 + 1) = (12 : Int32) := rfl
    rw [a, if_neg (show ¬ (12 : Int32) = 11 by decide), if_pos rfl, q1']; rfl
  · have a : nI (11 + 2) = (13 : Int32) := rfl
    rw [a, if_neg (show ¬ (13 : Int32) = 11 by decide), if_neg (show ¬ (13 : Int32) = 12 by decide), if_pos rfl]
    simp only [oA_in _ i0, oA_in _ i1, p_bitCount, oC_s, oL_s]
    have r0 : pc (s'.2.1 8 (Int32.toNatClampNeg (0 : Int32)) &&& V) = fb_ct (fun u => bt V u && decide (w.2.1 8 u = 0)) n := by
      show pc (s'.2.1 8 0 &&& V) = _
      rw [e8]
      exact pcV hn hb (fun u hu => by rw [hV.2.2.1 0 (by omega) u]; exact decide_eq_decide.mpr ⟨fun q => q.2, fun q => ⟨hu, q⟩⟩)
    have r1 : pc (s'.2.1 8 (Int32.toNatClampNeg (1 : Int32)) &&& V) = fb_ct (fun u => bt V u && decide (w.2.1 8 u = 1)) n := by
      show pc (s'.2.1 8 1 &&& V) = _
      rw [e8]
      exact pcV hn hb (fun u hu => by rw [hV.2.2.1 1 (by omega) u]; exact decide_eq_decide.mpr ⟨fun q => q.2, fun q => ⟨hu, q⟩⟩)
    have l0 := fb_ct_le (fun u => bt V u && decide (w.2.1 8 u = 0)) n
    have l1 := fb_ct_le (fun u => bt V u && decide (w.2.1 8 u = 1)) n
    rw [r0, r1, sub64 (by omega) (by omega), nm_2]
  · have a : nI (11 + 3) = (14 : Int32) := rfl
    rw [a, if_neg (show ¬ (14 : Int32) = 11 by decide), if_neg (show ¬ (14 : Int32) = 12 by decide), if_neg (show ¬ (14 : Int32) = 13 by decide), if_pos rfl]
    simp only [p_bitCount, oC_s, oL_s]
    have r : pc (s'.1 23 &&& V) = fb_ct (fun u => bt V u && rl w u) n := by
      rw [e23]
      exact pcV hn hb (fun u hu => by rw [hV.2.2.2 u]; exact decide_eq_decide.mpr ⟨fun q => q.2, fun q => ⟨hu, q⟩⟩)
    have l0 := fb_ct_le (fun u => bt V u && rl w u) n
    rw [r, nI_l (by omega), nm_ct (rl w) (fun u => rfl)]
  · have a : nI (11 + 4) = (15 : Int32) := rfl
    rw [a, if_neg (show ¬ (15 : Int32) = 11 by decide), if_neg (show ¬ (15 : Int32) = 12 by decide), if_neg (show ¬ (15 : Int32) = 13 by decide), if_neg (show ¬ (15 : Int32) = 14 by decide), if_pos rfl]
    simp only [p_bitCount, oC_s, oL_s]
    have r : pc (s'.1 24 &&& V) = fb_ct (fun u => bt V u && hdB w c u) n := by
      rw [e24]
      refine pcV hn hb (fun u hu => ?_)
      rw [Bool.eq_iff_iff, hc u (by omega)]
      unfold hdB
      rw [decide_eq_true_iff]
    have l0 := fb_ct_le (fun u => bt V u && hdB w c u) n
    rw [r, nI_l (by omega), nm_ct (hdB w c) (fun u => rfl)]
  · have a : nI (11 + 5) = (16 : Int32) := rfl
    rw [a, if_neg (show ¬ (16 : Int32) = 11 by decide), if_neg (show ¬ (16 : Int32) = 12 by decide), if_neg (show ¬ (16 : Int32) = 13 by decide), if_neg (show ¬ (16 : Int32) = 14 by decide), if_neg (show ¬ (16 : Int32) = 15 by decide)]
    simp only [p_bitCount, oC_s, oL_s]
    have r : pc V = fb_ct (fun u => bt V u && (fun _ => true) u) n := by
      unfold pc
      rw [ct_cut (n := n) (N := 32) hb (by omega)]
      apply fb_ct_cong
      intro u _
      rw [Bool.and_true]
    have l0 := fb_ct_le (fun u => bt V u && (fun _ => true) u) n
    rw [r, nI_l (by omega), nm_ct (fun _ => true) (fun u => rfl)]
/-- holds and isFirst, alike -/
def trm (s q : St) (m : Nat) : Prop := m ≤ 64 ∧ s.1 16 = nI m ∧ q.1 2 = nI m ∧ ((m = 0 ∧ q.1 4 = 0) ∨ (q.1 4 = 1 ∧ knotsR (s.2.1 2) (s.2.1 3) (q.2.1 1) (q.2.1 2) m 1))
theorem hold_lock {s q : St} {V : Int32} {nm : Nat → Int64} {m : Nat} (ht : trm s q m) (hC : nmC s V nm) (hR : ∀ j, j < 6 → q.2.2 5 j = nm j ∧ inb (nm j)) : ∃ r s' q', f_X3_holds s V = some (b2 r, s') ∧ f_X12_isFirst q = some (b2 r, q') ∧ fr [31] [] s s' ∧ fr [20] [] q q' := by
  obtain ⟨hm, h16, h2, hk⟩ := ht
  have z01 : ∀ (b : Bool) (y : St), oC (some (b2 b, y)) (fun w => oZ w.1 (some w)) = some (b2 b, y) := by
    intro b y
    rw [oC_s]
    cases b
    · exact oZ_0 _
    · exact oZ_1 _
  unfold f_X3_holds F_X3_holds_0 F_X3_holds_28 f_X12_isFirst F_X12_isFirst_0 F_X12_isFirst_28
  rcases hk with ⟨rfl, h4⟩ | ⟨h4, hk⟩
  · have h16' : s.1 16 = 0 := h16
    have i0 : vp_in (0 : Int32) 6 := by unfold vp_in; decide
    have i1 : vp_in (1 : Int32) 6 := by unfold vp_in; decide
    have r0 : q.2.2 5 (Int32.toNatClampNeg (0 : Int32)) = nm 0 := (hR 0 (by omega)).1
    have r1 : q.2.2 5 (Int32.toNatClampNeg (1 : Int32)) = nm 1 := (hR 1 (by omega)).1
    rw [if_pos h16', if_pos h4, (hC s fr_0).2.1]
    simp only [oC_s, oL_s, (hC s fr_0).2.2, oA_in _ i0, oA_in _ i1, r0, r1]
    refine ⟨decide (¬ lg_cmp (nm 0) (nm 1) ≤ 0), s, q, ?_, ?_, fr_0, fr_0⟩
    · by_cases c : lg_cmp (nm 0) (nm 1) ≤ 0
      · rw [if_pos c, decide_eq_false (fun n => n c)]; exact z01 false s
      · rw [if_neg c, decide_eq_true c]; exact z01 true s
    · by_cases c : lg_cmp (nm 0) (nm 1) ≤ 0
      · rw [if_pos c, decide_eq_false (fun n => n c)]; exact z01 false q
      · rw [if_neg c, decide_eq_true c]; exact z01 true q
  · have m0 : m ≠ 0 := by
      rintro rfl
      exact absurd (show (1 : Nat) = 0 from hk) (by decide)
    have h16' : ¬ s.1 16 = 0 := by rw [h16]; exact nI_ne0 (by omega) (by omega)
    have h4' : ¬ q.1 4 = 0 := by rw [h4]; decide
    obtain ⟨dep, d0, d1, d2⟩ := knots_seq m 1 hk
    obtain ⟨r, s', q', g1, g2, f1, f2⟩ := rule_lock (s0 := s) (q0 := q) ⟨hm, h16, h2, d0, d2, d1, hC, hR⟩
    rw [if_neg h16', if_neg h4', oZ_0]
    simp only [oL_s]
    rw [g1, g2]
    exact ⟨r, s', q', z01 r s', z01 r q', f1, f2⟩
