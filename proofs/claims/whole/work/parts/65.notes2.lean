/-! PURE: drafts, notes, canals, villages under Inv -/
theorem shl1 {n : Nat} (hn : n < 32) : (1 : Int32) <<< (nI n &&& 31) = nI (2 ^ n) := by
  apply b_ext
  intro i hi
  rw [b_one hn hi, bt_nI hi, Nat.testBit_two_pow]
  exact decide_eq_decide.mpr (by omega)
theorem allL {z w : St} {W H : Nat} (h : ivLand z w W H) : z.1 22 = nI (2 ^ (W * H) - 1) := by
  have hs := sz25 h.1
  apply b_ext
  intro i hi
  rw [h.2.2.2.2.2.1 i, bt_nI hi, Nat.testBit_two_pow_sub_one]
theorem pow25 {n : Nat} (h : n ≤ 25) : 1 ≤ 2 ^ n ∧ 2 ^ n ≤ 33554432 := ⟨Nat.one_le_two_pow, Nat.le_trans (Nat.pow_le_pow_right (by omega) h) (by decide)⟩
theorem c_line {z w : St} {W H : Nat} (h : ivLand z w W H) (x : Int32) : (f_X4_isLine z x = some (0, z) ∧ f_X12_isLine w x = some (0, w)) ∨ ∃ L, L < 2 ^ (W * H) ∧ x = nI L ∧ f_X4_isLine z x = some (1, z) ∧ f_X12_isLine w x = some (1, w) := by
  have hs := sz25 h.1
  have hp := pow25 hs.2
  have hA := allL h
  have e1 : (1 : Int32) <<< ((w.1 22 * w.1 23) &&& 31) = nI (2 ^ (W * H)) := by rw [szL h]; exact shl1 (by omega)
  unfold f_X4_isLine F_X4_isLine_0 F_X4_isLine_16 F_X4_isLine_17 f_X12_isLine F_X12_isLine_0 F_X12_isLine_18 F_X12_isLine_19
  simp only [p_cells, oC_some, oL_eq, e1, hA]
  by_cases a : x < 0
  · left; rw [if_pos a, if_pos a]; exact ⟨rfl, rfl⟩
  · rw [if_neg a, if_neg a]
    obtain ⟨j, hj, rfl⟩ := nI_of a
    by_cases b : j < 2 ^ (W * H)
    · right
      rw [if_neg (nI_nlt (by omega) (by omega)), if_neg (nI_ge b (by omega))]
      exact ⟨j, b, rfl, rfl, rfl⟩
    · left
      rw [if_pos (nI_lt (by omega) hj), if_pos (nI_le (by omega) hj)]
      exact ⟨rfl, rfl⟩
theorem q_draft {z w : St} (h : Inv z w) (x : Int32) : Ok (f_X11_draft z x) (f_X12_draft w x) := by
  have h' := h
  obtain ⟨W, H, ⟨t, ht, t1, t2⟩, hL, hV, hC, hN, hE, ⟨d, hd, d1, d2, d3, d4, hD⟩, hK, hT, hF, hR⟩ := h
  have k2 : (sI w 0 0).1 25 = nI d := d2
  have k3 : (sI w 0 0).1 21 = nI t := t2
  unfold f_X11_draft F_X11_draft_0 F_X11_draft_27 f_X12_draft F_X12_draft_0 F_X12_draft_22
  rcases c_line (w := sI w 0 0) hL x with ⟨g1, g2⟩ | ⟨L, hl, rfl, g1, g2⟩
  · simp only [oL_eq, g1, g2, oC_some, ↓reduceIte]
    exact ⟨-1, _, _, rfl, rfl, Inv_0 h'⟩
  · simp only [oL_eq, g1, g2, oC_some, i10, ↓reduceIte, k2]
    unfold f_X1_add F_X1_add_0
    simp only [oL_eq, d1, t1, k3, k2, sA_1, sA_a, sI_i, sI_a, Nat.reduceEqDiff, ↓reduceIte]
    by_cases q : d = 12
    · have e1 : ¬ nI d < (12 : Int32) := nI_nlt (b := 12) (by omega) (by omega)
      have e2 : nI d = (12 : Int32) := by rw [q]; rfl
      rw [if_neg e1, if_pos e2]
      exact ⟨-1, _, _, rfl, rfl, Inv_0 h'⟩
    · have e1 : nI d < (12 : Int32) := nI_lt (b := 12) (by omega) (by omega)
      have e2 : ¬ nI d = (12 : Int32) := fun e => q ((nI_eq (b := 12) (by omega) (by omega)).mp e)
      have hin : vp_in (nI d) 12 := vp_in_nI (by omega) (by omega)
      rw [if_pos e1, if_neg e2]
      simp only [oA_in _ hin, oC_some, nI_clamp (show d < 2 ^ 31 by omega)]
      refine ⟨_, _, _, rfl, rfl, W, H, ⟨t, ht, t1, t2⟩, hL, hV, hC, hN, hE, ⟨d + 1, by omega, (nI_1 d), (nI_1 d), ?_, ?_, ?_⟩, hK, hT, hF, hR⟩
      · show upd (z.2.1 28) d (nI L) = upd (w.2.1 13) d (nI L)
        rw [d3]
      · show upd (z.2.1 29) d (nI t) = upd (w.2.1 14) d (nI t)
        rw [d4]
      · intro i hi
        show (∃ L', L' < 2 ^ (W * H) ∧ upd (w.2.1 13) d (nI L) i = nI L') ∧ ∃ t', t' ≤ 999 ∧ upd (w.2.1 14) d (nI t) i = nI t'
        by_cases qi : i = d
        · subst qi
          exact ⟨⟨L, hl, pk_us⟩, t, ht, pk_us⟩
        · rw [pk_un qi, pk_un qi]
          exact hD i (by omega)
theorem Inv_add {z w : St} (h : Inv z w) {m : Nat} (em : z.1 29 = nI m) (hm : m ≤ 79) (k a b c d : Int32) (hok : ∀ W H, ivLand z w W H → noteD k a b c d (W * H) m) : Inv (addC z k a b c d (z.1 0)) (addR (sI w 0 0) k a b c d) := by
  obtain ⟨W, H, ⟨t, ht, t1, t2⟩, hL, hV, hC, ⟨m', hm', m1, m2, a1, a2, a3, a4, a5, a6, hn⟩, hE, hD, hK, hT, hF, hR⟩ := h
  have em' : m' = m := by rw [em] at m1; exact ((nI_eq (by omega) (by omega)).mp m1).symm
  subst em'
  have c1 : (z.1 29).toNatClampNeg = m' := by rw [em]; exact nI_clamp (by omega)
  have c2 : (w.1 27).toNatClampNeg = m' := by rw [m2]; exact nI_clamp (by omega)
  refine ⟨W, H, ⟨t, ht, t1, t2⟩, hL, hV, hC, ⟨m' + 1, by omega, ?_, ?_, ?_, ?_, ?_, ?_, ?_, ?_, ?_⟩, hE, hD, hK, hT, hF, hR⟩
  · show z.1 29 + 1 = _
    rw [em, nI_1]
  · show w.1 27 + 1 = _
    rw [m2, nI_1]
  · show upd (z.2.1 11) (z.1 29).toNatClampNeg k = upd (w.2.1 16) (w.1 27).toNatClampNeg k
    rw [a1, c1, c2]
  · show upd (z.2.1 12) (z.1 29).toNatClampNeg a = upd (w.2.1 18) (w.1 27).toNatClampNeg a
    rw [a2, c1, c2]
  · show upd (z.2.1 13) (z.1 29).toNatClampNeg b = upd (w.2.1 19) (w.1 27).toNatClampNeg b
    rw [a3, c1, c2]
  · show upd (z.2.1 14) (z.1 29).toNatClampNeg c = upd (w.2.1 20) (w.1 27).toNatClampNeg c
    rw [a4, c1, c2]
  · show upd (z.2.1 15) (z.1 29).toNatClampNeg d = upd (w.2.1 21) (w.1 27).toNatClampNeg d
    rw [a5, c1, c2]
  · show upd (z.2.1 16) (z.1 29).toNatClampNeg (z.1 0) = upd (w.2.1 17) (w.1 27).toNatClampNeg (w.1 21)
    rw [a6, c1, c2, t1, t2]
  · intro i hi
    show (∃ t, t ≤ 999 ∧ upd (w.2.1 17) (w.1 27).toNatClampNeg (w.1 21) i = nI t) ∧ noteD (upd (w.2.1 16) (w.1 27).toNatClampNeg k i) (upd (w.2.1 18) (w.1 27).toNatClampNeg a i) (upd (w.2.1 19) (w.1 27).toNatClampNeg b i) (upd (w.2.1 20) (w.1 27).toNatClampNeg c i) (upd (w.2.1 21) (w.1 27).toNatClampNeg d i) (W * H) i
    rw [c2]
    by_cases q : i = m'
    · subst q
      simp only [pk_us]
      exact ⟨⟨t, ht, t2⟩, hok W H hL⟩
    · simp only [pk_un q]
      exact hn i (by omega)
theorem q_strike {z w : St} (h : Inv z w) (x : Int32) : Ok (f_X11_strike z x) (f_X12_strike w x) := by
  have h' := h
  obtain ⟨W, H, hDy, hL, hV, hC, ⟨m, hm, m1, m2, -⟩, hE, hD, hK, hT, hF, hR⟩ := h
  have et : (nI m).toInt = m := nI_toInt (by omega)
  rcases p_strike z w x (by rw [m1, m2]) (by rw [m1, et]; omega) (by rw [m1, et]; omega) with ⟨g1, g2⟩ | ⟨a1, a2, a3, g1, g2⟩
  · exact ⟨_, _, _, g1, g2, Inv_0 h'⟩
  · rw [m1, et] at a1 a3
    obtain ⟨j, hj, rfl⟩ := nI_mk (n := m) a2 (by omega) (by omega)
    rw [nI_toInt (by omega)] at a3
    exact ⟨_, _, _, g1, g2, Inv_add h' m1 (by omega) _ _ _ _ _ (fun W H hL => Or.inr (Or.inr (Or.inr ⟨rfl, j, by omega, rfl⟩)))⟩
theorem q_count {z w : St} (h : Inv z w) (x1 x2 x3 x4 : Int32) : Ok (f_X11_count z x1 x2 x3 x4) (f_X12_count w x1 x2 x3 x4) := by
  have h' := h
  obtain ⟨W, H, hDy, hL, hV, hC, ⟨m, hm, m1, m2, -⟩, hE, hD, hK, hT, hF, hR⟩ := h
  have et : (nI m).toInt = m := nI_toInt (by omega)
  rcases p_count z w x1 x2 x3 x4 (by rw [szL hL, hL.2.2.2.2.1]) (by rw [m1, m2]) (by rw [m1, et]; omega) (by rw [m1, et]; omega) with ⟨g1, g2⟩ | ⟨a1, b1, b2, b3, b4, b5, b6, b7, b8, g1, g2⟩
  · exact ⟨_, _, _, g1, g2, Inv_0 h'⟩
  · rw [m1, et] at a1
    obtain ⟨j1, i1, rfl⟩ := nI_of b1
    obtain ⟨j2, i2, rfl⟩ := nI_of b3
    obtain ⟨j3, i3, rfl⟩ := nI_of b5
    obtain ⟨j4, i4, rfl⟩ := nI_of b7
    have l1 : j1 < 4 := by rcases Nat.lt_or_ge j1 4 with q | q; exact q; exact absurd (nI_le q i1) b2
    have l3 : j3 ≤ 999 := by rcases Nat.lt_or_ge 999 j3 with q | q; exact absurd (nI_lt q i3) b6; exact q
    have l4 : j4 ≤ 999 := by rcases Nat.lt_or_ge 999 j4 with q | q; exact absurd (nI_lt q i4) b8; exact q
    refine ⟨_, _, _, g1, g2, Inv_add h' m1 (by omega) _ _ _ _ _ (fun W' H' hL' => Or.inr (Or.inr (Or.inl ⟨rfl, j1, j2, j3, j4, l1, ?_, l3, l4, rfl, rfl, rfl, rfl⟩)))⟩
    rcases Nat.lt_or_ge j2 (W' * H') with q | q
    · exact q
    · rw [hL'.2.2.2.2.1] at b4; exact absurd (nI_le q i2) b4
theorem q_note {z w : St} (h : Inv z w) (x1 x2 x3 x4 : Int32) : Ok (f_X11_note z x1 x2 x3 x4) (f_X12_note w x1 x2 x3 x4) := by
  have h' := h
  obtain ⟨W, H, ⟨t, ht, t1, t2⟩, hL, hV, hC, ⟨m, hm, m1, m2, -⟩, hE, ⟨dn, hdn, d1, d2, d3, d4, hD⟩, hK, hT, hF, hR⟩ := h
  have et : (nI m).toInt = m := nI_toInt (by omega)
  have ett : w.1 21 = z.1 0 := by rw [t1, t2]
  by_cases dd : x4 < 0 ∨ z.1 0 < x4 ∨ x3 < 0 ∨ (8 : Int32) ≤ x3
  · obtain ⟨g1, g2⟩ := p_note_day z w x1 x2 x3 x4 ett dd
    exact ⟨_, _, _, g1, g2, Inv_0 h'⟩
  have a : ¬ x4 < 0 := fun q => dd (Or.inl q)
  have b : ¬ z.1 0 < x4 := fun q => dd (Or.inr (Or.inl q))
  have e : ¬ (x3 < 0 ∨ (8 : Int32) ≤ x3) := fun q => dd (Or.inr (Or.inr q))
  have hz0 : 0 ≤ (z.1 29).toInt := by rw [m1, et]; omega
  have hz1 : (z.1 29).toInt ≤ 80 := by rw [m1, et]; omega
  have hnm : w.1 27 = z.1 29 := by rw [m1, m2]
  obtain ⟨j4, i4, e4⟩ := nI_of a
  obtain ⟨j3, i3, e3⟩ := nI_of (fun q => e (Or.inl q))
  have l4 : j4 ≤ 999 := by
    rcases Nat.lt_or_ge 999 j4 with q | q
    · exact absurd (by rw [t1, e4]; exact nI_lt (by omega) i4) b
    · exact q
  have l3 : j3 < 8 := by rcases Nat.lt_or_ge j3 8 with q | q; exact q; exact absurd (Or.inr (by rw [e3]; exact nI_le q i3)) e
  have drf : ∀ x2, ¬ (x2 < 0 ∨ z.1 30 ≤ x2) → ∃ j, j < 12 ∧ x2 = nI j := by
    intro x2 hx
    obtain ⟨j, hj, e2⟩ := nI_of (fun q => hx (Or.inl q))
    refine ⟨j, ?_, e2⟩
    rcases Nat.lt_or_ge j 12 with q | q
    · exact q
    · exact absurd (Or.inr (by rw [d1, e2]; exact nI_le (by omega) hj)) hx
  by_cases h1 : x1 = 1
  · subst h1
    rcases p_note_1 z w x2 x3 x4 ett hnm hz0 hz1 a b e with ⟨g1, g2⟩ | ⟨a1, b1, b2, g1, g2⟩
    · exact ⟨_, _, _, g1, g2, Inv_0 h'⟩
    · rw [m1, et] at a1
      obtain ⟨j2, i2, e2⟩ := nI_of (fun q => b1 (Or.inl q))
      have l2 : j2 < 8 := by rcases Nat.lt_or_ge j2 8 with q | q; exact q; exact absurd (Or.inr (by rw [e2]; exact nI_le q i2)) b1
      exact ⟨_, _, _, g1, g2, Inv_add h' m1 (by omega) _ _ _ _ _ (fun W' H' _ => Or.inr (Or.inl ⟨rfl, j2, j3, j4, l2, l3, fun q => b2 (by rw [e2, e3, q]), l4, e2, e3, e4⟩))⟩
  by_cases h0 : x1 = 0
  · subst h0
    rcases p_note_0 z w x2 x3 x4 ett hnm (by rw [d1, d2]) (by rw [d1, nI_toInt (by omega)]; omega) (fun i _ => by rw [d4]) hz0 hz1 a b e with ⟨g1, g2⟩ | ⟨a1, b1, g1, g2⟩
    · exact ⟨_, _, _, g1, g2, Inv_0 h'⟩
    · rw [m1, et] at a1
      obtain ⟨j2, i2, e2⟩ := drf x2 b1
      exact ⟨_, _, _, g1, g2, Inv_add h' m1 (by omega) _ _ _ _ _ (fun W' H' _ => Or.inl ⟨Or.inl rfl, j2, j3, j4, i2, l3, l4, e2, e3, e4⟩)⟩
  by_cases h2 : x1 = 2
  · subst h2
    rcases p_note_2 z w x2 x3 x4 ett hnm (by rw [d1, d2]) hz0 hz1 a b e with ⟨g1, g2⟩ | ⟨a1, b1, g1, g2⟩
    · exact ⟨_, _, _, g1, g2, Inv_0 h'⟩
    · rw [m1, et] at a1
      obtain ⟨j2, i2, e2⟩ := drf x2 b1
      exact ⟨_, _, _, g1, g2, Inv_add h' m1 (by omega) _ _ _ _ _ (fun W' H' _ => Or.inl ⟨Or.inr rfl, j2, j3, j4, i2, l3, l4, e2, e3, e4⟩)⟩
  · obtain ⟨g1, g2⟩ := p_note_x z w x1 x2 x3 x4 ett h0 h1 h2
    exact ⟨_, _, _, g1, g2, Inv_0 h'⟩
