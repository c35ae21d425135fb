/-! PURE: canals, villages, lands, the tape under Inv -/
theorem vb0 : vp_nar .boolean (0 : Int32) = 0 := rfl
theorem vb1 : vp_nar .boolean (1 : Int32) = 1 := rfl
theorem q_canal {z w : St} (h : Inv z w) (x : Int32) : Ok (f_X11_canal z x) (f_X12_canal w x) := by
  have h' := h
  obtain ⟨W, H, hDy, hL, hV, ⟨c, hc, c1, c2, hh, hC⟩, hN, hE, hD, hK, hT, hF, hR⟩ := h
  have et : (nI c).toInt = c := nI_toInt (by omega)
  have hs := sz25 hL.1
  rcases p_canal z w x (by rw [szL hL, hL.2.2.2.2.1]) (by rw [c1, c2]) (by rw [c1, et]; omega) (by rw [c1, et]; omega) with ⟨g1, g2⟩ | ⟨a1, b1, b2, g1, g2⟩
  · exact ⟨_, _, _, g1, g2, Inv_0 h'⟩
  · rw [c1, et] at a1
    obtain ⟨v, hv, rfl⟩ := nI_of b1
    have lv : v < W * H := by
      rcases Nat.lt_or_ge v (W * H) with q | q
      · exact q
      · rw [hL.2.2.2.2.1] at b2; exact absurd (nI_le q hv) b2
    have k1 : (z.1 25).toNatClampNeg = c := by rw [c1]; exact nI_clamp (by omega)
    have k2 : (w.1 24).toNatClampNeg = c := by rw [c2]; exact nI_clamp (by omega)
    have k6 : ((6 : Int32) * w.1 24).toNatClampNeg = 6 * c := by
      rw [c2, show (6 : Int32) = nI 6 from rfl, mulN, nI_clamp (by omega)]
    have f1 : (digC z (nI v)).2.1 9 = upd (z.2.1 9) c (nI v) := by show upd (z.2.1 9) (z.1 25).toNatClampNeg (nI v) = _; rw [k1]
    have f2 : (digC z (nI v)).2.1 10 = upd (z.2.1 10) c 0 := by show upd (z.2.1 10) (z.1 25).toNatClampNeg 0 = _; rw [k1]
    have f3 : (digR (sI w 0 0) (nI v)).2.1 11 = upd (w.2.1 11) (6 * c) (nI v) := by show upd (w.2.1 11) ((6 : Int32) * w.1 24).toNatClampNeg (nI v) = _; rw [k6]
    have f4 : (digR (sI w 0 0) (nI v)).2.1 12 = upd (w.2.1 12) c 0 := by show upd (w.2.1 12) (w.1 24).toNatClampNeg 0 = _; rw [k2]
    have f5 : (digC z (nI v)).1 24 = z.1 24 ||| ((1 : Int32) <<< (nI v &&& 31)) := rfl
    refine ⟨_, _, _, g1, g2, W, H, hDy, hL, hV, ⟨c + 1, by omega, ?_, ?_, ?_, ?_⟩, hN, hE, hD, hK, hT, hF, hR⟩
    · show z.1 25 + 1 = _
      rw [c1, nI_1]
    · show w.1 24 + 1 = _
      rw [c2, nI_1]
    · intro u hu
      rw [f5, f3, b_or, b_one (by omega) hu, Bool.or_eq_true, hh u hu, decide_eq_true_iff]
      constructor
      · rintro (⟨i, hi, e⟩ | e)
        · exact ⟨i, by omega, by rw [pk_un (by omega)]; exact e⟩
        · exact ⟨c, by omega, by rw [pk_us, e]⟩
      · rintro ⟨i, hi, e⟩
        by_cases q : i = c
        · subst q
          rw [pk_us] at e
          exact Or.inr ((nI_eq (by omega) (by omega)).mp e).symm
        · rw [pk_un (by omega)] at e
          exact Or.inl ⟨i, by omega, e⟩
    · intro i hi
      by_cases q : i = c
      · subst q
        refine ⟨0, by omega, ?_, ?_, ?_, ?_, ?_⟩
        · rw [f4, pk_us]; rfl
        · rw [f1, f3, pk_us, pk_us]
        · intro j hj
          have : j = 0 := by omega
          subst this
          exact ⟨v, lv, by rw [f3]; exact pk_us⟩
        · intro j j' h1 h2; omega
        · intro u hu
          rw [f2, pk_us, b_0]
          constructor
          · intro q; cases q
          · rintro ⟨j, hj, _⟩; omega
      · obtain ⟨k, hk, x1, x2, x3, x4, x5⟩ := hC i (by omega)
        have nn : ∀ j, j ≤ 5 → upd (w.2.1 11) (6 * c) (nI v) (6 * i + j) = w.2.1 11 (6 * i + j) := fun j hj => pk_un (by omega)
        refine ⟨k, hk, ?_, ?_, ?_, ?_, ?_⟩
        · rw [f4, pk_un q]; exact x1
        · rw [f1, f3, pk_un q]
          have := nn 0 (by omega)
          rw [Nat.add_zero] at this
          rw [this]; exact x2
        · intro j hj
          rw [f3, nn j (by omega)]; exact x3 j hj
        · intro j j' h1 h2
          rw [f3, nn j (by omega), nn j' (by omega)]; exact x4 j j' h1 h2
        · intro u hu
          rw [f2, f3, pk_un q, x5 u hu]
          constructor
          · rintro ⟨j, hj, e⟩; exact ⟨j, hj, by rw [nn _ (by omega)]; exact e⟩
          · rintro ⟨j, hj, e⟩; exact ⟨j, hj, by rw [nn _ (by omega)] at e; exact e⟩
theorem sA_same (z : St) (k : Nat) : sA z k (z.2.1 k) = z := by
  have e : va_up z.2.1 k (z.2.1 k) = z.2.1 := by
    funext j
    unfold va_up
    by_cases h : j = k
    · rw [if_pos h, h]
    · rw [if_neg h]
  unfold sA
  rw [e]
theorem sA_sA (z : St) (k : Nat) (f g : Nat → Int32) : sA (sA z k f) k g = sA z k g := by
  have e : va_up (va_up z.2.1 k f) k g = va_up z.2.1 k g := by
    funext j
    unfold va_up
    by_cases h : j = k
    · rw [if_pos h, if_pos h]
    · rw [if_neg h, if_neg h, if_neg h]
  unfold sA
  show (z.1, va_up (va_up z.2.1 k f) k g, z.2.2) = _
  rw [e]
theorem p_fill (z : St) {k : Nat} (hk : k < 54) (h0 : kdC k = 0) (hl : lnC k ≤ 400) (v : Int32) : f_J7_fill_53178 z k v = some (sA z k (fun j => if j < lnC k then v else z.2.1 k j)) := by
  have cl : ∀ e, foldN (fun i s => sA s k (upd (s.2.1 k) i v)) e z = sA z k (fun j => if j < e then v else z.2.1 k j) := by
    intro e
    induction e with
    | zero =>
      show z = _
      have : (fun j => if j < 0 then v else z.2.1 k j) = z.2.1 k := by funext j; rw [if_neg (Nat.not_lt_zero j)]
      rw [this, sA_same]
    | succ e ih =>
      show sA (foldN _ e z) k (upd ((foldN _ e z).2.1 k) e v) = _
      rw [ih, sA_sA, sA_eq]
      congr 1
      funext j
      rw [upd_i]
      by_cases q : j = e
      · rw [if_pos q, if_pos (by omega)]
      · rw [if_neg q]
        by_cases q2 : j < e
        · rw [if_pos q2, if_pos (by omega)]
        · rw [if_neg q2, if_neg (by omega)]
  unfold f_J7_fill_53178 F_J7_fill_53178_0
  simp only [oL_eq]
  rw [show oY k (F_J7_fill_53178_5 100000 z k v 0 (Int32.ofNat (lnC k))) = F_J7_fill_53178_5 100000 z k v 0 (Int32.ofNat (lnC k)) from if_pos ⟨hk, h0⟩]
  have := lp_fold (fun n i s => F_J7_fill_53178_5 n s k v (nI i) (nI (lnC k))) (fun i s => sA s k (upd (s.2.1 k) i v)) (lnC k) (fun s => some s) ?_ ?_ 100000 z (by omega)
  · rw [cl] at this; exact this
  · intro n s
    show F_J7_fill_53178_5_b _ s k v (nI (lnC k)) (nI (lnC k)) = _
    unfold F_J7_fill_53178_5_b
    rw [if_pos (Int32.le_refl _)]
  · intro n i s hi
    show F_J7_fill_53178_5_b _ s k v (nI i) (nI (lnC k)) = F_J7_fill_53178_5 n _ k v (nI (i + 1)) (nI (lnC k))
    unfold F_J7_fill_53178_5_b
    rw [if_neg (nI_ge hi (by omega))]
    rw [show ∀ c : Option St, oX k (nI i) c = oA (nI i) (lnC k) c from fun c => if_pos ⟨hk, h0⟩]
    rw [oA_in _ (vp_in_nI hi (by omega)), oL_eq, oL_eq, nI_clamp (by omega), nI_1]
theorem k_col : ∀ W, W < 6 → 2 ≤ W → ∀ i, i < 5 → ∀ v, v < 32 → (decide (v < i * W ∧ v % W = 0) || decide (v = i * W)) = decide (v < (i + 1) * W ∧ v % W = 0) := by decide +kernel
theorem k_last : ∀ W, W < 6 → 2 ≤ W → ∀ H, H < 6 → ∀ v, v < 32 → (decide (W - 1 ≤ v) && decide (v - (W - 1) < W * H ∧ (v - (W - 1)) % W = 0)) = decide (v < W * H ∧ v % W = W - 1) := by decide +kernel
/-- Land.lay -/
def layP (z : St) (W H : Nat) (z' : St) : Prop := fr [21, 22, 23, 24, 25, 26, 27, 28] [7, 8] z z' ∧ z'.1 26 = nI W ∧ z'.1 21 = nI (W * H) ∧ (∀ i, bt (z'.1 22) i = decide (i < W * H)) ∧ (∀ i, bt (z'.1 27) i = decide (i < W * H ∧ i % W = 0)) ∧ (∀ i, bt (z'.1 28) i = decide (i < W * H ∧ i % W = W - 1)) ∧ z'.1 23 = 0 ∧ z'.1 24 = 0 ∧ z'.1 25 = 0 ∧ z'.2.1 7 0 = z'.1 22 ∧ (∀ d, d < 6 → d ≠ 0 → z'.2.1 7 d = 0) ∧ (∀ d, d < 2 → z'.2.1 8 d = 0)
theorem p_lay (z : St) {W H : Nat} (hW : 2 ≤ W) (hW5 : W ≤ 5) (hH : 2 ≤ H) (hH5 : H ≤ 5) : ∃ z', f_X4_lay z (nI W) (nI H) = some z' ∧ layP z W H z' := by
  have hs : 4 ≤ W * H ∧ W * H ≤ 25 := sz25 ⟨hW, hW5, hH, hH5⟩
  have hall : ∀ i, bt (nI (2 ^ (W * H) - 1)) i = decide (i < W * H) := by
    intro i
    rcases Nat.lt_or_ge i 32 with q | q
    · rw [bt_nI q, Nat.testBit_two_pow_sub_one]
    · rw [b_big q, decide_eq_false (by omega)]
  unfold f_X4_lay F_X4_lay_0
  simp only [oL_eq, sI_i, sI_a, Nat.reduceEqDiff, ↓reduceIte, mulN]
  rw [shl1 (show W * H < 32 by omega), show (1 : Int32) = nI 1 from rfl, nI_sub Nat.one_le_two_pow]
  have hi6 : vp_in (0 : Int32) 6 := by unfold vp_in; decide
  refine loop_i (fun n i (s : St) => ∃ z', F_X4_lay_31 n s (nI W) (nI H) (nI i) = some z' ∧ layP z W H z') (fun i s => fr [21, 22, 23, 24, 25, 26, 27, 28] [7, 8] z s ∧ s.1 26 = nI W ∧ s.1 21 = nI (W * H) ∧ s.1 22 = nI (2 ^ (W * H) - 1) ∧ ∀ v, bt (s.1 27) v = decide (v < i * W ∧ v % W = 0)) H ?_ ?_ 100000 0 _ (Nat.zero_le _) (by omega) ?_
  · rintro n s ⟨f, e26, e21, e22, e27⟩
    show ∃ z', F_X4_lay_31_b _ s (nI W) (nI H) (nI H) = some z' ∧ layP z W H z'
    unfold F_X4_lay_31_b
    rw [if_pos (Int32.le_refl _)]
    simp only [oL_eq, p_fill _ (show 7 < 54 by omega) (by decide) (by decide), p_fill _ (show 8 < 54 by omega) (by decide) (by decide), oC_some, oA_in _ hi6]
    refine ⟨_, rfl, ?_⟩
    · refine ⟨?_, e26, e21, ?_, ?_, ?_, rfl, rfl, rfl, ?_, ?_, ?_⟩
      · exact fr_I (fr_I (fr_I (fr_A (fr_A (fr_A (fr_I f (by decide)) (by decide)) (by decide)) (by decide)) (by decide)) (by decide)) (by decide)
      · intro i; show bt (s.1 22) i = _; rw [e22]; exact hall i
      · intro i; show bt (s.1 27) i = _; rw [e27, Nat.mul_comm H W]
      · intro i
        show bt (s.1 27 <<< ((nI W - 1) &&& 31)) i = _
        rw [show (1 : Int32) = nI 1 from rfl, nI_sub (by omega)]
        rcases Nat.lt_or_ge i 32 with q | q
        · rw [b_shl _ (by omega) _ q, e27, Nat.mul_comm H W]
          exact k_last W (by omega) hW H (by omega) i q
        · rw [b_big q, decide_eq_false (by omega)]
      · rfl
      · intro d hd h0
        show upd _ _ _ d = _
        exact (pk_un (show d ≠ Int32.toNatClampNeg 0 from h0)).trans (if_pos hd)
      · intro d hd
        exact if_pos hd
  · rintro n i s hi ⟨f, e26, e21, e22, e27⟩ K
    show ∃ z', F_X4_lay_31_b (F_X4_lay_31 n) s (nI W) (nI H) (nI i) = some z' ∧ _
    unfold F_X4_lay_31_b
    rw [if_neg (nI_ge hi (by omega)), oL_eq, oL_eq, nI_1]
    refine K _ ⟨fr_I f (by decide), e26, e21, e22, ?_⟩
    intro v
    show bt (s.1 27 ||| _) v = _
    have hm : i * W < 32 := Nat.lt_of_le_of_lt (Nat.mul_le_mul (show i ≤ 4 by omega) hW5) (by omega)
    rw [mulN, b_or, e27]
    rcases Nat.lt_or_ge v 32 with q | q
    · rw [b_one hm q]
      exact k_col W (by omega) hW i (by omega) v q
    · have hm2 : (i + 1) * W ≤ 25 := Nat.le_trans (Nat.mul_le_mul (show i + 1 ≤ 5 by omega) hW5) (by omega)
      rw [b_big q, decide_eq_false (by omega), decide_eq_false (by omega)]; rfl
  · refine ⟨fr_I (fr_I (fr_I (fr_I fr_0 (by decide)) (by decide)) (by decide)) (by decide), rfl, rfl, rfl, ?_⟩
    intro v
    show bt 0 v = _
    rw [b_0, decide_eq_false (by omega)]
