/-! MAKING: Land.lay and Terms.clear over their own cells -/
theorem p_fillL1 (z : St) {k : Nat} (hk : k < 4) (h0 : kdL1 k = 0) (hl : lnL1 k ≤ 400) (v : Int32) : fl1_J7_fill_53178 z k v = some (sA z k (fun j => if j < lnL1 k then v else z.2.1 k j)) := by
  have cl : ∀ e, foldN (fun i s => sA s k (upd (s.2.1 k) i v)) e z = sA z k (fun j => if j < e then v else z.2.1 k j) := by
    intro e
    induction e with
    | zero =>
      show z = _
      have : (fun j => if j < 0 then v else z.2.1 k j) = z.2.1 k := by funext j; rw [if_neg (Nat.not_lt_zero j)]
      rw [this, sA_same]
    | succ e ih =>
      show sA (foldN _ e z) k (upd ((foldN _ e z).2.1 k) e v) = _
      rw [ih, sA_sA, sA_eq]
      congr 1
      funext j
      rw [upd_i]
      by_cases q : j = e
      · rw [if_pos q, if_pos (by omega)]
      · rw [if_neg q]
        by_cases q2 : j < e
        · rw [if_pos q2, if_pos (by omega)]
        · rw [if_neg q2, if_neg (by omega)]
  unfold fl1_J7_fill_53178 Fl1_J7_fill_53178_0
  simp only [oL_eq]
  rw [show oYL1 k (Fl1_J7_fill_53178_5 100000 z k v 0 (Int32.ofNat (lnL1 k))) = Fl1_J7_fill_53178_5 100000 z k v 0 (Int32.ofNat (lnL1 k)) from if_pos ⟨hk, h0⟩]
  have := lp_fold (fun n i s => Fl1_J7_fill_53178_5 n s k v (nI i) (nI (lnL1 k))) (fun i s => sA s k (upd (s.2.1 k) i v)) (lnL1 k) (fun s => some s) ?_ ?_ 100000 z (by omega)
  · rw [cl] at this; exact this
  · intro n s
    show Fl1_J7_fill_53178_5_b _ s k v (nI (lnL1 k)) (nI (lnL1 k)) = _
    unfold Fl1_J7_fill_53178_5_b
    rw [if_pos (Int32.le_refl _)]
  · intro n i s hi
    show Fl1_J7_fill_53178_5_b _ s k v (nI i) (nI (lnL1 k)) = Fl1_J7_fill_53178_5 n _ k v (nI (i + 1)) (nI (lnL1 k))
    unfold Fl1_J7_fill_53178_5_b
    rw [if_neg (nI_ge hi (by omega))]
    rw [show ∀ c : Option St, oXL1 k (nI i) c = oA (nI i) (lnL1 k) c from fun c => if_pos ⟨hk, h0⟩]
    rw [oA_in _ (vp_in_nI hi (by omega)), oL_eq, oL_eq, nI_clamp (by omega), nI_1]
theorem p_fillT1 (z : St) {k : Nat} (hk : k < 3) (h0 : kdT1 k = 0) (hl : lnT1 k ≤ 400) (v : Int32) : ft1_J7_fill_53178 z k v = some (sA z k (fun j => if j < lnT1 k then v else z.2.1 k j)) := by
  have cl : ∀ e, foldN (fun i s => sA s k (upd (s.2.1 k) i v)) e z = sA z k (fun j => if j < e then v else z.2.1 k j) := by
    intro e
    induction e with
    | zero =>
      show z = _
      have : (fun j => if j < 0 then v else z.2.1 k j) = z.2.1 k := by funext j; rw [if_neg (Nat.not_lt_zero j)]
      rw [this, sA_same]
    | succ e ih =>
      show sA (foldN _ e z) k (upd ((foldN _ e z).2.1 k) e v) = _
      rw [ih, sA_sA, sA_eq]
      congr 1
      funext j
      rw [upd_i]
      by_cases q : j = e
      · rw [if_pos q, if_pos (by omega)]
      · rw [if_neg q]
        by_cases q2 : j < e
        · rw [if_pos q2, if_pos (by omega)]
        · rw [if_neg q2, if_neg (by omega)]
  unfold ft1_J7_fill_53178 Ft1_J7_fill_53178_0
  simp only [oL_eq]
  rw [show oYT1 k (Ft1_J7_fill_53178_5 100000 z k v 0 (Int32.ofNat (lnT1 k))) = Ft1_J7_fill_53178_5 100000 z k v 0 (Int32.ofNat (lnT1 k)) from if_pos ⟨hk, h0⟩]
  have := lp_fold (fun n i s => Ft1_J7_fill_53178_5 n s k v (nI i) (nI (lnT1 k))) (fun i s => sA s k (upd (s.2.1 k) i v)) (lnT1 k) (fun s => some s) ?_ ?_ 100000 z (by omega)
  · rw [cl] at this; exact this
  · intro n s
    show Ft1_J7_fill_53178_5_b _ s k v (nI (lnT1 k)) (nI (lnT1 k)) = _
    unfold Ft1_J7_fill_53178_5_b
    rw [if_pos (Int32.le_refl _)]
  · intro n i s hi
    show Ft1_J7_fill_53178_5_b _ s k v (nI i) (nI (lnT1 k)) = Ft1_J7_fill_53178_5 n _ k v (nI (i + 1)) (nI (lnT1 k))
    unfold Ft1_J7_fill_53178_5_b
    rw [if_neg (nI_ge hi (by omega))]
    rw [show ∀ c : Option St, oXT1 k (nI i) c = oA (nI i) (lnT1 k) c from fun c => if_pos ⟨hk, h0⟩]
    rw [oA_in _ (vp_in_nI hi (by omega)), oL_eq, oL_eq, nI_clamp (by omega), nI_1]
def layP1 (z : St) (W H : Nat) (z' : St) : Prop := fr [0, 1, 2, 3, 4, 5, 6, 7] [0, 1] z z' ∧ z'.1 5 = nI W ∧ z'.1 0 = nI (W * H) ∧ (∀ i, bt (z'.1 1) i = decide (i < W * H)) ∧ (∀ i, bt (z'.1 6) i = decide (i < W * H ∧ i % W = 0)) ∧ (∀ i, bt (z'.1 7) i = decide (i < W * H ∧ i % W = W - 1)) ∧ z'.1 2 = 0 ∧ z'.1 3 = 0 ∧ z'.1 4 = 0 ∧ z'.2.1 0 0 = z'.1 1 ∧ (∀ d, d < 6 → d ≠ 0 → z'.2.1 0 d = 0) ∧ (∀ d, d < 2 → z'.2.1 1 d = 0)
theorem p_layL1 (z : St) {W H : Nat} (hW : 2 ≤ W) (hW5 : W ≤ 5) (hH : 2 ≤ H) (hH5 : H ≤ 5) : ∃ z', fl1_X4_lay z (nI W) (nI H) = some z' ∧ layP1 z W H z' := by
  have hs : 4 ≤ W * H ∧ W * H ≤ 25 := sz25 ⟨hW, hW5, hH, hH5⟩
  have hall : ∀ i, bt (nI (2 ^ (W * H) - 1)) i = decide (i < W * H) := by
    intro i
    rcases Nat.lt_or_ge i 32 with q | q
    · rw [bt_nI q, Nat.testBit_two_pow_sub_one]
    · rw [b_big q, decide_eq_false (by omega)]
  unfold fl1_X4_lay Fl1_X4_lay_0
  simp only [oL_eq, sI_i, sI_a, Nat.reduceEqDiff, ↓reduceIte, mulN]
  rw [shl1 (show W * H < 32 by omega), show (1 : Int32) = nI 1 from rfl, nI_sub Nat.one_le_two_pow]
  have hi6 : vp_in (0 : Int32) 6 := by unfold vp_in; decide
  refine loop_i (fun n i (s : St) => ∃ z', Fl1_X4_lay_31 n s (nI W) (nI H) (nI i) = some z' ∧ layP1 z W H z') (fun i s => fr [0, 1, 2, 3, 4, 5, 6, 7] [0, 1] z s ∧ s.1 5 = nI W ∧ s.1 0 = nI (W * H) ∧ s.1 1 = nI (2 ^ (W * H) - 1) ∧ ∀ v, bt (s.1 6) v = decide (v < i * W ∧ v % W = 0)) H ?_ ?_ 100000 0 _ (Nat.zero_le _) (by omega) ?_
  · rintro n s ⟨f, e26, e21, e22, e27⟩
    show ∃ z', Fl1_X4_lay_31_b _ s (nI W) (nI H) (nI H) = some z' ∧ layP1 z W H z'
    unfold Fl1_X4_lay_31_b
    rw [if_pos (Int32.le_refl _)]
    simp only [oL_eq, p_fillL1 _ (show 0 < 4 by omega) (by decide) (by decide), p_fillL1 _ (show 1 < 4 by omega) (by decide) (by decide), oC_some, oA_in _ hi6]
    refine ⟨_, rfl, ?_⟩
    · refine ⟨?_, e26, e21, ?_, ?_, ?_, rfl, rfl, rfl, ?_, ?_, ?_⟩
      · exact fr_I (fr_I (fr_I (fr_A (fr_A (fr_A (fr_I f (by decide)) (by decide)) (by decide)) (by decide)) (by decide)) (by decide)) (by decide)
      · intro i; show bt (s.1 1) i = _; rw [e22]; exact hall i
      · intro i; show bt (s.1 6) i = _; rw [e27, Nat.mul_comm H W]
      · intro i
        show bt (s.1 6 <<< ((nI W - 1) &&& 31)) i = _
        rw [show (1 : Int32) = nI 1 from rfl, nI_sub (by omega)]
        rcases Nat.lt_or_ge i 32 with q | q
        · rw [b_shl _ (by omega) _ q, e27, Nat.mul_comm H W]
          exact k_last W (by omega) hW H (by omega) i q
        · rw [b_big q, decide_eq_false (by omega)]
      · rfl
      · intro d hd h0
        show upd _ _ _ d = _
        exact (pk_un (show d ≠ Int32.toNatClampNeg 0 from h0)).trans (if_pos hd)
      · intro d hd
        exact if_pos hd
  · rintro n i s hi ⟨f, e26, e21, e22, e27⟩ K
    show ∃ z', Fl1_X4_lay_31_b (Fl1_X4_lay_31 n) s (nI W) (nI H) (nI i) = some z' ∧ _
    unfold Fl1_X4_lay_31_b
    rw [if_neg (nI_ge hi (by omega)), oL_eq, oL_eq, nI_1]
    refine K _ ⟨fr_I f (by decide), e26, e21, e22, ?_⟩
    intro v
    show bt (s.1 6 ||| _) v = _
    have hm : i * W < 32 := Nat.lt_of_le_of_lt (Nat.mul_le_mul (show i ≤ 4 by omega) hW5) (by omega)
    rw [mulN, b_or, e27]
    rcases Nat.lt_or_ge v 32 with q | q
    · rw [b_one hm q]
      exact k_col W (by omega) hW i (by omega) v q
    · have hm2 : (i + 1) * W ≤ 25 := Nat.le_trans (Nat.mul_le_mul (show i + 1 ≤ 5 by omega) hW5) (by omega)
      rw [b_big q, decide_eq_false (by omega), decide_eq_false (by omega)]; rfl
  · refine ⟨fr_I (fr_I (fr_I (fr_I fr_0 (by decide)) (by decide)) (by decide)) (by decide), rfl, rfl, rfl, ?_⟩
    intro v
    show bt 0 v = _
    rw [b_0, decide_eq_false (by omega)]
/-- a state in which all is 0 -/
def St0 : St := (fun _ => 0, fun _ _ => 0, fun _ _ => 0)
theorem p_clearT1 : ∃ z', ft1_X8_clear St0 = some z' ∧ z'.1 0 = 0 ∧ z'.1 1 = 10 ∧ z'.1 2 = 5 ∧ z'.1 3 = 0 ∧ ∀ k j, z'.2.1 k j = 0 := by
  unfold ft1_X8_clear Ft1_X8_clear_0
  simp only [oL_s, p_fillT1 _ (show 0 < 3 by omega) (by decide) (by decide), oC_s]
  refine ⟨_, rfl, rfl, rfl, rfl, rfl, fun k j => ?_⟩
  rw [sA_a]
  split
  · show (if j < lnT1 0 then (0 : Int32) else 0) = 0
    exact ite_self _
  · rfl
theorem envOK_N {N N1 : Nm} {A : Nat → Prop} {U : State} (h : N1.2.2 = N.2.2) : envOK N1 A U = envOK N A U := by
  unfold envOK
  rw [h]
theorem metv_N {l : Launch} {y : MethodName} {Ts : List Cond} {rm : Room} {D : va_G} {N N1 : Nm} {av : List Value} {w0 w1 : va_W} (h : N1.2.2 = N.2.2) (hM : Metv l y Ts rm D N1 av w0 w1) : Metv l y Ts rm D N av w0 w1 := by
  unfold Metv tysG at hM ⊢
  simp only [envOK_N h, h] at hM
  exact hM
