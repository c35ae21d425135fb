/-! PURE: rails cut -/
theorem ct_one {p : Nat → Bool} {a N : Nat} (ha : a < N) : fb_ct (fun u => decide (u = a) && p u) N = b1 (p a) := by
  have u := fb_ct_upd (fun _ => false) (p a) ha
  rw [if_neg (show ¬ (false = true) by decide), Nat.add_zero, (fb_ct_zero (p := fun _ => false)).mpr (fun _ _ => rfl), Nat.zero_add] at u
  show _ = if p a then 1 else 0
  rw [← u]
  apply fb_ct_cong
  intro k _
  by_cases e : k = a
  · rw [if_pos e, decide_eq_true e, Bool.true_and, e]
  · rw [if_neg e, decide_eq_false e, Bool.false_and]
theorem ct_none {p : Nat → Bool} {N : Nat} (h : ∀ k, k < N → p k = false) : fb_ct p N = 0 := fb_ct_zero.mpr h
/-- how many of q lie beside v -/
theorem ct_adj {W H v : Nat} (hg : 2 ≤ W ∧ W ≤ 5 ∧ 2 ≤ H ∧ H ≤ 5) (hv : v < W * H) (q : Nat → Bool) : fb_ct (fun u => adj W (W * H) v u && q u) (W * H) = ((b1 (decide (0 < v % W) && q (v - 1)) + b1 (decide (v % W < W - 1) && q (v + 1))) + b1 (decide (W ≤ v) && q (v - W))) + b1 (decide (v + W < W * H) && q (v + W)) := by
  have hs := sz25 hg
  have ml : v % W ≤ v := Nat.mod_le v W
  have e1 : fb_ct (fun u => decide (u = v - 1) && (decide (0 < v % W) && q u)) (W * H) = b1 (decide (0 < v % W) && q (v - 1)) := ct_one (p := fun u => decide (0 < v % W) && q u) (by omega)
  have e2 : fb_ct (fun u => decide (u = v + 1) && (decide (v % W < W - 1) && q u)) (W * H) = b1 (decide (v % W < W - 1) && q (v + 1)) := by
    by_cases c : v % W < W - 1
    · exact ct_one (p := fun u => decide (v % W < W - 1) && q u) (k_row W (by omega) H (by omega) v (by omega) hv c)
    · rw [decide_eq_false c]
      rw [ct_none (fun k _ => by rw [Bool.false_and, Bool.and_false])]; rfl
  have e3 : fb_ct (fun u => decide (u = v - W) && (decide (W ≤ v) && q u)) (W * H) = b1 (decide (W ≤ v) && q (v - W)) := ct_one (p := fun u => decide (W ≤ v) && q u) (by omega)
  have e4 : fb_ct (fun u => decide (u = v + W) && (decide (v + W < W * H) && q u)) (W * H) = b1 (decide (v + W < W * H) && q (v + W)) := by
    by_cases c : v + W < W * H
    · exact ct_one (p := fun u => decide (v + W < W * H) && q u) c
    · rw [decide_eq_false c]
      rw [ct_none (fun k _ => by rw [Bool.false_and, Bool.and_false])]; rfl
  rw [← e1, ← e2, ← e3, ← e4, ← fb_ct_or, ← fb_ct_or, ← fb_ct_or]
  · apply fb_ct_cong
    intro u hu
    rw [Bool.eq_iff_iff]
    unfold adj
    simp only [Bool.and_eq_true, Bool.or_eq_true, decide_eq_true_iff]
    constructor
    · rintro ⟨a | a | a | a, b⟩
      · exact Or.inl (Or.inl (Or.inl ⟨by omega, a.2, b⟩))
      · exact Or.inl (Or.inl (Or.inr ⟨a.1, a.2, b⟩))
      · exact Or.inl (Or.inr ⟨by omega, by omega, b⟩)
      · exact Or.inr ⟨a.1, by omega, b⟩
    · rintro (((⟨a, b, c⟩ | ⟨a, b, c⟩) | ⟨a, b, c⟩) | ⟨a, b, c⟩)
      · exact ⟨Or.inl ⟨by omega, b⟩, c⟩
      · exact ⟨Or.inr (Or.inl ⟨a, b⟩), c⟩
      · exact ⟨Or.inr (Or.inr (Or.inl (by omega))), c⟩
      · exact ⟨Or.inr (Or.inr (Or.inr ⟨a, hu⟩)), c⟩
  · intro k _
    simp only [Bool.and_eq_true, Bool.or_eq_true, decide_eq_true_iff]
    rintro ⟨(⟨a, b, _⟩ | ⟨a, b, _⟩) | ⟨a, b, _⟩, c, d, _⟩ <;> omega
  · intro k _
    simp only [Bool.and_eq_true, Bool.or_eq_true, decide_eq_true_iff]
    rintro ⟨⟨a, b, _⟩ | ⟨a, b, _⟩, c, d, _⟩ <;> omega
  · intro k _
    simp only [Bool.and_eq_true, Bool.or_eq_true, decide_eq_true_iff]
    rintro ⟨⟨a, b, _⟩, c, _⟩; omega
def rl (w : St) (v : Nat) : Bool := decide (w.2.1 9 v = 1)
def trN (w : St) (W n : Nat) (b : Int32) (v : Nat) : Nat := if rl w v then fb_ct (fun u => adj W n v u && (bt b u && rl w u)) n else 0
theorem bl_pow {v n : Nat} (hv : v < n) (hn : n ≤ 32) : bl (nI (2 ^ v)) n := by
  intro i hi
  rw [bt_pow (by omega), decide_eq_false (by omega)]
theorem arnd_one {W H v : Nat} (hg : 2 ≤ W ∧ W ≤ 5 ∧ 2 ≤ H ∧ H ≤ 5) (hv : v < W * H) (u : Nat) : bt (arnd W (W * H) (nI (2 ^ v))) u = adj W (W * H) v u := by
  have hs := sz25 hg
  rw [Bool.eq_iff_iff, bt_arnd hg]
  constructor
  · rintro ⟨v', _, h1, h2⟩
    rw [bt_pow (by omega), decide_eq_true_iff] at h1
    rw [← h1]; exact h2
  · intro h
    exact ⟨v, hv, by rw [bt_pow (by omega), decide_eq_true rfl], h⟩
theorem p_tracks {z w : St} {W H : Nat} (h : geoC z W H) (hV : ivVil z w (W * H)) (b : Int32) {v : Nat} (hv : v < W * H) : f_X4_tracks z (nI v) b = some (nI (trN w W (W * H) b v), z) := by
  have hg := h.1
  have hs := sz25 hg
  have e23 := hV.2.2.2
  unfold f_X4_tracks F_X4_tracks_0 trN
  have er : rl w v = bt (z.1 23) v := by rw [e23 v]; unfold rl; exact decide_eq_decide.mpr ⟨fun q => ⟨hv, q⟩, fun q => q.2⟩
  cases hb : bt (z.1 23) v
  · rw [if_pos ((b_test0 _ (by omega)).mpr hb), er, hb]; rfl
  · have nb : ¬ ((z.1 23 >>> (nI v &&& 31)) &&& (1 : Int32) = 0) := by rw [b_test0 _ (by omega), hb]; decide
    rw [if_neg nb, er, hb, if_pos rfl, shl1 (by omega), p_beside h (bl_pow hv (by omega))]
    simp only [oC_s, oL_s, p_bitCount]
    congr 3
    unfold pc
    rw [ct_cut (n := W * H) (N := 32)]
    · apply fb_ct_cong
      intro u hu
      rw [b_and, b_and, arnd_one hg hv, e23 u, Bool.and_assoc]
      congr 2
      unfold rl
      exact decide_eq_decide.mpr ⟨fun q => q.2, fun q => ⟨hu, q⟩⟩
    · intro u hu
      rw [b_and, b_and, bl_arnd hg u hu]; rfl
    · omega
theorem p_severed {z w : St} {W H : Nat} (h : geoC z W H) (hV : ivVil z w (W * H)) (x : Int32) : f_X4_severed z x = some (nI (fb_sm (fun v => if bt x v then trN w W (W * H) (z.1 22 &&& (x ^^^ (-1 : Int32))) v else 0) (W * H)), z) := by
  have hg := h.1
  have hs := sz25 hg
  unfold f_X4_severed F_X4_severed_0
  simp only [oL_s]
  have key := lp_fold (fun k i (a : Nat) => F_X4_severed_4 k z x (nI a) (nI i)) (fun v a => a + (if bt x v then trN w W (W * H) (z.1 22 &&& (x ^^^ (-1 : Int32))) v else 0)) (W * H) (fun a => some (nI a, z)) ?_ ?_ 100000 0 (by omega)
  · rw [foldN_sm (fun v => if bt x v then trN w W (W * H) (z.1 22 &&& (x ^^^ (-1 : Int32))) v else 0), Nat.zero_add] at key; exact key
  · intro k a
    show F_X4_severed_4_b _ z x (nI a) (nI (W * H)) = _
    unfold F_X4_severed_4_b
    rw [h.2.2.1, if_pos (Int32.le_refl _)]
  · intro k i a hi
    show F_X4_severed_4_b (F_X4_severed_4 k) z x (nI a) (nI i) = F_X4_severed_4 k z x (nI (a + (if bt x i then trN w W (W * H) (z.1 22 &&& (x ^^^ (-1 : Int32))) i else 0))) (nI (i + 1))
    unfold F_X4_severed_4_b F_X4_severed_36
    rw [h.2.2.1, if_neg (nI_ge hi (by omega))]
    cases hb : bt x i
    · rw [if_pos ((b_test0 _ (by omega)).mpr hb), oL_s, nI_1]; rfl
    · have nb : ¬ ((x >>> (nI i &&& 31)) &&& (1 : Int32) = 0) := by rw [b_test0 _ (by omega), hb]; decide
      rw [if_neg nb, p_tracks h hV _ hi]
      simp only [oC_s, oL_s, nI_add, nI_1]
      rfl
def svE (w : St) (x : Int32) (u v : Nat) : Bool := rl w u && (rl w v && (bt x u ^^ bt x v))
def svD (w : St) (x : Int32) (u v : Nat) : Bool := rl w u && (rl w v && (bt x u && !bt x v))
def svN (w : St) (W n : Nat) (x : Int32) (v : Nat) : Nat := b1 (decide (v % W < W - 1) && svE w x v (v + 1)) + b1 (decide (v + W < n) && svE w x v (v + W))
theorem svE_D (w : St) (x : Int32) (c : Bool) (u v : Nat) : b1 (c && svE w x u v) = b1 (c && svD w x u v) + b1 (c && svD w x v u) := by
  unfold svE svD
  cases c <;> cases rl w u <;> cases rl w v <;> cases bt x u <;> cases bt x v <;> rfl
theorem sm_sh1 (f : Nat → Nat) (n : Nat) : fb_sm f (n + 1) = f 0 + fb_sm (fun v => f (v + 1)) n := by
  have := fb_sm_split f 1 n
  rw [Nat.add_comm 1 n] at this
  rw [this]
  congr 1
  · show 0 + f 0 = f 0
    omega
  · apply fb_sm_cong
    intro k _
    rw [Nat.add_comm 1 k]
theorem k_mod : ∀ W, W < 6 → 2 ≤ W → ∀ v, v < 25 → (0 < (v + 1) % W ↔ v % W < W - 1) := by decide +kernel
theorem k_end : ∀ W, W < 6 → 2 ≤ W → ∀ H, H < 6 → 2 ≤ H → ¬ ((W * H - 1) % W < W - 1) := by decide +kernel
theorem sm_left {W H : Nat} (hg : 2 ≤ W ∧ W ≤ 5 ∧ 2 ≤ H ∧ H ≤ 5) (g : Nat → Nat → Bool) : fb_sm (fun v => b1 (decide (0 < v % W) && g v (v - 1))) (W * H) = fb_sm (fun v => b1 (decide (v % W < W - 1) && g (v + 1) v)) (W * H) := by
  have hs := sz25 hg
  obtain ⟨n, hn⟩ : ∃ n, W * H = n + 1 := ⟨W * H - 1, by omega⟩
  have ke := k_end W (by omega) hg.1 H (by omega) hg.2.2.1
  rw [hn] at ke ⊢
  rw [Nat.add_sub_cancel] at ke
  rw [sm_sh1, fb_sm_succ]
  have e0 : b1 (decide (0 < 0 % W) && g 0 (0 - 1)) = 0 := by rw [Nat.zero_mod, decide_eq_false (by omega)]; rfl
  have e1 : b1 (decide (n % W < W - 1) && g (n + 1) n) = 0 := by rw [decide_eq_false ke]; rfl
  rw [e0, e1, Nat.zero_add, Nat.add_zero]
  apply fb_sm_cong
  intro v hv
  rw [Nat.add_sub_cancel, decide_eq_decide.mpr (k_mod W (by omega) hg.1 v (by omega))]
theorem sm_up {W n : Nat} (hn : W ≤ n) (g : Nat → Nat → Bool) : fb_sm (fun v => b1 (decide (W ≤ v) && g v (v - W))) n = fb_sm (fun v => b1 (decide (v + W < n) && g (v + W) v)) n := by
  obtain ⟨m, rfl⟩ : ∃ m, n = W + m := ⟨n - W, by omega⟩
  have a := fb_sm_split (fun v => b1 (decide (W ≤ v) && g v (v - W))) W m
  have b := fb_sm_split (fun v => b1 (decide (v + W < W + m) && g (v + W) v)) m W
  rw [Nat.add_comm m W] at b
  rw [a, b]
  have z1 : fb_sm (fun v => b1 (decide (W ≤ v) && g v (v - W))) W = 0 := by
    have : fb_sm (fun v => b1 (decide (W ≤ v) && g v (v - W))) W = fb_sm (fun _ => 0) W := fb_sm_cong (fun k hk => by rw [decide_eq_false (by omega)]; rfl)
    rw [this, fb_sm_const, Nat.mul_zero]
  have z2 : fb_sm (fun k => b1 (decide (m + k + W < W + m) && g (m + k + W) (m + k))) W = 0 := by
    have : fb_sm (fun k => b1 (decide (m + k + W < W + m) && g (m + k + W) (m + k))) W = fb_sm (fun _ => 0) W := fb_sm_cong (fun k hk => by rw [decide_eq_false (by omega)]; rfl)
    rw [this, fb_sm_const, Nat.mul_zero]
  rw [z1, z2, Nat.zero_add, Nat.add_zero]
  apply fb_sm_cong
  intro k hk
  rw [decide_eq_true (show W ≤ W + k by omega), decide_eq_true (show k + W < W + m by omega), Nat.add_sub_cancel_left, Nat.add_comm W k]
theorem sev_eq {z w : St} {W H : Nat} (h : geoC z W H) (x : Int32) : fb_sm (fun v => if bt x v then trN w W (W * H) (z.1 22 &&& (x ^^^ (-1 : Int32))) v else 0) (W * H) = fb_sm (svN w W (W * H) x) (W * H) := by
  have hg := h.1
  have hs := sz25 hg
  have hWn : W ≤ W * H := Nat.le_mul_of_pos_right W (by omega)
  have s1 : fb_sm (fun v => if bt x v then trN w W (W * H) (z.1 22 &&& (x ^^^ (-1 : Int32))) v else 0) (W * H) = fb_sm (fun v => ((b1 (decide (0 < v % W) && svD w x v (v - 1)) + b1 (decide (v % W < W - 1) && svD w x v (v + 1))) + b1 (decide (W ≤ v) && svD w x v (v - W))) + b1 (decide (v + W < W * H) && svD w x v (v + W))) (W * H) := by
    apply fb_sm_cong
    intro v hv
    rw [← ct_adj hg hv (fun u => svD w x v u)]
    unfold trN
    cases hb : bt x v
    · rw [if_neg (by decide), ct_none]
      intro k _
      unfold svD
      rw [hb]; simp
    · rw [if_pos rfl]
      cases hr : rl w v
      · rw [if_neg (by decide), ct_none]
        intro k _
        unfold svD
        rw [hr]; simp
      · rw [if_pos rfl]
        apply fb_ct_cong
        intro u hu
        unfold svD
        rw [rest_bt hs.2 h.2.2.2.1, decide_eq_true hu, hb, hr, Bool.true_and, Bool.true_and, Bool.and_comm (!bt x u)]
  rw [s1, fb_sm_add, fb_sm_add, fb_sm_add, sm_left hg (svD w x), sm_up hWn (svD w x), ← fb_sm_add, ← fb_sm_add, ← fb_sm_add]
  apply fb_sm_cong
  intro v hv
  unfold svN
  rw [svE_D, svE_D]
  omega
theorem sev_step {k : Nat} {w : St} {x : Int32} {W H i : Nat} (h : geoR w W H) (hi : i < W * H) (hr : ∀ v, v < W * H → w.2.1 9 v = 0 ∨ w.2.1 9 v = 1) (a : Nat) : F_X12_severed_4 (k + 1) w x (nI a) (nI i) = F_X12_severed_4 k w x (nI (a + (if rl w i then svN w W (W * H) x i else 0))) (nI (i + 1)) := by
  obtain ⟨hg, e22, e23⟩ := h
  have hs := sz25 hg
  show F_X12_severed_4_b (F_X12_severed_4 k) w x (nI a) (nI i) = _
  have hin : vp_in (nI i) 25 := vp_in_nI (by omega) (by omega)
  have dW : ∀ c : Option (Int32 × St), oD (nI W) c = c := fun c => if_neg (nI_ne0 (by omega) (by omega))
  have e1 : (1 : Int32) = nI 1 := rfl
  have r0 : ∀ v, v < W * H → (w.2.1 9 v = 0 ↔ rl w v = false) := by
    intro v hv
    unfold rl
    rw [decide_eq_false_iff_not]
    rcases hr v hv with e | e
    · rw [e]; decide
    · rw [e]; decide
  have sd : ∀ u v, (nI (1 - b1 (bt x u)) = nI (1 - b1 (bt x v))) ↔ (bt x u ^^ bt x v) = false := by
    intro u v
    cases bt x u <;> cases bt x v <;> decide
  have p68 : ∀ a, F_X12_severed_68 (F_X12_severed_4 k) w x (nI a) (nI i) = F_X12_severed_4 k w x (nI (a + b1 (decide (i + W < W * H) && (rl w (i + W) && (bt x i ^^ bt x (i + W)))))) (nI (i + 1)) := by
    intro a
    unfold F_X12_severed_68 F_X12_severed_116
    simp only [p_cells, oC_s, oL_s, e22, e23, mulN, nI_add, nI_1]
    by_cases c : i + W < W * H
    · rw [if_neg (nI_ge c (by omega)), oA_in _ (vp_in_nI (show i + W < 25 by omega) (by omega)), nI_clamp (by omega), decide_eq_true c, Bool.true_and]
      cases q : rl w (i + W)
      · rw [if_pos ((r0 _ c).mpr q)]; rfl
      · rw [if_neg (fun e => by rw [r0 _ c, q] at e; cases e)]
        simp only [p_sideOf w x (show i < 32 by omega), oC_s, e22, nI_add, p_sideOf w x (show i + W < 32 by omega), Bool.true_and]
        cases q2 : (bt x i ^^ bt x (i + W))
        · rw [if_pos ((sd _ _).mpr q2)]; rfl
        · rw [if_neg (fun e => by rw [sd, q2] at e; cases e)]; rfl
    · rw [if_pos (nI_le (by omega) (by omega)), decide_eq_false c]; rfl
  unfold F_X12_severed_4_b F_X12_severed_116
  simp only [p_cells, oC_s, oL_s, e22, e23, mulN, dW, remN (show i < 2147483648 by omega) (show W < 2147483648 by omega), oA_in _ hin, nI_clamp (show i < 2 ^ 31 by omega), nI_1, p68]
  rw [if_neg (nI_ge hi (by omega))]
  cases q : rl w i
  · rw [if_pos ((r0 _ hi).mpr q)]; rfl
  · rw [if_neg (fun e => by rw [r0 _ hi, q] at e; cases e), if_pos rfl]
    unfold svN svE
    rw [q, Bool.true_and, Bool.true_and]
    have c2 : (nI W - 1 ≤ nI (i % W)) ↔ ¬ (i % W < W - 1) := by
      rw [e1, nI_sub (by omega), nI_leI (by omega) (Nat.lt_of_lt_of_le (Nat.mod_lt i (show 0 < W by omega)) (by omega))]; omega
    by_cases c : i % W < W - 1
    · have l1 := k_row W (by omega) H (by omega) i (by omega) hi c
      rw [if_neg (fun e => c2.mp e c), oA_in _ (vp_in_nI (show i + 1 < 25 by omega) (by omega)), nI_clamp (by omega), decide_eq_true c, Bool.true_and]
      cases q3 : rl w (i + 1)
      · rw [if_pos ((r0 _ l1).mpr q3), Bool.false_and]
        show _ = F_X12_severed_4 k w x (nI (a + (0 + _))) _
        rw [Nat.zero_add]
      · rw [if_neg (fun e => by rw [r0 _ l1, q3] at e; cases e)]
        simp only [p_sideOf w x (show i < 32 by omega), oC_s, p_sideOf w x (show i + 1 < 32 by omega), Bool.true_and, p68]
        cases q2 : (bt x i ^^ bt x (i + 1))
        · rw [if_pos ((sd _ _).mpr q2)]
          show _ = F_X12_severed_4 k w x (nI (a + (0 + _))) _
          rw [Nat.zero_add]
        · rw [if_neg (fun e => by rw [sd, q2] at e; cases e)]
          show _ = F_X12_severed_4 k w x (nI (a + (1 + _))) _
          rw [← Nat.add_assoc]
    · rw [if_pos (c2.mpr c), decide_eq_false c, Bool.false_and]
      show _ = F_X12_severed_4 k w x (nI (a + (0 + _))) _
      rw [Nat.zero_add]
theorem p_severedR {w : St} {W H : Nat} (h : geoR w W H) (hr : ∀ v, v < W * H → w.2.1 9 v = 0 ∨ w.2.1 9 v = 1) (x : Int32) : f_X12_severed w x = some (nI (fb_sm (svN w W (W * H) x) (W * H)), w) := by
  have hs := sz25 h.1
  unfold f_X12_severed F_X12_severed_0
  simp only [oL_s]
  have key := lp_fold (fun k i (a : Nat) => F_X12_severed_4 k w x (nI a) (nI i)) (fun i a => a + (if rl w i then svN w W (W * H) x i else 0)) (W * H) (fun a => some (nI a, w)) ?_ ?_ 100000 0 (by omega)
  · rw [foldN_sm (fun i => if rl w i then svN w W (W * H) x i else 0), Nat.zero_add] at key
    have e : fb_sm (fun i => if rl w i then svN w W (W * H) x i else 0) (W * H) = fb_sm (svN w W (W * H) x) (W * H) := by
      apply fb_sm_cong
      intro v _
      cases q : rl w v
      · rw [if_neg (by decide)]
        unfold svN svE
        rw [q, Bool.false_and, Bool.false_and, Bool.and_false, Bool.and_false]; rfl
      · rw [if_pos rfl]
    rw [e] at key
    exact key
  · intro k a
    show F_X12_severed_4_b _ w x (nI a) (nI (W * H)) = _
    unfold F_X12_severed_4_b
    simp only [p_cells, oC_s, oL_s, h.2.1, h.2.2, mulN]
    rw [if_pos (Int32.le_refl _)]
  · intro k i a hi
    exact sev_step h hi hr a
