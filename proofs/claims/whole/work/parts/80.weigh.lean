/-! PURE: weights -/
theorem p_bits (w : St) (x : Int32) : f_X12_bits w x = some (nI (fb_ct (bt x) 25), w) := by
  unfold f_X12_bits F_X12_bits_0
  simp only [oL_s]
  have key := lp_fold (fun k i (a : Nat) => F_X12_bits_4 k w x (nI a) (nI i)) (fun i a => a + b1 (bt x i)) 25 (fun a => some (nI a, w)) ?_ ?_ 100000 0 (by omega)
  · rw [foldN_ct, Nat.zero_add] at key; exact key
  · intro k a
    show F_X12_bits_4_b _ w x (nI a) (nI 25) = _
    unfold F_X12_bits_4_b
    have q : (25 : Int32) ≤ nI 25 := Int32.le_refl _
    rw [if_pos q]
  · intro k i a hi
    show F_X12_bits_4_b (F_X12_bits_4 k) w x (nI a) (nI i) = F_X12_bits_4 k w x (nI (a + b1 (bt x i))) (nI (i + 1))
    unfold F_X12_bits_4_b
    have q : ¬ (25 : Int32) ≤ nI i := nI_ge (b := 25) hi (by omega)
    rw [if_neg q, b_testN x (by omega), oL_s, oL_s, nI_add, nI_1]
theorem bits_pc {x : Int32} {n : Nat} (hn : n ≤ 25) (h : bl x n) : fb_ct (bt x) 25 = pc x := by
  unfold pc
  rw [ct_cut (n := 25) (N := 32) (fun k hk => h k (by omega)) (by omega)]
def wA (P : Nat → Nat → Nat) (v : Nat) : Int32 := nI (P v 0) - nI (P v 1)
def wB (w : St) (v : Nat) : Int32 := if w.2.1 8 v = 0 then 10 else if w.2.1 8 v = 1 then -10 else 0
def wC' (W n : Nat) (x : Int32) (v : Nat) : Int32 := (10 : Int32) * (nI (pc (arnd W n (nI (2 ^ v)) &&& x)) - nI (pc (arnd W n (nI (2 ^ v)) &&& (x ^^^ (-1 : Int32)))))
theorem pc_two {a x : Int32} : pc a = pc (a &&& x) + pc (a &&& (x ^^^ (-1 : Int32))) := by
  unfold pc
  rw [← fb_ct_or]
  · apply fb_ct_cong
    intro v hv
    rw [b_and, b_and, b_not _ hv]
    cases bt a v <;> cases bt x v <;> rfl
  · intro v hv
    rw [b_and, b_and, b_not _ hv]
    cases bt a v <;> cases bt x v <;> decide
theorem i_two (a b : Int32) : (2 : Int32) * a - (a + b) = a - b := by grind
/-- the weights a, b, c give the line -/
def gvB (A B C : Nat → Int32) (x : Int32) (n : Nat) (a b c : Int32) : Bool := decide (∀ v, v < n → decide (¬ (a * A v + b * B v) + c * C v ≤ 0) = bt x v)
theorem p_givesC {z : St} {n : Nat} {A B C : Nat → Int32} (hn : n ≤ 25) (e21 : z.1 21 = nI n) (h : ∀ v, v < n → z.2.1 32 v = A v ∧ z.2.1 33 v = B v ∧ z.2.1 34 v = C v) (x a b c : Int32) : f_X10_gives z x a b c = some (b2 (gvB A B C x n a b c), z) := by
  unfold f_X10_gives F_X10_gives_0
  simp only [oL_s]
  have key := lp_find (fun k i => F_X10_gives_3 k z x a b c (nI i)) (fun v => decide (¬ (a * A v + b * B v) + c * C v ≤ 0) ≠ bt x v) n (some ((0 : Int32), z)) (some ((1 : Int32), z)) ?_ ?_ ?_ 100000 (by omega)
  · unfold gvB
    rcases key with ⟨⟨j, hj, p⟩, g⟩ | ⟨p, g⟩
    · have g' : F_X10_gives_3 100000 z x a b c 0 = some ((0 : Int32), z) := g
      rw [g', oC_s, decide_eq_false (fun q => p (q j hj))]; exact oZ_0 _
    · have g' : F_X10_gives_3 100000 z x a b c 0 = some ((1 : Int32), z) := g
      rw [g', oC_s, decide_eq_true (fun v hv => Classical.byContradiction (p v hv))]; exact oZ_1 _
  · intro k
    show F_X10_gives_3_b _ z x a b c (nI n) = _
    unfold F_X10_gives_3_b
    rw [e21, if_pos (Int32.le_refl _)]
  all_goals
    intro k i hi hp
    have hin : vp_in (nI i) 25 := vp_in_nI (by omega) (by omega)
    obtain ⟨h1, h2, h3⟩ := h i hi
    show F_X10_gives_3_b (F_X10_gives_3 k) z x a b c (nI i) = _
    unfold F_X10_gives_3_b F_X10_gives_53 F_X10_gives_71
    simp only [oA_in _ hin, nI_clamp (show i < 2 ^ 31 by omega), h1, h2, h3, oL_s, nI_1, b_test0 x (show i < 32 by omega)]
    rw [e21, if_neg (nI_ge hi (by omega))]
    by_cases q : (a * A i + b * B i) + c * C i ≤ 0
    · have dq : decide (¬ (a * A i + b * B i) + c * C i ≤ 0) = false := decide_eq_false (fun r => r q)
      rw [dq] at hp
      rw [if_pos q]
      cases hb : bt x i
      · rw [hb] at hp
        first | exact absurd rfl hp | (rw [if_pos rfl, if_pos trivial])
      · rw [hb] at hp
        first | exact absurd (by decide) hp | (rw [if_neg (by decide), if_neg (by decide)])
    · have dq : decide (¬ (a * A i + b * B i) + c * C i ≤ 0) = true := decide_eq_true q
      rw [dq] at hp
      rw [if_neg q]
      cases hb : bt x i
      · rw [hb] at hp
        first | exact absurd (by decide) hp | (rw [if_pos rfl, if_neg (by decide)])
      · rw [hb] at hp
        first | exact absurd rfl hp | (rw [if_neg (by decide), if_pos trivial])
theorem p_givesR {w : St} {W H : Nat} {A B C : Nat → Int32} (hG : geoR w W H) (h : ∀ v, v < W * H → w.2.1 25 (3 * v) = A v ∧ w.2.1 25 (3 * v + 1) = B v ∧ w.2.1 25 (3 * v + 2) = C v) (x a b c : Int32) : f_X12_gives w x a b c = some (b2 (gvB A B C x (W * H) a b c), w) := by
  have hs := sz25 hG.1
  unfold f_X12_gives F_X12_gives_0
  simp only [oL_s]
  have key := lp_find (fun k i => F_X12_gives_3 k w x a b c (nI i)) (fun v => decide (¬ (a * A v + b * B v) + c * C v ≤ 0) ≠ bt x v) (W * H) (some ((0 : Int32), w)) (some ((1 : Int32), w)) ?_ ?_ ?_ 100000 (by omega)
  · unfold gvB
    rcases key with ⟨⟨j, hj, p⟩, g⟩ | ⟨p, g⟩
    · have g' : F_X12_gives_3 100000 w x a b c 0 = some ((0 : Int32), w) := g
      rw [g', oC_s, decide_eq_false (fun q => p (q j hj))]; exact oZ_0 _
    · have g' : F_X12_gives_3 100000 w x a b c 0 = some ((1 : Int32), w) := g
      rw [g', oC_s, decide_eq_true (fun v hv => Classical.byContradiction (p v hv))]; exact oZ_1 _
  · intro k
    show F_X12_gives_3_b _ w x a b c (nI (W * H)) = _
    unfold F_X12_gives_3_b
    simp only [p_cells, oC_s, oL_s, hG.2.1, hG.2.2, mulN]
    rw [if_pos (Int32.le_refl _)]
  all_goals
    intro k i hi hp
    obtain ⟨h1, h2, h3⟩ := h i hi
    have e0 : (3 : Int32) * nI i = nI (3 * i) := by rw [show (3 : Int32) = nI 3 from rfl, mulN]
    have e1 : nI (3 * i) + (1 : Int32) = nI (3 * i + 1) := nI_1 _
    have e2 : nI (3 * i) + (2 : Int32) = nI (3 * i + 2) := by rw [show (2 : Int32) = nI 2 from rfl, nI_add]
    have j0 : vp_in (nI (3 * i)) 75 := vp_in_nI (by omega) (by omega)
    have j1 : vp_in (nI (3 * i + 1)) 75 := vp_in_nI (by omega) (by omega)
    have j2 : vp_in (nI (3 * i + 2)) 75 := vp_in_nI (by omega) (by omega)
    have sd : nI (1 - b1 (bt x i)) = 0 ↔ bt x i = true := by cases bt x i <;> decide
    show F_X12_gives_3_b (F_X12_gives_3 k) w x a b c (nI i) = _
    unfold F_X12_gives_3_b F_X12_gives_60 F_X12_gives_78
    simp only [p_cells, oC_s, oL_s, hG.2.1, hG.2.2, mulN, e0, e1, e2, oA_in _ j0, oA_in _ j1, oA_in _ j2, nI_clamp (show 3 * i < 2 ^ 31 by omega), nI_clamp (show 3 * i + 1 < 2 ^ 31 by omega), nI_clamp (show 3 * i + 2 < 2 ^ 31 by omega), h1, h2, h3, p_sideOf w x (show i < 32 by omega), sd, nI_1]
    rw [if_neg (nI_ge hi (by omega))]
    by_cases q : (a * A i + b * B i) + c * C i ≤ 0
    · have dq : decide (¬ (a * A i + b * B i) + c * C i ≤ 0) = false := decide_eq_false (fun r => r q)
      rw [dq] at hp
      rw [if_pos q]
      cases hb : bt x i
      · rw [hb] at hp
        first | exact absurd rfl hp | (rw [if_neg (by decide), if_pos trivial])
      · rw [hb] at hp
        first | exact absurd (by decide) hp | (rw [if_pos rfl, if_neg (by decide)])
    · have dq : decide (¬ (a * A i + b * B i) + c * C i ≤ 0) = true := decide_eq_true q
      rw [dq] at hp
      rw [if_neg q]
      cases hb : bt x i
      · rw [hb] at hp
        first | exact absurd (by decide) hp | (rw [if_neg (by decide), if_neg (by decide)])
      · rw [hb] at hp
        first | exact absurd rfl hp | (rw [if_pos rfl, if_pos trivial])
/-- the first number of three digits that G takes, from t on; j are left -/
def rsF (G : Nat → Bool) : Nat → Nat → Int32
  | 0, _ => -1
  | j + 1, t => if G t then nI t else rsF G j (t + 1)
def gvW (A B C : Nat → Int32) (x : Int32) (n t : Nat) : Bool := gvB A B C x n (nI (t / 100)) (nI (t / 10 % 10)) (nI (t % 10))
theorem rs_s (G : Nat → Bool) {t : Nat} (ht : t < 1000) : rsF G (1000 - t) t = if G t then nI t else rsF G (1000 - (t + 1)) (t + 1) := by
  rw [show 1000 - t = (1000 - (t + 1)) + 1 by omega]
  rfl
theorem weigh_C {z : St} {n : Nat} {A B C : Nat → Int32} (hn : n ≤ 25) (e21 : z.1 21 = nI n) (h : ∀ v, v < n → z.2.1 32 v = A v ∧ z.2.1 33 v = B v ∧ z.2.1 34 v = C v) (x : Int32) : F_X10_weigh_124 100000 z x 0 = some (rsF (gvW A B C x n) 1000 0, z) := by
  have key := loop_i (σ := Unit) (fun k a _ => F_X10_weigh_124 k z x (nI a) = some (rsF (gvW A B C x n) (1000 - 100 * a) (100 * a), z)) (fun _ _ => True) 10 ?_ ?_ 100000 0 () (Nat.zero_le _) (by omega) trivial
  · exact key
  · intro k _ _
    show F_X10_weigh_124_b _ z x (nI 10) = _
    unfold F_X10_weigh_124_b
    have q : (9 : Int32) < nI 10 := by decide
    rw [if_pos q]; rfl
  · intro k a _ ha _ K
    have K := K () trivial
    show F_X10_weigh_124_b (F_X10_weigh_124 k) z x (nI a) = _
    unfold F_X10_weigh_124_b
    have q : ¬ (9 : Int32) < nI a := nI_nlt (a := 9) (by omega) (by omega)
    rw [if_neg q, oL_s]
    have key2 := loop_i (σ := Unit) (fun k' b _ => F_X10_weigh_132 (F_X10_weigh_124 k) k' z x (nI a) (nI b) = some (rsF (gvW A B C x n) (1000 - (100 * a + 10 * b)) (100 * a + 10 * b), z)) (fun _ _ => True) 10 ?_ ?_ 100000 0 () (Nat.zero_le _) (by omega) trivial
    · exact key2
    · intro k' _ _
      show F_X10_weigh_132_b _ _ z x (nI a) (nI 10) = _
      unfold F_X10_weigh_132_b
      have q : (9 : Int32) < nI 10 := by decide
      rw [if_pos q, oL_s, nI_1, K, show 100 * (a + 1) = 100 * a + 10 * 10 by omega]
    · intro k' b _ hb _ K'
      have K' := K' () trivial
      show F_X10_weigh_132_b _ (F_X10_weigh_132 (F_X10_weigh_124 k) k') z x (nI a) (nI b) = _
      unfold F_X10_weigh_132_b
      have q : ¬ (9 : Int32) < nI b := nI_nlt (a := 9) (by omega) (by omega)
      rw [if_neg q, oL_s]
      have key3 := loop_i (σ := Unit) (fun k'' c _ => F_X10_weigh_141 (F_X10_weigh_124 k) (F_X10_weigh_132 (F_X10_weigh_124 k) k') k'' z x (nI a) (nI b) (nI c) = some (rsF (gvW A B C x n) (1000 - (100 * a + 10 * b + c)) (100 * a + 10 * b + c), z)) (fun _ _ => True) 10 ?_ ?_ 100000 0 () (Nat.zero_le _) (by omega) trivial
      · exact key3
      · intro k'' _ _
        show F_X10_weigh_141_b _ _ _ z x (nI a) (nI b) (nI 10) = _
        unfold F_X10_weigh_141_b
        have q : (9 : Int32) < nI 10 := by decide
        rw [if_pos q, oL_s, nI_1, K', show 100 * a + 10 * (b + 1) = 100 * a + 10 * b + 10 by omega]
      · intro k'' c _ hc _ K''
        have K'' := K'' () trivial
        show F_X10_weigh_141_b _ _ (F_X10_weigh_141 (F_X10_weigh_124 k) (F_X10_weigh_132 (F_X10_weigh_124 k) k') k'') z x (nI a) (nI b) (nI c) = _
        unfold F_X10_weigh_141_b
        have q : ¬ (9 : Int32) < nI c := nI_nlt (a := 9) (by omega) (by omega)
        rw [if_neg q, p_givesC hn e21 h]
        simp only [oC_s, oL_s, nI_1, b2_0]
        have eg : gvW A B C x n (100 * a + 10 * b + c) = gvB A B C x n (nI a) (nI b) (nI c) := by
          unfold gvW
          rw [show (100 * a + 10 * b + c) / 100 = a by omega, show (100 * a + 10 * b + c) / 10 % 10 = b by omega, show (100 * a + 10 * b + c) % 10 = c by omega]
        rw [rs_s _ (by omega), eg]
        have es : (((100 : Int32) * nI a) + ((10 : Int32) * nI b)) + nI c = nI (100 * a + 10 * b + c) := by
          rw [show (100 : Int32) = nI 100 from rfl, show (10 : Int32) = nI 10 from rfl, mulN, mulN, nI_add, nI_add]
        rw [es]
        cases gvB A B C x n (nI a) (nI b) (nI c)
        · rw [if_pos rfl, if_neg (by decide)]; exact K''
        · rw [if_neg (by decide), if_pos rfl]
theorem weigh_R {w : St} {W H : Nat} {A B C : Nat → Int32} (hG : geoR w W H) (h : ∀ v, v < W * H → w.2.1 25 (3 * v) = A v ∧ w.2.1 25 (3 * v + 1) = B v ∧ w.2.1 25 (3 * v + 2) = C v) (x : Int32) : F_X12_weights_151 100000 w x 0 = some (rsF (gvW A B C x (W * H)) 1000 0, w) := by
  have key := loop_i (σ := Unit) (fun k t _ => F_X12_weights_151 k w x (nI t) = some (rsF (gvW A B C x (W * H)) (1000 - t) t, w)) (fun _ _ => True) 1000 ?_ ?_ 100000 0 () (Nat.zero_le _) (by omega) trivial
  · exact key
  · intro k _ _
    show F_X12_weights_151_b _ w x (nI 1000) = _
    unfold F_X12_weights_151_b
    have q : (1000 : Int32) ≤ nI 1000 := Int32.le_refl _
    rw [if_pos q]; rfl
  · intro k t _ ht _ K
    have K := K () trivial
    show F_X12_weights_151_b (F_X12_weights_151 k) w x (nI t) = _
    unfold F_X12_weights_151_b
    have q : ¬ (1000 : Int32) ≤ nI t := nI_ge (b := 1000) ht (by omega)
    have d100 : ∀ c : Option (Int32 × St), oD (100 : Int32) c = c := fun c => if_neg (by decide)
    have d10 : ∀ c : Option (Int32 × St), oD (10 : Int32) c = c := fun c => if_neg (by decide)
    have e1 : nI t / (100 : Int32) = nI (t / 100) := divN (b := 100) (by omega) (by omega)
    have e2 : nI t / (10 : Int32) = nI (t / 10) := divN (b := 10) (by omega) (by omega)
    have e3 : nI (t / 10) - nI (t / 10) / (10 : Int32) * (10 : Int32) = nI (t / 10 % 10) := remN (b := 10) (by omega) (by omega)
    have e4 : nI t - nI t / (10 : Int32) * (10 : Int32) = nI (t % 10) := remN (b := 10) (by omega) (by omega)
    rw [if_neg q, d100, d10, d10, d10, e4, e1, e2, e3, p_givesR hG h]
    simp only [oC_s, oL_s, nI_1, b2_0]
    rw [rs_s _ ht]
    show (if gvW A B C x (W * H) t = false then _ else _) = _
    cases gvW A B C x (W * H) t
    · rw [if_pos rfl, if_neg (by decide)]; exact K
    · rw [if_neg (by decide), if_pos rfl]
