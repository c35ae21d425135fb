/-! PURE: wrong, desecrated, cut -/
def b1 (b : Bool) : Nat := if b then 1 else 0
theorem b1_le (b : Bool) : b1 b ≤ 1 := by cases b <;> decide
theorem b2_nI (b : Bool) : b2 b = nI (b1 b) := by cases b <;> rfl
theorem b_testN (x : Int32) {v : Nat} (hv : v < 32) : ((x >>> (nI v &&& 31)) &&& (1 : Int32)) = nI (b1 (bt x v)) := by rw [b_test x hv, ← b2_nI]; rfl
theorem foldN_ct (p : Nat → Bool) : ∀ e a, foldN (fun i a => a + b1 (p i)) e a = a + fb_ct p e
  | 0, _ => rfl
  | e + 1, a => by
    show foldN _ e a + b1 (p e) = _
    rw [foldN_ct p e a, fb_ct_succ, ← Nat.add_assoc]; rfl
theorem foldN_sm (f : Nat → Nat) : ∀ e a, foldN (fun i a => a + f i) e a = a + fb_sm f e
  | 0, _ => rfl
  | e + 1, a => by
    show foldN _ e a + f e = _
    rw [foldN_sm f e a, fb_sm_succ, ← Nat.add_assoc]
theorem ct_cut {p : Nat → Bool} {n N : Nat} (h : ∀ k, n ≤ k → p k = false) (hn : n ≤ N) : fb_ct p N = fb_ct p n := by
  have e : N = n + (N - n) := by omega
  rw [e, fb_ct_split, (fb_ct_zero (p := fun k => p (n + k))).mpr (fun k _ => h (n + k) (by omega)), Nat.add_zero]
def plC (z : St) (P : Nat → Nat → Nat) (n : Nat) : Prop := ∀ s, s < 2 → ∀ v, v < n → z.2.1 (26 + s) v = nI (P v s)
def plR (w : St) (P : Nat → Nat → Nat) (n : Nat) : Prop := ∀ s, s < 2 → ∀ v, v < n → w.2.1 24 (2 * v + s) = nI (P v s)
def wrN (P : Nat → Nat → Nat) (x : Int32) (n : Nat) : Nat := fb_sm (fun v => P v (b1 (bt x v))) n
theorem p_wrong {z : St} {n : Nat} {P : Nat → Nat → Nat} (hn : n ≤ 25) (e21 : z.1 21 = nI n) (hp : plC z P n) (x : Int32) : f_X10_wrong z x = some (nI (wrN P x n), z) := by
  unfold f_X10_wrong F_X10_wrong_0
  simp only [oL_s]
  have key := lp_fold (fun k i (a : Nat) => F_X10_wrong_4 k z x (nI a) (nI i)) (fun i a => a + P i (b1 (bt x i))) n (fun a => some (nI a, z)) ?_ ?_ 100000 0 (by omega)
  · rw [foldN_sm, Nat.zero_add] at key; exact key
  · intro k a
    show F_X10_wrong_4_b _ z x (nI a) (nI n) = _
    unfold F_X10_wrong_4_b
    rw [e21, if_pos (Int32.le_refl _)]
  · intro k i a hi
    show F_X10_wrong_4_b (F_X10_wrong_4 k) z x (nI a) (nI i) = F_X10_wrong_4 k z x (nI (a + P i (b1 (bt x i)))) (nI (i + 1))
    unfold F_X10_wrong_4_b
    have hb := b1_le (bt x i)
    rw [e21, if_neg (nI_ge hi (by omega)), b_testN x (show i < 32 by omega), nI_clamp (by omega), oA_in _ (vp_in_nI (by omega) (by omega)), row26 (by omega) (by omega), oL_s, oL_s, nI_clamp (show i < 2 ^ 31 by omega), hp _ (by omega) i hi, nI_add, nI_1]
theorem p_sideOf (w : St) (x : Int32) {v : Nat} (hv : v < 32) : f_X12_sideOf w x (nI v) = some (nI (1 - b1 (bt x v)), w) := by
  unfold f_X12_sideOf F_X12_sideOf_0
  have := b1_le (bt x v)
  rw [b_testN x hv, show (1 : Int32) - nI (b1 (bt x v)) = nI (1 - b1 (bt x v)) from nI_sub (a := 1) this]
theorem p_wrongR {w : St} {W H : Nat} {P : Nat → Nat → Nat} (h : geoR w W H) (hp : plR w P (W * H)) (x : Int32) : f_X12_wrongOnes w x = some (nI (wrN P x (W * H)), w) := by
  obtain ⟨hg, e22, e23⟩ := h
  have hs := sz25 hg
  unfold f_X12_wrongOnes F_X12_wrongOnes_0
  simp only [oL_s]
  have key := lp_fold (fun k i (a : Nat) => F_X12_wrongOnes_4 k w x (nI a) (nI i)) (fun i a => a + P i (b1 (bt x i))) (W * H) (fun a => some (nI a, w)) ?_ ?_ 100000 0 (by omega)
  · rw [foldN_sm, Nat.zero_add] at key; exact key
  · intro k a
    show F_X12_wrongOnes_4_b _ w x (nI a) (nI (W * H)) = _
    unfold F_X12_wrongOnes_4_b
    simp only [p_cells, oC_s, oL_s, e22, e23, mulN]
    rw [if_pos (Int32.le_refl _)]
  · intro k i a hi
    show F_X12_wrongOnes_4_b (F_X12_wrongOnes_4 k) w x (nI a) (nI i) = F_X12_wrongOnes_4 k w x (nI (a + P i (b1 (bt x i)))) (nI (i + 1))
    unfold F_X12_wrongOnes_4_b
    have hb := b1_le (bt x i)
    simp only [p_cells, oC_s, oL_s, e22, e23, mulN, p_sideOf w x (show i < 32 by omega)]
    have e : (((2 : Int32) * nI i) + (1 : Int32)) - nI (1 - b1 (bt x i)) = nI (2 * i + b1 (bt x i)) := by
      rw [show (2 : Int32) = nI 2 from rfl, mulN, nI_1, nI_sub (by omega)]; congr 1; omega
    rw [if_neg (nI_ge hi (by omega)), e, oA_in _ (vp_in_nI (show 2 * i + b1 (bt x i) < 50 by omega) (by omega)), nI_clamp (by omega), hp _ (by omega) i hi, nI_add, nI_1]
def dsB (w : St) (x : Int32) (v : Nat) : Bool := (decide (w.2.1 8 v = nI 0) && !bt x v) || (decide (w.2.1 8 v = nI 1) && bt x v)
theorem p_desecrated {z w : St} {n : Nat} (hn : n ≤ 25) (hV : ivVil z w n) (x : Int32) : f_X4_desecrated z x = some (nI (fb_ct (dsB w x) n), z) := by
  obtain ⟨v1, v2, v3, v4⟩ := hV
  have i0 : vp_in (0 : Int32) 2 := by unfold vp_in; decide
  have i1 : vp_in (1 : Int32) 2 := by unfold vp_in; decide
  unfold f_X4_desecrated F_X4_desecrated_0
  simp only [oL_s, oA_in _ i0, oA_in _ i1, p_bitCount, oC_s]
  rw [nI_add]
  congr 3
  show pc (z.2.1 8 0 &&& (x ^^^ (-1 : Int32))) + pc (z.2.1 8 1 &&& x) = _
  have e0 : pc (z.2.1 8 0 &&& (x ^^^ (-1 : Int32))) = fb_ct (fun v => decide (v < n ∧ w.2.1 8 v = nI 0) && !bt x v) 32 := fb_ct_cong (fun v hv => by rw [b_and, v3 0 (by omega), b_not _ hv])
  have e1 : pc (z.2.1 8 1 &&& x) = fb_ct (fun v => decide (v < n ∧ w.2.1 8 v = nI 1) && bt x v) 32 := fb_ct_cong (fun v hv => by rw [b_and, v3 1 (by omega)])
  rw [e0, e1, ← fb_ct_or, ct_cut (n := n) (N := 32)]
  · apply fb_ct_cong
    intro k hk
    unfold dsB
    rw [show decide (k < n ∧ w.2.1 8 k = nI 0) = decide (w.2.1 8 k = nI 0) from decide_eq_decide.mpr ⟨fun q => q.2, fun q => ⟨hk, q⟩⟩, show decide (k < n ∧ w.2.1 8 k = nI 1) = decide (w.2.1 8 k = nI 1) from decide_eq_decide.mpr ⟨fun q => q.2, fun q => ⟨hk, q⟩⟩]
  · intro k hk
    rw [decide_eq_false (fun q => by omega), decide_eq_false (fun q => by omega)]; rfl
  · omega
  · intro k _ q
    obtain ⟨q1, q2⟩ := q
    rw [Bool.and_eq_true] at q1 q2
    rw [q2.2] at q1
    cases q1.2
theorem p_desecratedR {z w : St} {W H : Nat} (h : geoR w W H) (hV : ivVil z w (W * H)) (x : Int32) : f_X12_desecrated w x = some (nI (fb_ct (dsB w x) (W * H)), w) := by
  obtain ⟨hg, e22, e23⟩ := h
  have hs := sz25 hg
  unfold f_X12_desecrated F_X12_desecrated_0
  simp only [oL_s]
  have key := lp_fold (fun k i (a : Nat) => F_X12_desecrated_4 k w x (nI a) (nI i)) (fun i a => a + b1 (dsB w x i)) (W * H) (fun a => some (nI a, w)) ?_ ?_ 100000 0 (by omega)
  · rw [foldN_ct, Nat.zero_add] at key; exact key
  · intro k a
    show F_X12_desecrated_4_b _ w x (nI a) (nI (W * H)) = _
    unfold F_X12_desecrated_4_b
    simp only [p_cells, oC_s, oL_s, e22, e23, mulN]
    rw [if_pos (Int32.le_refl _)]
  · intro k i a hi
    show F_X12_desecrated_4_b (F_X12_desecrated_4 k) w x (nI a) (nI i) = F_X12_desecrated_4 k w x (nI (a + b1 (dsB w x i))) (nI (i + 1))
    unfold F_X12_desecrated_4_b F_X12_desecrated_40 F_X12_desecrated_41
    have hin : vp_in (nI i) 25 := vp_in_nI (by omega) (by omega)
    have hb := b1_le (bt x i)
    simp only [p_cells, oC_s, oL_s, e22, e23, mulN, p_sideOf w x (show i < 32 by omega), oA_in _ hin, nI_clamp (show i < 2 ^ 31 by omega), nI_1]
    rw [if_neg (nI_ge hi (by omega))]
    have z0 : nI a + (0 : Int32) = nI a := by rw [show (0 : Int32) = nI 0 from rfl, nI_add, Nat.add_zero]
    rcases ((hV.1 i hi).2.1) with e | e | e
    · have q : w.2.1 8 i < 0 := by rw [e]; decide
      have d : dsB w x i = false := by
        unfold dsB
        rw [e, decide_eq_false (by decide), decide_eq_false (by decide)]; rfl
      rw [if_pos q, d, z0]; rfl
    · have q : ¬ w.2.1 8 i < 0 := by rw [e]; decide
      have d : dsB w x i = !bt x i := by
        unfold dsB
        rw [e, decide_eq_true (show (0 : Int32) = nI 0 from rfl), decide_eq_false (by decide)]; simp
      rw [if_neg q, d, e]
      cases hb : bt x i
      · have q : ¬ (0 : Int32) = nI (1 - b1 false) := by decide
        rw [if_neg q]; rfl
      · have q : (0 : Int32) = nI (1 - b1 true) := by decide
        rw [if_pos q, z0]; rfl
    · have q : ¬ w.2.1 8 i < 0 := by rw [e]; decide
      have d : dsB w x i = bt x i := by
        unfold dsB
        rw [e, decide_eq_false (show ¬ (1 : Int32) = nI 0 by decide), decide_eq_true (show (1 : Int32) = nI 1 from rfl)]; simp
      rw [if_neg q, d, e]
      cases hb : bt x i
      · have q : (1 : Int32) = nI (1 - b1 false) := by decide
        rw [if_pos q, z0]; rfl
      · have q : ¬ (1 : Int32) = nI (1 - b1 true) := by decide
        rw [if_neg q]; rfl
/-- of canal i: its head, its drinkers, how many drink -/
def cHd (w : St) (i : Nat) : Nat := (w.2.1 11 (6 * i)).toNatClampNeg
def cDr (w : St) (i j : Nat) : Nat := (w.2.1 11 (6 * i + (j + 1))).toNatClampNeg
def cKk (w : St) (i : Nat) : Nat := (w.2.1 12 i).toNatClampNeg
theorem can_n {z w : St} {n i k : Nat} (hn : n ≤ 25) (hk : k ≤ 5) (h : canOK z w n i k) : cKk w i = k ∧ cHd w i < n ∧ w.2.1 11 (6 * i) = nI (cHd w i) ∧ ∀ j, j < k → cDr w i j < n ∧ w.2.1 11 (6 * i + (j + 1)) = nI (cDr w i j) := by
  obtain ⟨x1, x2, x3, x4, x5⟩ := h
  refine ⟨by unfold cKk; rw [x1, nI_clamp (by omega)], ?_, ?_, ?_⟩
  · obtain ⟨v, hv, e⟩ := x3 0 (by omega)
    unfold cHd; rw [show 6 * i = 6 * i + 0 from rfl, e, nI_clamp (by omega)]; exact hv
  · obtain ⟨v, hv, e⟩ := x3 0 (by omega)
    unfold cHd; rw [show 6 * i = 6 * i + 0 from rfl, e, nI_clamp (by omega)]
  · intro j hj
    obtain ⟨v, hv, e⟩ := x3 (j + 1) (by omega)
    unfold cDr; rw [e, nI_clamp (by omega)]; exact ⟨hv, rfl⟩
theorem and_pow {v : Nat} (hv : v < 32) (x : Int32) : nI (2 ^ v) &&& x = 0 ↔ bt x v = false := by
  constructor
  · intro h
    have : bt (nI (2 ^ v) &&& x) v = false := by rw [h, b_0]
    rw [b_and, bt_pow hv, decide_eq_true rfl, Bool.true_and] at this
    exact this
  · intro h
    apply b_ext
    intro i hi
    rw [b_and, bt_pow hv, b_0]
    by_cases e : i = v
    · rw [e, h, Bool.and_false]
    · rw [decide_eq_false e, Bool.false_and]
def ppN (w : St) (a b : Int32) (i : Nat) : Nat := if bt a (cHd w i) then fb_ct (fun j => bt b (cDr w i j)) (cKk w i) else if bt b (cHd w i) then fb_ct (fun j => bt a (cDr w i j)) (cKk w i) else 0
theorem p_pipes {z w : St} {n c : Nat} (hn : n ≤ 25) (hc : c ≤ 6) (e25 : z.1 25 = nI c) (hC : ∀ i, i < c → ∃ k, k ≤ 5 ∧ canOK z w n i k) (a b : Int32) : f_X4_pipes z a b = some (nI (fb_sm (ppN w a b) c), z) := by
  unfold f_X4_pipes F_X4_pipes_0
  simp only [oL_s]
  have key := lp_fold (fun k i (s : Nat) => F_X4_pipes_5 k z a b (nI s) (nI i)) (fun i s => s + ppN w a b i) c (fun s => some (nI s, z)) ?_ ?_ 100000 0 (by omega)
  · rw [foldN_sm, Nat.zero_add] at key; exact key
  · intro k s
    show F_X4_pipes_5_b _ z a b (nI s) (nI c) = _
    unfold F_X4_pipes_5_b
    rw [e25, if_pos (Int32.le_refl _)]
  · intro k i s hi
    show F_X4_pipes_5_b (F_X4_pipes_5 k) z a b (nI s) (nI i) = F_X4_pipes_5 k z a b (nI (s + ppN w a b i)) (nI (i + 1))
    unfold F_X4_pipes_5_b F_X4_pipes_72
    obtain ⟨k', hk', ok⟩ := hC i hi
    obtain ⟨n1, n2, n3, n4⟩ := can_n hn hk' ok
    have hin : vp_in (nI i) 6 := vp_in_nI (by omega) (by omega)
    have ct : ∀ s : Int32, pc (z.2.1 10 i &&& s) = fb_ct (fun j => bt s (cDr w i j)) (cKk w i) := fun s => by rw [n1]; exact can_ct hn ok s
    simp only [oL_s, oC_s, oA_in _ hin, nI_clamp (show i < 2 ^ 31 by omega), p_bitCount, ok.2.1, n3, shl1 (show cHd w i < 32 by omega), ct, nI_add, nI_1]
    rw [e25, if_neg (nI_ge hi (by omega))]
    unfold ppN
    have ft : ¬ (false = true) := by decide
    cases ha : bt a (cHd w i)
    · rw [if_pos ((and_pow (by omega) a).mpr ha), if_neg ft]
      cases hb : bt b (cHd w i)
      · rw [if_pos ((and_pow (by omega) b).mpr hb), if_neg ft]; rfl
      · have nb : ¬ (nI (2 ^ cHd w i) &&& b = 0) := by rw [and_pow (by omega), hb]; decide
        rw [if_neg nb, if_pos rfl]
    · have na : ¬ (nI (2 ^ cHd w i) &&& a = 0) := by rw [and_pow (by omega), ha]; decide
      rw [if_neg na, if_pos rfl]
def ctN (w : St) (x : Int32) (i : Nat) : Nat := fb_ct (fun j => bt x (cHd w i) ^^ bt x (cDr w i j)) (cKk w i)
theorem rest_bt {z : St} {n : Nat} (hn : n ≤ 25) (e22 : ∀ i, bt (z.1 22) i = decide (i < n)) (x : Int32) (v : Nat) : bt (z.1 22 &&& (x ^^^ (-1 : Int32))) v = (decide (v < n) && !bt x v) := by
  rcases Nat.lt_or_ge v 32 with q | q
  · rw [b_and, e22, b_not _ q]
  · rw [b_big q, decide_eq_false (by omega)]; rfl
theorem p_cut {z w : St} {n c : Nat} (hn : n ≤ 25) (hc : c ≤ 6) (e25 : z.1 25 = nI c) (e22 : ∀ i, bt (z.1 22) i = decide (i < n)) (hC : ∀ i, i < c → ∃ k, k ≤ 5 ∧ canOK z w n i k) (x : Int32) : f_X4_cut z x = some (nI (fb_sm (ctN w x) c), z) := by
  unfold f_X4_cut F_X4_cut_0
  simp only [p_pipes hn hc e25 hC, oC_s, oL_s]
  congr 3
  apply fb_sm_cong
  intro i hi
  obtain ⟨k', hk', ok⟩ := hC i hi
  obtain ⟨n1, n2, n3, n4⟩ := can_n hn hk' ok
  unfold ppN ctN
  rw [n1, rest_bt hn e22, decide_eq_true n2, Bool.true_and]
  cases ha : bt x (cHd w i)
  · rw [if_neg (by decide), Bool.not_false, if_pos rfl]
    apply fb_ct_cong
    intro j _
    rw [Bool.false_xor]
  · rw [if_pos rfl]
    apply fb_ct_cong
    intro j hj
    rw [rest_bt hn e22, decide_eq_true (n4 j hj).1, Bool.true_and, Bool.true_xor]
theorem p_cutR {z w : St} {n c : Nat} (hn : n ≤ 25) (hc : c ≤ 6) (e24 : w.1 24 = nI c) (hC : ∀ i, i < c → ∃ k, k ≤ 5 ∧ canOK z w n i k) (x : Int32) : f_X12_cutOf w x = some (nI (fb_sm (ctN w x) c), w) := by
  unfold f_X12_cutOf F_X12_cutOf_0
  simp only [oL_s]
  have key := lp_fold (fun k i (s : Nat) => F_X12_cutOf_4 k w x (nI s) (nI i)) (fun i s => s + ctN w x i) c (fun s => some (nI s, w)) ?_ ?_ 100000 0 (by omega)
  · rw [foldN_sm, Nat.zero_add] at key; exact key
  · intro k s
    show F_X12_cutOf_4_b _ w x (nI s) (nI c) = _
    unfold F_X12_cutOf_4_b
    rw [e24, if_pos (Int32.le_refl _)]
  · intro k i s hi
    show F_X12_cutOf_4_b (F_X12_cutOf_4 k) w x (nI s) (nI i) = F_X12_cutOf_4 k w x (nI (s + ctN w x i)) (nI (i + 1))
    unfold F_X12_cutOf_4_b
    rw [e24, if_neg (nI_ge hi (by omega)), oL_s]
    obtain ⟨k', hk', ok⟩ := hC i hi
    obtain ⟨n1, n2, n3, n4⟩ := can_n hn hk' ok
    have hin : vp_in (nI i) 6 := vp_in_nI (by omega) (by omega)
    have e6 : (6 : Int32) * nI i = nI (6 * i) := by rw [show (6 : Int32) = nI 6 from rfl, mulN]
    have key2 := lp_fold (fun k2 j (s : Nat) => F_X12_cutOf_15 (F_X12_cutOf_4 k) k2 w x (nI s) (nI i) (nI (j + 1))) (fun j s => s + b1 (bt x (cHd w i) ^^ bt x (cDr w i j))) k' (fun s => F_X12_cutOf_4 k w x (nI s) (nI (i + 1))) ?_ ?_ 100000 s (by omega)
    · rw [foldN_ct] at key2
      unfold ctN
      rw [n1]
      exact key2
    · intro k2 s
      show F_X12_cutOf_15_b _ _ w x (nI s) (nI i) (nI (k' + 1)) = _
      unfold F_X12_cutOf_15_b
      rw [oA_in _ hin, nI_clamp (by omega), ok.1, if_pos (nI_lt (by omega) (by omega)), oL_s, nI_1]
    · intro k2 j s hj
      show F_X12_cutOf_15_b _ (F_X12_cutOf_15 (F_X12_cutOf_4 k) k2) w x (nI s) (nI i) (nI (j + 1)) = F_X12_cutOf_15 (F_X12_cutOf_4 k) k2 w x (nI (s + b1 (bt x (cHd w i) ^^ bt x (cDr w i j)))) (nI i) (nI (j + 1 + 1))
      unfold F_X12_cutOf_15_b F_X12_cutOf_64
      rw [oA_in _ hin, nI_clamp (show i < 2 ^ 31 by omega), ok.1, if_neg (nI_nlt (by omega) (by omega)), e6, oA_in _ (vp_in_nI (show 6 * i < 36 by omega) (by omega)), nI_clamp (show 6 * i < 2 ^ 31 by omega), n3, p_sideOf w x (show cHd w i < 32 by omega)]
      simp only [oC_s, oL_s, nI_add]
      have n5 := n4 j hj
      rw [oA_in _ (vp_in_nI (show 6 * i + (j + 1) < 36 by omega) (by omega)), nI_clamp (show 6 * i + (j + 1) < 2 ^ 31 by omega), n5.2, p_sideOf w x (show cDr w i j < 32 by omega), oC_s]
      have z0 : nI s + (0 : Int32) = nI s := by rw [show (0 : Int32) = nI 0 from rfl, nI_add, Nat.add_zero]
      have e1 : nI (j + 1) + (1 : Int32) = nI (j + 1 + 1) := nI_1 _
      rw [e1, z0]
      cases bt x (cHd w i) <;> cases bt x (cDr w i j)
      · rw [if_pos rfl]; rfl
      · have q : ¬ nI (1 - b1 false) = nI (1 - b1 true) := by decide
        rw [if_neg q]; exact congrArg (fun t => F_X12_cutOf_15 (F_X12_cutOf_4 k) k2 w x t (nI i) (nI (j + 1 + 1))) (nI_1 s)
      · have q : ¬ nI (1 - b1 true) = nI (1 - b1 false) := by decide
        rw [if_neg q]; exact congrArg (fun t => F_X12_cutOf_15 (F_X12_cutOf_4 k) k2 w x t (nI i) (nI (j + 1 + 1))) (nI_1 s)
      · rw [if_pos rfl]; rfl
