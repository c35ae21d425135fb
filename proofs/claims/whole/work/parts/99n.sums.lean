/-! PURE: best: harm, village by village from above -/
theorem sm_b1 (p : Nat → Bool) : ∀ n, fb_sm (fun v => b1 (p v)) n = fb_ct p n
  | 0 => rfl
  | n + 1 => by rw [fb_sm_succ, fb_ct_succ, sm_b1 p n]; rfl
theorem sm_mul (a : Nat) (f : Nat → Nat) : ∀ n, fb_sm (fun v => a * f v) n = a * fb_sm f n
  | 0 => rfl
  | n + 1 => by rw [fb_sm_succ, fb_sm_succ, sm_mul a f n, Nat.mul_add]
theorem sm_0 (n : Nat) : fb_sm (fun _ => 0) n = 0 := by rw [fb_sm_const, Nat.mul_zero]
theorem sm_swap (g : Nat → Nat → Nat) (n : Nat) : ∀ c, fb_sm (fun v => fb_sm (g v) c) n = fb_sm (fun i => fb_sm (fun v => g v i) n) c
  | 0 => sm_0 n
  | c + 1 => by
    rw [fb_sm_succ, ← sm_swap g n c, ← fb_sm_add]
    exact fb_sm_cong (fun k _ => fb_sm_succ _ _)
theorem sm_ct_swap (p : Nat → Nat → Bool) (n k : Nat) : fb_sm (fun v => fb_ct (p v) k) n = fb_sm (fun j => fb_ct (fun v => p v j) n) k := by
  have e1 : fb_sm (fun v => fb_ct (p v) k) n = fb_sm (fun v => fb_sm (fun j => b1 (p v j)) k) n := fb_sm_cong (fun v _ => (sm_b1 (p v) k).symm)
  have e2 : fb_sm (fun j => fb_ct (fun v => p v j) n) k = fb_sm (fun j => fb_sm (fun v => b1 (p v j)) n) k := fb_sm_cong (fun j _ => (sm_b1 (fun v => p v j) n).symm)
  rw [e1, e2]
  exact sm_swap (fun v j => b1 (p v j)) n k
/-- pipes of canal i that v has with villages above it on the other side -/
def ppF (w : St) (y : Int32) (v i : Nat) : Nat := fb_ct (fun j => (decide (cHd w i = v) && (decide (v < cDr w i j) && (bt y (cDr w i j) ^^ bt y v))) || (decide (cDr w i j = v) && (decide (v < cHd w i) && (bt y (cHd w i) ^^ bt y v)))) (cKk w i)
/-- what v adds to the harm, those above it decided -/
def hvN (w : St) (P : Nat → Nat → Nat) (W n c f0 f1 f2 : Nat) (y : Int32) (v : Nat) : Nat := (ownN w P f0 v (b1 (bt y v)) + f1 * svN w W n y v) + f2 * fb_sm (ppF w y v) c
theorem pp_one (y : Int32) {a b n : Nat} (ha : a < n) (hb : b < n) : fb_ct (fun v => (decide (a = v) && (decide (v < b) && (bt y b ^^ bt y v))) || (decide (b = v) && (decide (v < a) && (bt y a ^^ bt y v)))) n = b1 (bt y a ^^ bt y b) := by
  rcases Nat.lt_trichotomy a b with q | q | q
  · rw [← ct_one (p := fun v => bt y v ^^ bt y b) ha]
    apply fb_ct_cong
    intro v _
    by_cases e : v = a
    · subst e
      rw [decide_eq_true rfl, decide_eq_true q, decide_eq_false (show ¬ b = v by omega), Bool.xor_comm]; simp
    · rw [decide_eq_false (show ¬ a = v by omega), decide_eq_false e]
      by_cases e2 : b = v
      · rw [decide_eq_false (show ¬ v < a by omega)]; simp
      · rw [decide_eq_false e2]; simp
  · subst q
    rw [Bool.xor_self]
    rw [fb_ct_zero.mpr (fun v _ => ?_)]
    · rfl
    · by_cases e : a = v
      · subst e; simp
      · rw [decide_eq_false e]; rfl
  · rw [← ct_one (p := fun v => bt y a ^^ bt y v) hb]
    apply fb_ct_cong
    intro v _
    by_cases e : v = b
    · subst e
      rw [decide_eq_true rfl, decide_eq_true q, decide_eq_false (show ¬ a = v by omega)]; simp
    · rw [decide_eq_false (show ¬ b = v by omega), decide_eq_false e]
      by_cases e2 : a = v
      · rw [decide_eq_false (show ¬ v < b by omega)]; simp
      · rw [decide_eq_false e2]; simp
theorem pp_sum {w : St} {n i : Nat} (y : Int32) (h1 : cHd w i < n) (h2 : ∀ j, j < cKk w i → cDr w i j < n) : fb_sm (fun v => ppF w y v i) n = ctN w y i := by
  unfold ppF ctN
  rw [sm_ct_swap, ← sm_b1]
  exact fb_sm_cong (fun j hj => pp_one y h1 (h2 j hj))
theorem own_ds (w : St) (P : Nat → Nat → Nat) (f0 : Nat) (y : Int32) (v : Nat) : ownN w P f0 v (b1 (bt y v)) = P v (b1 (bt y v)) + f0 * b1 (dsB w y v) := by
  unfold ownN dsB
  cases bt y v
  · show _ + f0 * b1 (decide (w.2.1 8 v = nI 0)) = _
    rw [Bool.not_false, Bool.and_true, Bool.and_false, Bool.or_false]
  · show _ + f0 * b1 (decide (w.2.1 8 v = nI 1)) = _
    rw [Bool.not_true, Bool.and_true, Bool.and_false, Bool.false_or]
/-- canals of w lie in the land -/
def cnOK (w : St) (n c : Nat) : Prop := ∀ i, i < c → cHd w i < n ∧ ∀ j, j < cKk w i → cDr w i j < n
theorem hm_sum {w : St} {P : Nat → Nat → Nat} {W n c f0 f1 f2 : Nat} (hc : cnOK w n c) (y : Int32) : fb_sm (hvN w P W n c f0 f1 f2 y) n = hmN w P W n c f0 f1 f2 y := by
  have e1 : fb_sm (fun v => ownN w P f0 v (b1 (bt y v))) n = wrN P y n + f0 * fb_ct (dsB w y) n := by
    rw [← sm_b1, ← sm_mul]
    unfold wrN
    rw [← fb_sm_add]
    exact fb_sm_cong (fun v _ => own_ds w P f0 y v)
  have e2 : fb_sm (fun v => fb_sm (ppF w y v) c) n = fb_sm (ctN w y) c := by
    rw [sm_swap (fun v i => ppF w y v i)]
    exact fb_sm_cong (fun i hi => pp_sum y (hc i hi).1 (hc i hi).2)
  show fb_sm (fun v => (ownN w P f0 v (b1 (bt y v)) + f1 * svN w W n y v) + f2 * fb_sm (ppF w y v) c) n = _
  rw [fb_sm_add, fb_sm_add, e1, sm_mul, sm_mul, e2]
  rfl
theorem mn_hv (w : St) (P : Nat → Nat → Nat) (W n c f0 f1 f2 : Nat) (y : Int32) (v : Nat) : mnN w P f0 v ≤ hvN w P W n c f0 f1 f2 y v := by
  unfold mnN hvN
  have a := Nat.min_le_left (ownN w P f0 v 0) (ownN w P f0 v 1)
  have b := Nat.min_le_right (ownN w P f0 v 0) (ownN w P f0 v 1)
  cases bt y v
  · show _ ≤ (ownN w P f0 v 0 + _) + _
    omega
  · show _ ≤ (ownN w P f0 v 1 + _) + _
    omega
theorem tr_sv {w : St} {W H v : Nat} {b y : Int32} (hg : 2 ≤ W ∧ W ≤ 5 ∧ 2 ≤ H ∧ H ≤ 5) (hv : v < W * H) (hb : ∀ u, u < W * H → bt b u = (decide (v < u) && (bt y u ^^ bt y v))) : trN w W (W * H) b v = svN w W (W * H) y v := by
  have hs := sz25 hg
  unfold trN svN svE
  cases rl w v
  · rw [if_neg (by decide), Bool.false_and, Bool.false_and, Bool.and_false, Bool.and_false]; rfl
  · rw [if_pos rfl, ct_adj hg hv, hb (v - 1) (by omega), hb (v - W) (by omega), decide_eq_false (show ¬ v < v - 1 by omega), decide_eq_false (show ¬ v < v - W by omega)]
    simp only [Bool.false_and, Bool.and_false, Bool.true_and]
    have z : b1 false = 0 := rfl
    rw [z, Nat.zero_add, Nat.add_zero]
    congr 2
    · by_cases c : v % W < W - 1
      · have l1 := k_row W (by omega) H (by omega) v (by omega) hv c
        rw [hb _ l1, decide_eq_true (show v < v + 1 by omega), Bool.true_and, Bool.and_comm (bt y (v + 1) ^^ bt y v), Bool.xor_comm]
      · rw [decide_eq_false c, Bool.false_and, Bool.false_and]
    · by_cases c : v + W < W * H
      · rw [hb _ c, decide_eq_true (show v < v + W by omega), Bool.true_and, Bool.and_comm (bt y (v + W) ^^ bt y v), Bool.xor_comm]
      · rw [decide_eq_false c, Bool.false_and, Bool.false_and]
theorem pp_pp {w : St} {n v i : Nat} {b y : Int32} (hn : n ≤ 25) (hv : v < n) (h1 : cHd w i < n) (h2 : ∀ j, j < cKk w i → cDr w i j < n) (hb : ∀ u, u < n → bt b u = (decide (v < u) && (bt y u ^^ bt y v))) : ppN w (nI (2 ^ v)) b i = ppF w y v i := by
  unfold ppN ppF
  rw [bt_pow (by omega)]
  by_cases e : cHd w i = v
  · rw [if_pos (decide_eq_true e)]
    apply fb_ct_cong
    intro j hj
    rw [hb _ (h2 j hj), decide_eq_true e, decide_eq_false (show ¬ v < cHd w i by omega), Bool.true_and, Bool.false_and, Bool.and_false, Bool.or_false]
  · rw [if_neg (fun q => e (of_decide_eq_true q)), hb _ h1, decide_eq_false e]
    cases hq : (decide (v < cHd w i) && (bt y (cHd w i) ^^ bt y v))
    · rw [if_neg (by decide)]
      symm
      apply fb_ct_zero.mpr
      intro j _
      rw [Bool.false_and, Bool.and_false]; rfl
    · rw [if_pos rfl]
      apply fb_ct_cong
      intro j hj
      rw [bt_pow (by omega), Bool.false_and, Bool.false_or, Bool.and_true]
/-- what y's villages from v on add -/
def gN (w : St) (P : Nat → Nat → Nat) (W n c f0 f1 f2 : Nat) (y : Int32) (v : Nat) : Nat := fb_sm (fun k => hvN w P W n c f0 f1 f2 y (v + k)) (n - v)
theorem gN_n (w : St) (P : Nat → Nat → Nat) (W n c f0 f1 f2 : Nat) (y : Int32) : gN w P W n c f0 f1 f2 y n = 0 := by unfold gN; rw [Nat.sub_self]; rfl
theorem gN_s {w : St} {P : Nat → Nat → Nat} {W n c f0 f1 f2 : Nat} (y : Int32) {v : Nat} (hv : v < n) : gN w P W n c f0 f1 f2 y v = hvN w P W n c f0 f1 f2 y v + gN w P W n c f0 f1 f2 y (v + 1) := by
  unfold gN
  rw [show n - v = (n - (v + 1)) + 1 by omega, sm_sh1]
  congr 1
  apply fb_sm_cong
  intro k _
  rw [show v + (k + 1) = v + 1 + k by omega]
theorem gN_sum {w : St} {P : Nat → Nat → Nat} {W n c f0 f1 f2 : Nat} (hc : cnOK w n c) (y : Int32) {v : Nat} (hv : v ≤ n) : hmN w P W n c f0 f1 f2 y = fb_sm (hvN w P W n c f0 f1 f2 y) v + gN w P W n c f0 f1 f2 y v := by
  rw [← hm_sum hc y]
  unfold gN
  have := fb_sm_split (hvN w P W n c f0 f1 f2 y) v (n - v)
  rw [show v + (n - v) = n by omega] at this
  exact this
theorem gN_0 {w : St} {P : Nat → Nat → Nat} {W n c f0 f1 f2 : Nat} (hc : cnOK w n c) (y : Int32) : gN w P W n c f0 f1 f2 y 0 = hmN w P W n c f0 f1 f2 y := by
  rw [gN_sum hc y (Nat.zero_le n)]
  show _ = 0 + _
  omega
theorem gN_low {w : St} {P : Nat → Nat → Nat} {W n c f0 f1 f2 : Nat} (hc : cnOK w n c) (y : Int32) {v : Nat} (hv : v ≤ n) : gN w P W n c f0 f1 f2 y v + fb_sm (mnN w P f0) v ≤ hmN w P W n c f0 f1 f2 y := by
  rw [gN_sum hc y hv]
  have := fb_sm_le (f := mnN w P f0) (g := hvN w P W n c f0 f1 f2 y) (n := v) (fun k _ => mn_hv w P W n c f0 f1 f2 y k)
  omega
