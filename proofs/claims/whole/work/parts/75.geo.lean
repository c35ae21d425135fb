/-! PURE: what lies beside what -/
def mkB (p : Nat → Bool) : Int32 := foldN (fun i a => if p i then a ||| nI (2 ^ i) else a) 32 0
theorem bt_mkB (p : Nat → Bool) {v : Nat} (hv : v < 32) : bt (mkB p) v = p v := by
  have key : ∀ k, k ≤ 32 → bt (foldN (fun i a => if p i then a ||| nI (2 ^ i) else a) k 0) v = (decide (v < k) && p v) := by
    intro k
    induction k with
    | zero => intro _; show bt 0 v = _; rw [b_0, decide_eq_false (Nat.not_lt_zero v)]; rfl
    | succ k ih =>
      intro hk
      have ih := ih (by omega)
      show bt (if p k then foldN _ k 0 ||| nI (2 ^ k) else foldN _ k 0) v = _
      by_cases q : p k = true
      · rw [if_pos q, bt_set (by omega), ih]
        by_cases e : v = k
        · subst e; rw [decide_eq_true rfl, q, decide_eq_true (Nat.lt_succ_self v)]; simp
        · rw [decide_eq_false e, Bool.or_false]
          congr 1
          exact decide_eq_decide.mpr (by omega)
      · rw [if_neg q, ih]
        by_cases e : v = k
        · subst e; rw [show p v = false by simpa using q, Bool.and_false, Bool.and_false]
        · congr 1
          exact decide_eq_decide.mpr (by omega)
  have := key 32 (Nat.le_refl _)
  rw [decide_eq_true hv, Bool.true_and] at this
  exact this
/-- v beside u -/
def adj (W n v u : Nat) : Bool := decide ((u + 1 = v ∧ 0 < v % W) ∨ (u = v + 1 ∧ v % W < W - 1) ∨ u + W = v ∨ (u = v + W ∧ u < n))
/-- u is beside one of x -/
def nbr (W n : Nat) (x : Int32) (u : Nat) : Bool := decide (∃ v, v < n ∧ bt x v = true ∧ adj W n v u = true)
def arnd (W n : Nat) (x : Int32) : Int32 := mkB (nbr W n x)
def geoC (z : St) (W H : Nat) : Prop := (2 ≤ W ∧ W ≤ 5 ∧ 2 ≤ H ∧ H ≤ 5) ∧ z.1 26 = nI W ∧ z.1 21 = nI (W * H) ∧ (∀ i, bt (z.1 22) i = decide (i < W * H)) ∧ (∀ i, bt (z.1 27) i = decide (i < W * H ∧ i % W = 0)) ∧ (∀ i, bt (z.1 28) i = decide (i < W * H ∧ i % W = W - 1))
def geoR (w : St) (W H : Nat) : Prop := (2 ≤ W ∧ W ≤ 5 ∧ 2 ≤ H ∧ H ≤ 5) ∧ w.1 22 = nI W ∧ w.1 23 = nI H
theorem geo_C {z w : St} {W H : Nat} (h : ivLand z w W H) : geoC z W H := ⟨h.1, h.2.2.2.1, h.2.2.2.2.1, h.2.2.2.2.2.1, h.2.2.2.2.2.2.1, h.2.2.2.2.2.2.2⟩
theorem geo_R {z w : St} {W H : Nat} (h : ivLand z w W H) : geoR w W H := ⟨h.1, h.2.1, h.2.2.1⟩
theorem geo_Cf {z z' : St} {W H : Nat} {I A : List Nat} (h : geoC z W H) (f : fr I A z z') (h1 : 21 ∉ I) (h2 : 22 ∉ I) (h3 : 26 ∉ I) (h4 : 27 ∉ I) (h5 : 28 ∉ I) : geoC z' W H := by
  unfold geoC at h ⊢
  rw [f.1 21 h1, f.1 22 h2, f.1 26 h3, f.1 27 h4, f.1 28 h5]
  exact h
theorem geo_Rf {z z' : St} {W H : Nat} {I A : List Nat} (h : geoR z W H) (f : fr I A z z') (h1 : 22 ∉ I) (h2 : 23 ∉ I) : geoR z' W H := by
  unfold geoR at h ⊢
  rw [f.1 22 h1, f.1 23 h2]
  exact h
theorem k_row : ∀ W, W < 6 → ∀ H, H < 6 → ∀ u, u < 25 → u < W * H → u % W < W - 1 → u + 1 < W * H := by decide +kernel
theorem k_sym : ∀ W, W < 6 → 2 ≤ W → ∀ n, n < 26 → ∀ u, u < n → ∀ v, v < n → adj W n u v = adj W n v u := by decide +kernel
theorem adj_lt {W H v u : Nat} (hW : 2 ≤ W) (hW5 : W ≤ 5) (hH5 : H ≤ 5) (hv : v < W * H) (h : adj W (W * H) v u = true) : u < W * H := by
  have hs : W * H ≤ 25 := Nat.mul_le_mul hW5 hH5
  unfold adj at h
  rw [decide_eq_true_iff] at h
  rcases h with ⟨h, _⟩ | ⟨h, h2⟩ | h | ⟨_, h⟩
  · omega
  · have := k_row W (by omega) H (by omega) v (by omega) hv h2; omega
  · omega
  · exact h
theorem bl_arnd {W H : Nat} {x : Int32} (hg : 2 ≤ W ∧ W ≤ 5 ∧ 2 ≤ H ∧ H ≤ 5) : bl (arnd W (W * H) x) (W * H) := by
  intro i hi
  rcases Nat.lt_or_ge i 32 with q | q
  · unfold arnd
    rw [bt_mkB _ q]
    unfold nbr
    rw [decide_eq_false_iff_not]
    rintro ⟨v, hv, _, ha⟩
    have := adj_lt hg.1 hg.2.1 hg.2.2.2 hv ha
    omega
  · exact b_big q
theorem bt_arnd {W H : Nat} {x : Int32} (hg : 2 ≤ W ∧ W ≤ 5 ∧ 2 ≤ H ∧ H ≤ 5) (u : Nat) : bt (arnd W (W * H) x) u = true ↔ ∃ v, v < W * H ∧ bt x v = true ∧ adj W (W * H) v u = true := by
  rcases Nat.lt_or_ge u 32 with q | q
  · unfold arnd
    rw [bt_mkB _ q]
    unfold nbr
    rw [decide_eq_true_iff]
  · have hs := sz25 hg
    rw [b_big q]
    constructor
    · intro h; cases h
    · rintro ⟨v, hv, _, ha⟩
      have := adj_lt hg.1 hg.2.1 hg.2.2.2 hv ha
      omega
theorem p_beside {z : St} {W H : Nat} (h : geoC z W H) {x : Int32} (hx : bl x (W * H)) : f_X4_beside z x = some (arnd W (W * H) x, z) := by
  obtain ⟨hg, e26, e21, e22, e27, e28⟩ := h
  have hs := sz25 hg
  unfold f_X4_beside F_X4_beside_0
  simp only [oL_s]
  rw [e26]
  congr 2
  apply b_ext
  intro v hv
  have hb : ∀ i, bt x i = true → i < W * H := fun i hi => by
    rcases Nat.lt_or_ge i (W * H) with q | q
    · exact q
    · rw [hx i q] at hi; cases hi
  rw [Bool.eq_iff_iff, bt_arnd hg]
  simp only [b_and, b_or, Bool.and_eq_true, Bool.or_eq_true, e22, decide_eq_true_iff]
  have hs1 : ∀ (y : Int32), bt (y <<< ((1 : Int32) &&& 31)) v = (decide (1 ≤ v) && bt y (v - 1)) := fun y => b_shl 1 (by omega) y hv
  have hu1 : ∀ (y : Int32), bt (ushr y (1 : Int32)) v = bt y (1 + v) := fun y => b_ush y (k := 1) (by omega)
  rw [b_shl W (by omega) x hv, b_ush x (by omega), hs1, hu1]
  simp only [b_and, Bool.and_eq_true, decide_eq_true_iff]
  have hl : ∀ i, i < 32 → (bt (z.1 28 ^^^ (-1 : Int32)) i = true ↔ ¬ (i < W * H ∧ i % W = W - 1)) := by
    intro i hi
    rw [b_not _ hi, e28, Bool.not_eq_true', decide_eq_false_iff_not]
  have hf : ∀ i, i < 32 → (bt (z.1 27 ^^^ (-1 : Int32)) i = true ↔ ¬ (i < W * H ∧ i % W = 0)) := by
    intro i hi
    rw [b_not _ hi, e27, Bool.not_eq_true', decide_eq_false_iff_not]
  constructor
  · rintro ⟨((⟨h1, h2⟩ | h1) | ⟨h1, h2, h3⟩) | ⟨h1, h2⟩, hn⟩
    · refine ⟨v - W, hb _ h2, h2, ?_⟩
      unfold adj; rw [decide_eq_true_iff]
      exact Or.inr (Or.inr (Or.inr ⟨by omega, hn⟩))
    · refine ⟨W + v, hb _ h1, h1, ?_⟩
      unfold adj; rw [decide_eq_true_iff]
      exact Or.inr (Or.inr (Or.inl (by omega)))
    · have b1 := hb _ h2
      rw [hl (v - 1) (by omega)] at h3
      refine ⟨v - 1, b1, h2, ?_⟩
      unfold adj; rw [decide_eq_true_iff]
      have := Nat.mod_lt (v - 1) (show 0 < W by omega)
      exact Or.inr (Or.inl ⟨by omega, by omega⟩)
    · have b1 := hb _ h1
      rw [hf (1 + v) (by omega)] at h2
      refine ⟨1 + v, b1, h1, ?_⟩
      unfold adj; rw [decide_eq_true_iff]
      exact Or.inl ⟨by omega, by omega⟩
  · rintro ⟨u, hu, h1, ha⟩
    have hn := adj_lt hg.1 hg.2.1 hg.2.2.2 hu ha
    refine ⟨?_, hn⟩
    unfold adj at ha
    rw [decide_eq_true_iff] at ha
    rcases ha with ⟨a1, a2⟩ | ⟨a1, a2⟩ | a1 | ⟨a1, a2⟩
    · right
      rw [show 1 + v = u by omega, hf u (by omega)]
      exact ⟨h1, by omega⟩
    · left; right
      rw [show v - 1 = u by omega, hl u (by omega)]
      exact ⟨by omega, h1, by omega⟩
    · left; left; right
      rw [show W + v = u by omega]
      exact h1
    · left; left; left
      rw [show v - W = u by omega]
      exact ⟨by omega, h1⟩
theorem remN {a b : Nat} (ha : a < 2147483648) (hb : b < 2147483648) : nI a - nI a / nI b * nI b = nI (a % b) := by
  rw [divN ha hb, mulN, nI_sub (Nat.div_mul_le_self a b)]
  congr 1
  have := Nat.div_add_mod a b
  rw [Nat.mul_comm] at this
  omega
theorem p_around {w : St} {W H : Nat} (h : geoR w W H) (x : Int32) : f_X12_around w x = some (arnd W (W * H) x, w) := by
  obtain ⟨hg, e22, e23⟩ := h
  have hs := sz25 hg
  have hWn : W ≤ W * H := Nat.le_mul_of_pos_right W (by omega)
  unfold f_X12_around F_X12_around_0
  simp only [oL_s]
  refine loop_i (fun k i (t : Int32) => F_X12_around_4 k w x t (nI i) = some (arnd W (W * H) x, w)) (fun i t => ∀ u, bt t u = true ↔ ∃ v, v < i ∧ bt x v = true ∧ adj W (W * H) v u = true) (W * H) ?_ ?_ 100000 0 _ (Nat.zero_le _) (by omega) ?_
  · intro k t ht
    show F_X12_around_4_b _ w x t (nI (W * H)) = _
    unfold F_X12_around_4_b
    simp only [p_cells, oC_s, oL_s, e22, e23, mulN]
    rw [if_pos (Int32.le_refl _)]
    congr 2
    apply b_ext
    intro v hv
    rw [Bool.eq_iff_iff, bt_arnd hg, ht]
  · intro k i t hi ht K
    show F_X12_around_4_b (F_X12_around_4 k) w x t (nI i) = _
    have dW : ∀ c : Option (Int32 × St), oD (nI W) c = c := fun c => if_neg (nI_ne0 (by omega) (by omega))
    have e1 : (1 : Int32) = nI 1 := rfl
    unfold F_X12_around_4_b F_X12_around_40 F_X12_around_63 F_X12_around_82 F_X12_around_106
    simp only [p_cells, oC_s, oL_s, e22, e23, mulN, dW, remN (show i < 2147483648 by omega) (show W < 2147483648 by omega)]
    rw [if_neg (nI_ge hi (by omega))]
    have K' : ∀ t', (∀ u, bt t' u = true ↔ (bt t u = true ∨ (bt x i = true ∧ adj W (W * H) i u = true))) → F_X12_around_4 k w x t' (nI i + 1) = some (arnd W (W * H) x, w) := by
      intro t' h'
      rw [nI_1]
      refine K t' (fun u => ?_)
      rw [h' u, ht u]
      constructor
      · rintro (⟨v, h1, h2⟩ | h1)
        · exact ⟨v, by omega, h2⟩
        · exact ⟨i, by omega, h1⟩
      · rintro ⟨v, h1, h2, h3⟩
        by_cases e : v = i
        · subst e; exact Or.inr ⟨h2, h3⟩
        · exact Or.inl ⟨v, by omega, h2, h3⟩
    by_cases bx : bt x i = true
    · have tx : ¬ ((x >>> (nI i &&& 31)) &&& (1 : Int32) = 0) := by rw [b_test0 x (by omega), bx]; decide
      rw [if_neg tx]
      have fin : ∀ t', (∀ u, bt t' u = true ↔ (bt t u = true ∨ adj W (W * H) i u = true)) → F_X12_around_4 k w x t' (nI i + 1) = some (arnd W (W * H) x, w) := by
        intro t' h'
        refine K' t' (fun u => ?_)
        rw [h' u, bx]
        constructor
        · rintro (q | q)
          · exact Or.inl q
          · exact Or.inr ⟨rfl, q⟩
        · rintro (q | q)
          · exact Or.inl q
          · exact Or.inr q.2
      have adjI : ∀ u, (adj W (W * H) i u = true ↔ ((u + 1 = i ∧ 0 < i % W) ∨ (u = i + 1 ∧ i % W < W - 1) ∨ u + W = i ∨ (u = i + W ∧ u < W * H))) := fun u => by unfold adj; rw [decide_eq_true_iff]
      have s1 : i % W ≠ 0 → (1 : Int32) <<< ((nI i - 1) &&& 31) = nI (2 ^ (i - 1)) := by
        intro q
        have : 0 < i := Nat.pos_of_ne_zero (fun r => by subst r; simp at q)
        rw [e1, nI_sub (by omega)]; exact shl1 (by omega)
      have s2 : (1 : Int32) <<< ((nI i + 1) &&& 31) = nI (2 ^ (i + 1)) := by rw [nI_1]; exact shl1 (by omega)
      have s3 : W ≤ i → (1 : Int32) <<< ((nI i - nI W) &&& 31) = nI (2 ^ (i - W)) := by intro q; rw [nI_sub q]; exact shl1 (by omega)
      have s4 : (1 : Int32) <<< ((nI i + nI W) &&& 31) = nI (2 ^ (i + W)) := by rw [nI_add]; exact shl1 (by omega)
      have c1 : (nI (i % W) ≤ 0) ↔ ¬ (0 < i % W) := by
        rw [show (0 : Int32) = nI 0 from rfl, nI_leI (Nat.lt_of_lt_of_le (Nat.mod_lt i (show 0 < W by omega)) (by omega)) (by omega)]; omega
      have c2 : (nI W - 1 ≤ nI (i % W)) ↔ ¬ (i % W < W - 1) := by
        rw [e1, nI_sub (by omega), nI_leI (by omega) (Nat.lt_of_lt_of_le (Nat.mod_lt i (show 0 < W by omega)) (by omega))]; omega
      have c3 : (nI i < nI W) ↔ ¬ (W ≤ i) := by rw [nI_ltI (by omega) (by omega)]; omega
      have c4 : (nI (W * H) - nI W ≤ nI i) ↔ ¬ (i + W < W * H) := by rw [nI_sub hWn, nI_leI (by omega) (by omega)]; omega
      simp only [c1, c2, c3, c4, s2, s4]
      have ml : i % W ≤ i := Nat.mod_le i W
      by_cases m1 : 0 < i % W
      all_goals by_cases m2 : i % W < W - 1
      all_goals by_cases m3 : W ≤ i
      all_goals by_cases m4 : i + W < W * H
      all_goals simp only [m1, m2, m3, m4, not_true, not_false_iff, ↓reduceIte]
      all_goals refine fin _ (fun u => ?_)
      all_goals rw [adjI u]
      all_goals try rw [s1 (by omega)]
      all_goals try rw [s3 m3]
      all_goals try simp only [b_or, Bool.or_eq_true, bt_pow (show i - 1 < 32 by omega), bt_pow (show i + 1 < 32 by omega), bt_pow (show i - W < 32 by omega), decide_eq_true_iff]
      all_goals try rw [bt_pow (show i + W < 32 by omega), decide_eq_true_iff]
      all_goals by_cases hb : bt t u = true
      all_goals simp only [hb, Bool.false_eq_true, true_or, false_or]
      all_goals omega
    · have tx : (x >>> (nI i &&& 31)) &&& (1 : Int32) = 0 := by rw [b_test0 x (by omega)]; simpa using bx
      rw [if_pos tx]
      refine K' t (fun u => ?_)
      exact ⟨Or.inl, fun h => h.elim id (fun e => absurd e.1 bx)⟩
  · intro u
    rw [b_0]
    constructor
    · intro h; cases h
    · rintro ⟨v, hv, _⟩; omega
