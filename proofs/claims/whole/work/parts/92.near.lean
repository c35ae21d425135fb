/-! PURE: guards' villages; how near a home is -/
def gdF (w : St) (g : Int32) (i : Nat) (a : Int32) : Int32 := if bt g i then a ||| nI (2 ^ (w.2.1 15 i).toNatClampNeg) else a
/-- the villages that the guards g stand in -/
def gdV (w : St) (g : Int32) (c : Nat) : Int32 := foldN (gdF w g) c 0
theorem p_guardedC {z w : St} {n c : Nat} (hn : n ≤ 25) (hc : c ≤ 8) (e37 : z.1 37 = nI c) (a37 : z.2.1 37 = w.2.1 15) (hk : ∀ i, i < c → ∃ v, v < n ∧ w.2.1 15 i = nI v) (g : Int32) : f_X2_guarded z g = some (gdV w g c, z) := by
  unfold f_X2_guarded F_X2_guarded_0
  simp only [oL_s]
  refine lp_fold (fun k i (a : Int32) => F_X2_guarded_4 k z g a (nI i)) (gdF w g) c (fun a => some (a, z)) ?_ ?_ 100000 0 (by omega)
  · intro k a
    show F_X2_guarded_4_b _ z g a (nI c) = _
    unfold F_X2_guarded_4_b
    rw [e37, if_pos (Int32.le_refl _)]
  · intro k i a hi
    show F_X2_guarded_4_b (F_X2_guarded_4 k) z g a (nI i) = F_X2_guarded_4 k z g (gdF w g i a) (nI (i + 1))
    obtain ⟨v, hv, e⟩ := hk i hi
    unfold F_X2_guarded_4_b F_X2_guarded_31 gdF
    rw [e37, if_neg (nI_ge hi (by omega))]
    cases hb : bt g i
    · rw [if_pos ((b_test0 g (by omega)).mpr hb), oL_s, nI_1, if_neg (by decide)]
    · have nb : ¬ ((g >>> (nI i &&& 31)) &&& (1 : Int32) = 0) := by rw [b_test0 _ (by omega), hb]; decide
      rw [if_neg nb, oA_in _ (vp_in_nI (show i < 8 by omega) (by omega)), nI_clamp (by omega), a37, e, shl1 (by omega), oL_s, oL_s, nI_1, if_pos rfl, nI_clamp (by omega)]
theorem p_guardedR {w : St} {n c : Nat} (hn : n ≤ 25) (hc : c ≤ 8) (e26 : w.1 26 = nI c) (hk : ∀ i, i < c → ∃ v, v < n ∧ w.2.1 15 i = nI v) (g : Int32) : f_X12_guarded w g = some (gdV w g c, w) := by
  unfold f_X12_guarded F_X12_guarded_0
  simp only [oL_s]
  refine lp_fold (fun k i (a : Int32) => F_X12_guarded_4 k w g a (nI i)) (gdF w g) c (fun a => some (a, w)) ?_ ?_ 100000 0 (by omega)
  · intro k a
    show F_X12_guarded_4_b _ w g a (nI c) = _
    unfold F_X12_guarded_4_b
    rw [e26, if_pos (Int32.le_refl _)]
  · intro k i a hi
    show F_X12_guarded_4_b (F_X12_guarded_4 k) w g a (nI i) = F_X12_guarded_4 k w g (gdF w g i a) (nI (i + 1))
    obtain ⟨v, hv, e⟩ := hk i hi
    unfold F_X12_guarded_4_b F_X12_guarded_32 gdF
    rw [e26, if_neg (nI_ge hi (by omega)), b_testN g (by omega)]
    cases hb : bt g i
    · have nb : ¬ nI (b1 false) = (1 : Int32) := by decide
      rw [if_neg nb, oL_s, nI_1, if_neg (by decide)]
    · have nb : nI (b1 true) = (1 : Int32) := by decide
      rw [if_pos nb, oA_in _ (vp_in_nI (show i < 8 by omega) (by omega)), nI_clamp (by omega), e, shl1 (by omega), oL_s, oL_s, nI_1, if_pos rfl, nI_clamp (by omega)]
/-- the villages at most k steps from one of h -/
def nrs (W n : Nat) (h : Int32) : Nat → Int32
  | 0 => h
  | k + 1 => nrs W n h k ||| arnd W n (nrs W n h k)
/-- steps from u to one of h, as the reference counts: those below k looked at -/
def stF (W n : Nat) (h : Int32) (u : Nat) : Nat → Nat
  | 0 => 99
  | k + 1 => if stF W n h u k = 99 ∧ bt (nrs W n h k) u = true then k else stF W n h u k
def stN (W n : Nat) (h : Int32) (u : Nat) : Nat := stF W n h u 10
theorem st_none {W n : Nat} {h : Int32} {u : Nat} : ∀ m, (∀ k, k < m → bt (nrs W n h k) u = false) → stF W n h u m = 99
  | 0, _ => rfl
  | m + 1, hk => by
    show (if _ then _ else _) = 99
    rw [if_neg (fun q => by rw [hk m (by omega)] at q; cases q.2)]
    exact st_none m (fun k hk' => hk k (by omega))
theorem st_hit {W n : Nat} {h : Int32} {u k : Nat} (hk : k < 99) (h1 : bt (nrs W n h k) u = true) (h0 : ∀ j, j < k → bt (nrs W n h j) u = false) : ∀ m, k < m → stF W n h u m = k
  | 0, hm => by omega
  | m + 1, hm => by
    show (if stF W n h u m = 99 ∧ bt (nrs W n h m) u = true then m else stF W n h u m) = k
    by_cases e : k = m
    · subst e
      rw [if_pos ⟨st_none k h0, h1⟩]
    · have := st_hit hk h1 h0 m (by omega)
      rw [this, if_neg (fun q => by omega)]
theorem nrs_mono (W n : Nat) (h : Int32) (k : Nat) : ∀ j, sub (nrs W n h k) (nrs W n h (k + j))
  | 0 => fun _ q => q
  | j + 1 => fun v q => by
    show bt (nrs W n h (k + j) ||| _) v = true
    rw [b_or, nrs_mono W n h k j v q, Bool.true_or]
/-- coordinates: the next village on the way from v to u; how far it is -/
def wayN (W v u : Nat) : Nat := if v % W < u % W then v + 1 else if u % W < v % W then v - 1 else if v < u then v + W else v - W
def farN (W v u : Nat) : Nat := (v % W - u % W) + (u % W - v % W) + ((v / W - u / W) + (u / W - v / W))
def wayB (W H u v : Nat) : Bool := decide (v = u) || (decide (wayN W v u < W * H) && (adj W (W * H) (wayN W v u) v && decide (farN W (wayN W v u) u + 1 = farN W v u)))
def farB (W u v : Nat) : Bool := decide (farN W v u ≤ 8) && (!decide (farN W v u = 0) || decide (v = u))
theorem k_wayB : ∀ W, W < 6 → 2 ≤ W → ∀ H, H < 6 → ∀ u, u < W * H → ∀ v, v < W * H → wayB W H u v = true := by decide +kernel
theorem k_farB : ∀ W, W < 6 → 2 ≤ W → ∀ H, H < 6 → ∀ u, u < W * H → ∀ v, v < W * H → farB W u v = true := by decide +kernel
theorem k_way (W : Nat) (h1 : W < 6) (h2 : 2 ≤ W) (H : Nat) (h3 : H < 6) (u : Nat) (hu : u < W * H) (v : Nat) (hv : v < W * H) (hne : v ≠ u) : wayN W v u < W * H ∧ adj W (W * H) (wayN W v u) v = true ∧ farN W (wayN W v u) u + 1 = farN W v u := by
  have := k_wayB W h1 h2 H h3 u hu v hv
  unfold wayB at this
  rw [decide_eq_false hne, Bool.false_or, Bool.and_eq_true, Bool.and_eq_true, decide_eq_true_iff, decide_eq_true_iff] at this
  exact this
theorem k_far (W : Nat) (h1 : W < 6) (h2 : 2 ≤ W) (H : Nat) (h3 : H < 6) (u : Nat) (hu : u < W * H) (v : Nat) (hv : v < W * H) : farN W v u ≤ 8 ∧ (farN W v u = 0 → v = u) := by
  have := k_farB W h1 h2 H h3 u hu v hv
  unfold farB at this
  rw [Bool.and_eq_true, decide_eq_true_iff, Bool.or_eq_true, Bool.not_eq_true', decide_eq_false_iff_not, decide_eq_true_iff] at this
  exact ⟨this.1, fun e => this.2.resolve_left (fun n => n e)⟩
theorem nrs_far {W H : Nat} (hg : 2 ≤ W ∧ W ≤ 5 ∧ 2 ≤ H ∧ H ≤ 5) {h : Int32} {u : Nat} (hu : u < W * H) (hb : bt h u = true) : ∀ d v, v < W * H → farN W v u = d → bt (nrs W (W * H) h d) v = true := by
  have hs := sz25 hg
  intro d
  induction d with
  | zero =>
    intro v hv hd
    have := (k_far W (by omega) hg.1 H (by omega) u hu v hv).2 hd
    rw [this]; exact hb
  | succ d ih =>
    intro v hv hd
    have hne : v ≠ u := by
      intro e
      rw [e] at hd
      unfold farN at hd
      omega
    obtain ⟨a1, a2, a3⟩ := k_way W (by omega) hg.1 H (by omega) u hu v hv hne
    have := ih (wayN W v u) a1 (by omega)
    show bt (nrs W (W * H) h d ||| arnd W (W * H) (nrs W (W * H) h d)) v = true
    rw [b_or, Bool.or_eq_true]
    right
    exact (bt_arnd hg v).mpr ⟨wayN W v u, a1, this, a2⟩
/-- with any home, every village is near one -/
theorem nrs_all {W H : Nat} (hg : 2 ≤ W ∧ W ≤ 5 ∧ 2 ≤ H ∧ H ≤ 5) {h : Int32} (hb : bl h (W * H)) (hne : h ≠ 0) {v : Nat} (hv : v < W * H) : bt (nrs W (W * H) h 8) v = true := by
  have hs := sz25 hg
  obtain ⟨u, hu, h1, _⟩ := low_ex hne
  have hu' := bl_lt hb h1
  have f8 := (k_far W (by omega) hg.1 H (by omega) u hu' v hv).1
  have := nrs_far hg hu' h1 (farN W v u) v hv rfl
  have := nrs_mono W (W * H) h (farN W v u) (8 - farN W v u) v this
  rw [show farN W v u + (8 - farN W v u) = 8 by omega] at this
  exact this
theorem nrs_bl {W H : Nat} (hg : 2 ≤ W ∧ W ≤ 5 ∧ 2 ≤ H ∧ H ≤ 5) {h : Int32} (hb : bl h (W * H)) : ∀ k, bl (nrs W (W * H) h k) (W * H)
  | 0 => hb
  | k + 1 => fun i hi => by
    show bt (nrs W (W * H) h k ||| arnd W (W * H) (nrs W (W * H) h k)) i = false
    rw [b_or, nrs_bl hg hb k i hi, bl_arnd hg i hi]; rfl
theorem arnd_0 {W H : Nat} (hg : 2 ≤ W ∧ W ≤ 5 ∧ 2 ≤ H ∧ H ≤ 5) : arnd W (W * H) 0 = 0 := by
  apply b_ext
  intro v hv
  rw [b_0, ← Bool.not_eq_true, bt_arnd hg]
  rintro ⟨u, _, q, _⟩
  rw [b_0] at q; cases q
theorem nrs_0 {W H : Nat} (hg : 2 ≤ W ∧ W ≤ 5 ∧ 2 ≤ H ∧ H ≤ 5) : ∀ k, nrs W (W * H) 0 k = 0
  | 0 => rfl
  | k + 1 => by
    show nrs W (W * H) 0 k ||| arnd W (W * H) (nrs W (W * H) 0 k) = 0
    rw [nrs_0 hg k, arnd_0 hg]; rfl
/-- g is the village beside v that is nearest to one of h, of like ones the least -/
def isG (W n : Nat) (h : Int32) (v g : Nat) : Prop := g < n ∧ adj W n v g = true ∧ ∀ u, u < n → adj W n v u = true → stN W n h g ≤ stN W n h u ∧ (stN W n h u = stN W n h g → g ≤ u)
theorem isG_one {W n : Nat} {h : Int32} {v g g' : Nat} (a : isG W n h v g) (b : isG W n h v g') : g = g' := by
  obtain ⟨a1, a2, a3⟩ := a
  obtain ⟨b1, b2, b3⟩ := b
  obtain ⟨c1, c2⟩ := a3 g' b1 b2
  obtain ⟨d1, d2⟩ := b3 g a1 a2
  have := c2 (by omega)
  have := d2 (by omega)
  omega
theorem p_leastOf (s : St) {x : Int32} {k : Nat} (hk : k < 32) (h1 : bt x k = true) (h0 : ∀ j, j < k → bt x j = false) : f_X11_leastOf s x = some (nI k, s) := by
  have e : x &&& (-x) = nI (2 ^ k) := by
    apply b_ext
    intro i hi
    rw [bt_pow hk, Bool.eq_iff_iff, bt_low x hi, decide_eq_true_iff]
    constructor
    · rintro ⟨a, b⟩
      rcases Nat.lt_trichotomy i k with q | q | q
      · rw [h0 i q] at a; cases a
      · exact q
      · rw [b k q] at h1; cases h1
    · rintro rfl
      exact ⟨h1, h0⟩
  unfold f_X11_leastOf F_X11_leastOf_0
  rw [e, show (1 : Int32) = nI 1 from rfl, nI_sub Nat.one_le_two_pow, p_bitCount]
  simp only [oC_s, oL_s]
  have : pc (nI (2 ^ k - 1)) = k := by
    unfold pc
    rw [fb_ct_cong (q := fun i => decide (i < k)) (fun i hi => by rw [bt_nI hi, Nat.testBit_two_pow_sub_one]), ct_lt]
    omega
  rw [this]
theorem p_towards {z : St} {W H : Nat} (hG : geoC z W H) {h : Int32} (hb : bl h (W * H)) {v : Nat} (hv : v < W * H) : (h = 0 ∧ f_X2_towards z (nI v) h = some (-1, z)) ∨ (h ≠ 0 ∧ ∃ g, isG W (W * H) h v g ∧ f_X2_towards z (nI v) h = some (nI g, z)) := by
  have hg := hG.1
  have hs := sz25 hg
  unfold f_X2_towards F_X2_towards_0
  rw [shl1 (show v < 32 by omega), p_beside hG (bl_pow hv (by omega))]
  simp only [oC_s, oL_s]
  by_cases c : h = 0
  · left
    refine ⟨c, ?_⟩
    have : ∀ n, F_X2_towards_17 (n + 1) z (arnd W (W * H) (nI (2 ^ v))) h 0 = some (-1, z) := by
      intro n
      show F_X2_towards_17_b _ z _ h 0 = _
      unfold F_X2_towards_17_b F_X2_towards_66
      have q : ¬ (25 : Int32) ≤ 0 := by decide
      rw [if_neg q, if_pos c]
    exact this 99999
  · right
    refine ⟨c, ?_⟩
    -- there is one beside v
    have nb : ∃ u, u < W * H ∧ adj W (W * H) v u = true := by
      have : ∀ W, W < 6 → 2 ≤ W → ∀ H, H < 6 → 2 ≤ H → ∀ v, v < W * H → ∃ u, u < W * H ∧ adj W (W * H) v u = true := by decide +kernel
      exact this W (by omega) hg.1 H (by omega) hg.2.2.1 v hv
    refine loop_i (fun k i (_ : Unit) => ∃ g, isG W (W * H) h v g ∧ F_X2_towards_17 k z (arnd W (W * H) (nI (2 ^ v))) (nrs W (W * H) h i) (nI i) = some (nI g, z)) (fun i _ => ∀ j, j < i → arnd W (W * H) (nI (2 ^ v)) &&& nrs W (W * H) h j = 0) 9 ?_ ?_ 100000 0 () (Nat.zero_le _) (by omega) (fun j hj => absurd hj (Nat.not_lt_zero j))
    · intro k _ hI
      exfalso
      obtain ⟨u, hu, ha⟩ := nb
      have h8 := hI 8 (by omega)
      have : bt (arnd W (W * H) (nI (2 ^ v)) &&& nrs W (W * H) h 8) u = true := by
        rw [b_and, arnd_one hg hv, ha, nrs_all hg hb c hu]; rfl
      rw [h8, b_0] at this; cases this
    · intro k i _ hi hI K
      show ∃ g, _ ∧ F_X2_towards_17_b (F_X2_towards_17 k) z _ (nrs W (W * H) h i) (nI i) = _
      unfold F_X2_towards_17_b
      have q25 : ¬ (25 : Int32) ≤ nI i := nI_ge (b := 25) (by omega) (by omega)
      have hnz : nrs W (W * H) h i ≠ 0 := by
        intro e
        apply c
        apply b_ext
        intro u _
        rw [b_0]
        cases hbu : bt h u with
        | false => rfl
        | true =>
          have := nrs_mono W (W * H) h 0 i u hbu
          rw [Nat.zero_add, e, b_0] at this
          cases this
      rw [if_neg q25, if_neg hnz]
      simp only [oL_s]
      by_cases e : arnd W (W * H) (nI (2 ^ v)) &&& nrs W (W * H) h i = 0
      · rw [if_pos e, p_beside hG (nrs_bl hg hb i)]
        simp only [oC_s, nI_1]
        refine K () (fun j hj => ?_)
        by_cases ej : j = i
        · rw [ej]; exact e
        · exact hI j (by omega)
      · rw [if_neg e]
        obtain ⟨g, hg32, g1, g2⟩ := low_ex e
        have gl := (bt_low _ hg32).mp g2
        rw [p_leastOf z hg32 gl.1 gl.2, oC_s]
        have g1' := g1
        rw [b_and, Bool.and_eq_true, arnd_one hg hv] at g1'
        have gn : g < W * H := adj_lt hg.1 hg.2.1 hg.2.2.2 hv g1'.1
        have no : ∀ u, adj W (W * H) v u = true → ∀ j, j < i → bt (nrs W (W * H) h j) u = false := by
          intro u hu j hj
          cases hb' : bt (nrs W (W * H) h j) u with
          | false => rfl
          | true =>
            have : bt (arnd W (W * H) (nI (2 ^ v)) &&& nrs W (W * H) h j) u = true := by rw [b_and, arnd_one hg hv, hu, hb']; rfl
            rw [hI j hj, b_0] at this; cases this
        have sg : stN W (W * H) h g = i := st_hit (by omega) g1'.2 (no g g1'.1) 10 (by omega)
        refine ⟨g, ⟨gn, g1'.1, fun u hu ha => ?_⟩, rfl⟩
        -- how near u is
        obtain ⟨ku, hku, hk1, hk2⟩ := fb_first (p := fun k => bt (nrs W (W * H) h k) u = true) (n := 9) ⟨8, by omega, nrs_all hg hb c hu⟩
        have su : stN W (W * H) h u = ku := st_hit (by omega) hk1 (fun j hj => by simpa using hk2 j hj) 10 (by omega)
        have ge : i ≤ ku := by
          rcases Nat.lt_or_ge ku i with q | q
          · have := no u ha ku q
            rw [hk1] at this; cases this
          · exact q
        rw [sg, su]
        refine ⟨ge, fun e' => ?_⟩
        subst e'
        rcases Nat.lt_or_ge u g with q | q
        · have := gl.2 u q
          rw [b_and, arnd_one hg hv, ha, hk1] at this
          cases this
        · exact q
