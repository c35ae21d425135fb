/-! PURE: the reference's spans and reckons; span -/
def knW (q w : St) (x : Int32) (m : Nat) : Prop := q.1 27 = nI m ∧ q.2.1 10 = w.2.1 10 ∧ q.2.1 16 = w.2.1 16 ∧ q.2.1 18 = w.2.1 18 ∧ q.2.1 19 = w.2.1 19 ∧ q.2.1 20 = w.2.1 20 ∧ q.2.1 21 = w.2.1 21 ∧ ∀ i, i < m → q.2.1 23 i = b2 (kn w x m i)
def spQ (q : St) (p : Bool × Nat × Nat) : St := sI (sI q 28 (nI p.2.1)) 29 (nI p.2.2)
theorem spQ_set (q : St) (p : Bool × Nat × Nat) (c : Bool) (a b : Nat) : sI (sI (spQ q p) 28 (nI a)) 29 (nI b) = spQ q (c, a, b) := by
  have e : ∀ x y x' y' : Int32, va_up (va_up (va_up (va_up q.1 28 x) 29 y) 28 x') 29 y' = va_up (va_up q.1 28 x') 29 y' := by
    intro x y x' y'
    funext j
    unfold va_up
    by_cases h : j = 29
    · rw [if_pos h, if_pos h]
    · by_cases h2 : j = 28
      · simp only [h, h2, ↓reduceIte]
      · simp only [h, h2, ↓reduceIte]
  show (va_up (va_up (va_up (va_up q.1 28 _) 29 _) 28 _) 29 _, q.2.1, q.2.2) = (va_up (va_up q.1 28 _) 29 _, q.2.1, q.2.2)
  rw [e]
theorem p_spans {q w : St} {x : Int32} {m n v s : Nat} (hq : knW q w x m) (hw : ntW w m n) (hE : erW w) (hv : v < 25) (hs : s < 2) : f_X12_spans q (nI v) (nI s) = some (b2 (decide ((spF w x m v s m).2.1 ≤ (spF w x m v s m).2.2)), spQ q (spF w x m v s m)) := by
  obtain ⟨e27, e10, e16, e18, e19, e20, e21, e23⟩ := hq
  have hm := hw.1
  unfold f_X12_spans F_X12_spans_0
  simp only [oL_s]
  have key := loop_i (σ := Unit) (fun k i _ => F_X12_spans_17 k (spQ q (spF w x m v s i)) (nI v) (nI s) (b2 (spF w x m v s i).1) (nI i) = some (b2 (decide ((spF w x m v s m).2.1 ≤ (spF w x m v s m).2.2)), spQ q (spF w x m v s m))) (fun _ _ => True) m ?_ ?_ 100000 0 () (Nat.zero_le _) (by omega) trivial
  · have k2 : F_X12_spans_17 100000 (sI (sI q 28 0) 29 999) (nI v) (nI s) 0 0 = some (b2 (decide ((spF w x m v s m).2.1 ≤ (spF w x m v s m).2.2)), spQ q (spF w x m v s m)) := key
    rw [k2, oC_s]
    cases decide ((spF w x m v s m).2.1 ≤ (spF w x m v s m).2.2)
    · exact oZ_0 _
    · exact oZ_1 _
  · intro k _ _
    show F_X12_spans_17_b _ (spQ q (spF w x m v s m)) (nI v) (nI s) (b2 (spF w x m v s m).1) (nI m) = _
    have bd := sp_bd (x := x) (v := v) hw hE hs m (Nat.le_refl _)
    unfold F_X12_spans_17_b F_X12_spans_201
    have a1 : (spQ q (spF w x m v s m)).1 27 = nI m := e27
    have a2 : (spQ q (spF w x m v s m)).1 29 = nI (spF w x m v s m).2.2 := rfl
    have a3 : (spQ q (spF w x m v s m)).1 28 = nI (spF w x m v s m).2.1 := rfl
    rw [a1, a2, a3, if_pos (Int32.le_refl _)]
    by_cases c : (spF w x m v s m).2.1 ≤ (spF w x m v s m).2.2
    · rw [if_neg (nI_nlt c (by omega)), decide_eq_true c]; rfl
    · rw [if_pos (nI_lt (by omega) (by omega)), decide_eq_false c]; rfl
  · intro k i _ hi _ K
    have K := K () trivial
    show F_X12_spans_17_b (F_X12_spans_17 k) (spQ q (spF w x m v s i)) (nI v) (nI s) (b2 (spF w x m v s i).1) (nI i) = _
    have hin : vp_in (nI i) 80 := vp_in_nI (by omega) (by omega)
    have a1 : (spQ q (spF w x m v s i)).1 27 = nI m := e27
    have a2 : (spQ q (spF w x m v s i)).2.1 = q.2.1 := rfl
    unfold F_X12_spans_17_b F_X12_spans_179
    simp only [a1, a2, oL_s, oA_in _ hin, nI_clamp (show i < 2 ^ 31 by omega), e16, e19, e20, e21, e23 i hi, b2_0, nI_1]
    rw [if_neg (nI_ge hi (by omega))]
    have stay : cIs w x m v i = false → F_X12_spans_17 k (spQ q (spF w x m v s i)) (nI v) (nI s) (b2 (spF w x m v s i).1) (nI (i + 1)) = some (b2 (decide ((spF w x m v s m).2.1 ≤ (spF w x m v s m).2.2)), spQ q (spF w x m v s m)) := by
      intro hc
      have : spF w x m v s (i + 1) = spF w x m v s i := by
        show (if cIs w x m v i then _ else _ : Bool × Nat × Nat) = _
        rw [hc, if_neg (by decide)]
      rw [this] at K
      exact K
    by_cases a : kn w x m i = false
    · rw [if_pos a]; exact stay (by unfold cIs; rw [a]; rfl)
    · rw [if_neg a]
      by_cases b : w.2.1 16 i = (3 : Int32)
      · rw [if_pos b]
        by_cases c : w.2.1 19 i = nI v
        · rw [if_pos c]
          obtain ⟨hd, u, h1, h2, h3, h4, h5, h6, h7⟩ := nt_count hw hE hi b
          have bd := sp_bd (x := x) (v := v) hw hE hs i (by omega)
          have lh := lohi hw hE hi b hs
          have cb := c_bd (h5 s hs).1 h6
          have yes : cIs w x m v i = true := by unfold cIs; rw [Bool.and_eq_true, decide_eq_true_iff]; exact ⟨by simpa using a, b, c⟩
          have nx : spF w x m v s (i + 1) = (true, max (spF w x m v s i).2.1 (cLo w i s), if (spF w x m v s i).1 then min (spF w x m v s i).2.2 (cHi w i s) else cHi w i s) := by
            show (if cIs w x m v i then _ else _ : Bool × Nat × Nat) = _
            rw [if_pos yes]
          have e1 : (nI (cA0 w i s) * ((100 : Int32) - nI (cE0 w i))) / (100 : Int32) = nI (cLo w i s) := by
            rw [show (100 : Int32) = nI 100 from rfl, nI_sub (by omega), mulN, divN (by omega) (by omega)]; rfl
          have e2 : ((nI (cA0 w i s) * ((100 : Int32) + nI (cE0 w i))) + (99 : Int32)) / (100 : Int32) = nI (cHi w i s) := by
            rw [show (100 : Int32) = nI 100 from rfl, show (99 : Int32) = nI 99 from rfl, nI_add, mulN, nI_add, divN (by omega) (by omega)]; rfl
          have hin4 : vp_in (nI hd) 4 := vp_in_nI (by omega) (by omega)
          have go : F_X12_spans_82 (F_X12_spans_17 k) (spQ q (spF w x m v s i)) (nI v) (nI s) (b2 (spF w x m v s i).1) (nI i) (nI (cA0 w i s)) = some (b2 (decide ((spF w x m v s m).2.1 ≤ (spF w x m v s m).2.2)), spQ q (spF w x m v s m)) := by
            unfold F_X12_spans_82 F_X12_spans_152 F_X12_spans_174 F_X12_spans_179
            have a3 : (spQ q (spF w x m v s i)).1 28 = nI (spF w x m v s i).2.1 := rfl
            simp only [a2, oL_s, oA_in _ hin, nI_clamp (show i < 2 ^ 31 by omega), e18, e10, h3, nI_clamp (show hd < 2 ^ 31 by omega), h7, oA_in _ hin4, oD100, e1, e2, b2_0, nI_1, a3, jmaxN (show (spF w x m v s i).2.1 < 2147483648 by omega) (show cLo w i s < 2147483648 by omega)]
            rw [nx] at K
            by_cases d : (spF w x m v s i).1 = false
            · have z0 : (spF w x m v s i).2.1 = 0 := by
                clear K nx
                induction i with
                | zero => rfl
                | succ i ih =>
                  have gen : ∀ i, (spF w x m v s i).1 = false → (spF w x m v s i).2.1 = 0 := by
                    intro i
                    induction i with
                    | zero => intro _; rfl
                    | succ i ih =>
                      show (if cIs w x m v i then _ else _ : Bool × Nat × Nat).1 = false → (if cIs w x m v i then _ else _ : Bool × Nat × Nat).2.1 = 0
                      by_cases q : cIs w x m v i = true
                      · rw [if_pos q]; intro h; cases h
                      · rw [if_neg q]; exact ih
                  exact gen _ d
              rw [if_pos d, if_pos d]
              rw [d, if_neg (by decide), z0, Nat.zero_max] at K
              rw [spQ_set _ _ true]; exact K
            · rw [if_neg d, if_neg d]
              have d' : (spF w x m v s i).1 = true := by simpa using d
              rw [d', if_pos rfl] at K
              have a4 : (sI (spQ q (spF w x m v s i)) 28 (nI (max (spF w x m v s i).2.1 (cLo w i s)))).1 29 = nI (spF w x m v s i).2.2 := rfl
              rw [a4, jminN (by omega) (by omega), spQ_set _ _ true]
              exact K
          rcases (show s = 0 ∨ s = 1 by omega) with rfl | rfl
          · have := (h5 0 (by omega)).2
            rw [if_pos rfl] at this
            have e0 : nI 0 = (0 : Int32) := rfl
            rw [if_pos e0, this]
            exact go
          · have := (h5 1 (by omega)).2
            rw [if_neg (by omega)] at this
            have e0 : ¬ nI 1 = (0 : Int32) := by decide
            rw [if_neg e0, this]
            exact go
        · rw [if_neg c]; exact stay (by unfold cIs; rw [decide_eq_false (fun q => c q.2), Bool.and_false])
      · rw [if_neg b]; exact stay (by unfold cIs; rw [decide_eq_false (fun q => b q.1), Bool.and_false])
def recP (w : St) (x : Int32) (m n : Nat) (w' : St) : Prop := fr [28, 29] [22, 23, 24] w w' ∧ (∀ i, i < m → w'.2.1 23 i = b2 (kn w x m i)) ∧ ∀ s, s < 2 → ∀ v, v < n → w'.2.1 24 (2 * v + s) = nI (ppl w x m v s)
theorem p_reckons {w : St} {m W H : Nat} (hw : ntW w m (W * H)) (hE : erW w) (hn : W * H ≤ 25) (e22 : w.1 22 = nI W) (e23 : w.1 23 = nI H) (x : Int32) : ∃ w', f_X12_reckons w x = some w' ∧ recP w x m (W * H) w' := by
  obtain ⟨g, h, g1, hg⟩ := p_knows hw x
  obtain ⟨hm, e27, _⟩ := id hw
  unfold f_X12_reckons F_X12_reckons_0
  simp only [g1, oC_s, oL_s]
  have f0 : fr [28, 29] [22, 23, 24] w (sA (sA w 22 g) 23 h) := fr_A (fr_A fr_0 (by decide)) (by decide)
  refine loop_i (fun k i (s : St) => ∃ w', F_X12_reckons_7 k s (nI i) = some w' ∧ recP w x m (W * H) w') (fun i s => fr [28, 29] [24] (sA (sA w 22 g) 23 h) s ∧ ∀ t, t < 2 → ∀ v, v < i → s.2.1 24 (2 * v + t) = nI (ppl w x m v t)) (W * H) ?_ ?_ 100000 0 _ (Nat.zero_le _) (by omega) ⟨fr_0, fun t _ v hv => absurd hv (Nat.not_lt_zero v)⟩
  · rintro k s ⟨f, hf⟩
    refine ⟨s, ?_, fr_t f0 (fr_m f (by decide) (by decide)), ?_, hf⟩
    · show F_X12_reckons_7_b _ s (nI (W * H)) = _
      unfold F_X12_reckons_7_b
      simp only [p_cells, oC_s, oL_s]
      rw [f.1 22 (by decide), f.1 23 (by decide)]
      rw [show (sA (sA w 22 g) 23 h).1 22 = nI W from e22, show (sA (sA w 22 g) 23 h).1 23 = nI H from e23, mulN, if_pos (Int32.le_refl _)]
    · intro i hi
      rw [f.2 23 (by decide), sA_eq]
      exact hg i hi
  · rintro k i s hi ⟨f, hf⟩ K
    show ∃ w', F_X12_reckons_7_b (F_X12_reckons_7 k) s (nI i) = some w' ∧ _
    unfold F_X12_reckons_7_b
    simp only [p_cells, oC_s, oL_s]
    rw [f.1 22 (by decide), f.1 23 (by decide)]
    rw [show (sA (sA w 22 g) 23 h).1 22 = nI W from e22, show (sA (sA w 22 g) 23 h).1 23 = nI H from e23, mulN, if_neg (nI_ge hi (by omega))]
    refine loop_i (fun k' t (s' : St) => ∃ w', F_X12_reckons_17 (F_X12_reckons_7 k) k' s' (nI i) (nI t) = some w' ∧ recP w x m (W * H) w') (fun t s' => fr [28, 29] [24] (sA (sA w 22 g) 23 h) s' ∧ (∀ t', t' < 2 → ∀ v, v < i → s'.2.1 24 (2 * v + t') = nI (ppl w x m v t')) ∧ ∀ t', t' < t → s'.2.1 24 (2 * i + t') = nI (ppl w x m i t')) 2 ?_ ?_ 100000 0 _ (Nat.zero_le _) (by omega) ⟨f, hf, fun t ht => absurd ht (Nat.not_lt_zero t)⟩
    · rintro k' s' ⟨f', h1, h2⟩
      show ∃ w', F_X12_reckons_17_b _ _ s' (nI i) (nI 2) = some w' ∧ _
      unfold F_X12_reckons_17_b
      have q : (2 : Int32) ≤ nI 2 := Int32.le_refl _
      rw [if_pos q, oL_s, nI_1]
      refine K _ ⟨f', fun t ht v hv => ?_⟩
      by_cases e : v = i
      · subst e; exact h2 t ht
      · exact h1 t ht v (by omega)
    · rintro k' t s' ht ⟨f', h1, h2⟩ K'
      show ∃ w', F_X12_reckons_17_b _ (F_X12_reckons_17 (F_X12_reckons_7 k) k') s' (nI i) (nI t) = some w' ∧ _
      have q : ¬ (2 : Int32) ≤ nI t := nI_ge (b := 2) ht (by omega)
      have kq : knW s' w x m := ⟨(f'.1 27 (by decide)).trans e27, f'.2 10 (by decide), f'.2 16 (by decide), f'.2 18 (by decide), f'.2 19 (by decide), f'.2 20 (by decide), f'.2 21 (by decide), fun j hj => by rw [f'.2 23 (by decide), sA_eq]; exact hg j hj⟩
      have bd := sp_bd (x := x) (v := i) hw hE ht m (Nat.le_refl _)
      have e2 : ((2 : Int32) * nI i) + nI t = nI (2 * i + t) := by rw [show (2 : Int32) = nI 2 from rfl, mulN, nI_add]
      unfold F_X12_reckons_17_b F_X12_reckons_55
      rw [if_neg q, p_spans kq hw hE (by omega) ht]
      simp only [oC_s, oL_s, e2, oA_in _ (vp_in_nI (show 2 * i + t < 50 by omega) (by omega)), nI_clamp (show 2 * i + t < 2 ^ 31 by omega), nI_1, oD2, b2_0]
      have go : ∀ y, y = nI (ppl w x m i t) → ∃ w', F_X12_reckons_17 (F_X12_reckons_7 k) k' (sA (spQ s' (spF w x m i t m)) 24 (upd ((spQ s' (spF w x m i t m)).2.1 24) (2 * i + t) y)) (nI i) (nI (t + 1)) = some w' ∧ recP w x m (W * H) w' := by
        intro y hy
        refine K' _ ⟨fr_A (fr_I (fr_I f' (by decide)) (by decide)) (by decide), ?_, ?_⟩
        · intro t' ht' v hv
          show upd (s'.2.1 24) (2 * i + t) y (2 * v + t') = _
          rw [pk_un (by omega)]; exact h1 t' ht' v hv
        · intro t' ht'
          show upd (s'.2.1 24) (2 * i + t) y (2 * i + t') = _
          by_cases e : t' = t
          · subst e; rw [pk_us]; exact hy
          · rw [pk_un (by omega)]; exact h2 t' (by omega)
      by_cases c : (spF w x m i t m).2.1 ≤ (spF w x m i t m).2.2
      · rw [decide_eq_true c, if_neg (by decide)]
        refine go _ ?_
        unfold ppl
        rw [if_pos c]
        show (nI (spF w x m i t m).2.1 + nI (spF w x m i t m).2.2) / (2 : Int32) = _
        rw [nI_add, show (2 : Int32) = nI 2 from rfl, divN (by omega) (by omega)]
      · rw [decide_eq_false c, if_pos rfl]
        refine go _ ?_
        unfold ppl
        rw [if_neg c]; rfl
/-- what the census and the reference's reckoning give, under Inv -/
theorem cens {z w : St} {W H : Nat} (hL : ivLand z w W H) (hN : ivNote z w (W * H)) (hE : ivErr z w) (x : Int32) : ∃ m z' w', ntW w m (W * H) ∧ f_X0_take z x = some z' ∧ takeP z w x m (W * H) z' ∧ f_X12_reckons w x = some w' ∧ recP w x m (W * H) w' := by
  obtain ⟨m, hz, hw⟩ := nt_of hN
  have hs := sz25 hL.1
  obtain ⟨z', g1, p1⟩ := p_take hz hw hE.2 hE.1 hs.2 hL.2.2.2.2.1 x
  obtain ⟨w', g2, p2⟩ := p_reckons hw hE.2 hs.2 hL.2.1 hL.2.2.1 x
  exact ⟨m, z', w', hw, g1, p1, g2, p2⟩
theorem q_span {z w : St} (h : Inv z w) (x1 x2 x3 x4 : Int32) : Ok (f_X11_span z x1 x2 x3 x4) (f_X12_span w x1 x2 x3 x4) := by
  have h' := h
  obtain ⟨W, H, hDy, hL, hV, hC, hN, hE, hD, hK, hT, hF, hR⟩ := h
  have hs := sz25 hL.1
  unfold f_X11_span F_X11_span_0 F_X11_span_36 F_X11_span_112 f_X12_span F_X12_span_0 F_X12_span_40 F_X12_span_108 F_X12_span_81
  rcases c_vil (w := sI w 0 0) hL x1 with ⟨g1, g2⟩ | ⟨v, hv, rfl, g1, g2⟩
  · simp only [oL_s, g1, g2, oC_s, ↓reduceIte]
    exact ⟨-1, _, _, rfl, rfl, Inv_0 h'⟩
  simp only [oL_s, g1, g2, oC_s, i10, ↓reduceIte, p_isSide]
  by_cases a2 : x2 = 0 ∨ x2 = 1
  · have s2 : ∃ s, s < 2 ∧ x2 = nI s := by
      rcases a2 with rfl | rfl
      · exact ⟨0, by omega, rfl⟩
      · exact ⟨1, by omega, rfl⟩
    have b1 : ¬ x2 < 0 := by rcases a2 with rfl | rfl <;> decide
    have b2' : ¬ (1 : Int32) < x2 := by rcases a2 with rfl | rfl <;> decide
    rw [if_pos a2, if_neg (by decide), if_neg b1, if_neg b2']
    obtain ⟨s, hs2, rfl⟩ := s2
    rcases c_day z (sI w 0 0) x3 with ⟨d1, d2⟩ | ⟨k, hk, rfl, d1, d2⟩
    · simp only [d1, d2, oC_s, oL_s, ↓reduceIte]
      exact ⟨-1, _, _, rfl, rfl, Inv_0 h'⟩
    simp only [d1, d2, oC_s, oL_s, i10, ↓reduceIte]
    by_cases a4 : x4 < 0
    · rw [if_pos a4, if_pos a4]; exact ⟨-1, _, _, rfl, rfl, Inv_0 h'⟩
    rw [if_neg a4, if_neg a4]
    by_cases a5 : x4 ≤ (2 : Int32)
    · rw [if_pos a5, if_pos a5]
      obtain ⟨m, hz, hw⟩ := nt_of (w := sI w 0 0) hN
      obtain ⟨z', t1, tf, _, t2⟩ := p_take hz hw hE.2 hE.1 hs.2 hL.2.2.2.2.1 (nI k)
      obtain ⟨g, gh, t3, t4⟩ := p_knows hw (nI k)
      have kq : knW (sA (sA (sI w 0 0) 22 g) 23 gh) (sI w 0 0) (nI k) m := ⟨hw.2.1, rfl, rfl, rfl, rfl, rfl, rfl, t4⟩
      have hin : vp_in (nI s) 2 := vp_in_nI hs2 (by omega)
      obtain ⟨y1, y2, y3⟩ := t2 s hs2 v hv
      have bd := sp_bd (x := nI k) (v := v) hw hE.2 hs2 m (Nat.le_refl _)
      have hq : Inv z' (spQ (sA (sA (sI w 0 0) 22 g) 23 gh) (spF (sI w 0 0) (nI k) m v s m)) := Inv_q h' (fr_m tf (by decide) (by decide)) (fr_I (fr_I (fr_A (fr_A (fr_I fr_0 (by decide)) (by decide)) (by decide)) (by decide)) (by decide))
      rw [t1, t3]
      simp only [oC_s, oL_s, p_spans kq hw hE.2 (show v < 25 by omega) hs2, oA_in _ hin, nI_clamp (show s < 2 ^ 31 by omega), nI_clamp (show v < 2 ^ 31 by omega), row20 hs2 (show v < 25 by omega), row23 hs2 (show v < 25 by omega), row26 hs2 (show v < 25 by omega), y1, y2, y3, b2_0, oD2]
      have z28 : (spQ (sA (sA (sI w 0 0) 22 g) 23 gh) (spF (sI w 0 0) (nI k) m v s m)).1 28 = nI (spF (sI w 0 0) (nI k) m v s m).2.1 := rfl
      have z29 : (spQ (sA (sA (sI w 0 0) 22 g) 23 gh) (spF (sI w 0 0) (nI k) m v s m)).1 29 = nI (spF (sI w 0 0) (nI k) m v s m).2.2 := rfl
      rw [z28, z29]
      generalize spQ (sA (sA (sI w 0 0) 22 g) 23 gh) (spF (sI w 0 0) (nI k) m v s m) = w2 at *
      unfold ppl
      generalize spF (sI w 0 0) (nI k) m v s m = sp at *
      by_cases e2 : x4 = (2 : Int32)
      · rw [if_pos e2, if_pos e2]
        by_cases c : sp.2.1 ≤ sp.2.2
        · rw [if_pos c, decide_eq_true c, if_neg (by decide), nI_add, show (2 : Int32) = nI 2 from rfl, divN (by omega) (by omega)]
          exact ⟨_, _, _, rfl, rfl, hq⟩
        · rw [if_neg c, decide_eq_false c, if_pos rfl]
          exact ⟨_, _, _, rfl, rfl, hq⟩
      · rw [if_neg e2, if_neg e2]
        by_cases c : sp.2.1 ≤ sp.2.2
        · have tf' : ¬ (true = false) := by decide
          rw [if_pos (nI_le c (by omega)), decide_eq_true c, if_neg tf']
          by_cases e0 : x4 = 0
          · rw [if_pos e0, if_pos e0]; exact ⟨_, _, _, rfl, rfl, hq⟩
          · rw [if_neg e0, if_neg e0]; exact ⟨_, _, _, rfl, rfl, hq⟩
        · rw [if_neg (nI_ge (by omega) (by omega)), decide_eq_false c, if_pos rfl]
          exact ⟨_, _, _, rfl, rfl, hq⟩
    · rw [if_neg a5, if_neg a5]; exact ⟨-1, _, _, rfl, rfl, Inv_0 h'⟩
  · rw [if_neg a2, if_pos rfl]
    refine ⟨-1, _, _, rfl, ?_, Inv_0 h'⟩
    by_cases b1 : x2 < 0
    · rw [if_pos b1]
    · have b3 : (1 : Int32) < x2 := by
        obtain ⟨j, hj, rfl⟩ := nI_of b1
        refine nI_lt (a := 1) ?_ hj
        rcases Nat.lt_or_ge 1 j with q | q
        · exact q
        · rcases (show j = 0 ∨ j = 1 by omega) with rfl | rfl
          · exact absurd (Or.inl rfl) a2
          · exact absurd (Or.inr rfl) a2
      rw [if_neg b1, if_pos b3]
