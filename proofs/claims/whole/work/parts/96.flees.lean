/-! PURE: the days of a flight: the reference -/
def dysT (x : Int32) (P : Nat → Nat) (a b : Nat) (gd : Int32) (G : Nat → Option Nat) (n : Nat) : Nat → Nat → Nat
  | 0 => P
  | d + 1 => dayT x (dysT x P a b gd G n d) a b gd G n
def dysL (x : Int32) (P : Nat → Nat) (a b : Nat) (gd : Int32) (G : Nat → Option Nat) (n : Nat) : Nat → Nat
  | 0 => 0
  | d + 1 => dysL x P a b gd G n d + dayL x (dysT x P a b gd G n d) a b gd G n
theorem dys_ok {x : Int32} {P : Nat → Nat} {a b n : Nat} (ha : a ≤ 100) (hb : b ≤ 100) {gd : Int32} {G : Nat → Option Nat} (hGn : ∀ v, v < n → ∀ u, G v = some u → u < n) : ∀ d, fb_sm (dysT x P a b gd G n d) (2 * n) + dysL x P a b gd G n d = fb_sm P (2 * n)
  | 0 => rfl
  | d + 1 => by
    have h1 := dys_ok (x := x) (P := P) ha hb (gd := gd) hGn d
    have h2 := (day_ok (x := x) (T0 := dysT x P a b gd G n d) ha hb (gd := gd) hGn n (Nat.le_refl _)).2
    show fb_sm (dayT x _ a b gd G n) (2 * n) + (dysL x P a b gd G n d + dayL x _ a b gd G n) = _
    omega
theorem dys_le {x : Int32} {P : Nat → Nat} {a b n : Nat} (ha : a ≤ 100) (hb : b ≤ 100) {gd : Int32} {G : Nat → Option Nat} (hGn : ∀ v, v < n → ∀ u, G v = some u → u < n) (hS : fb_sm P (2 * n) ≤ 62450) (d : Nat) {k : Nat} (hk : k < 2 * n) : dysT x P a b gd G n d k ≤ 62450 := by
  have h1 := dys_ok (x := x) (P := P) ha hb (gd := gd) hGn d
  have h2 := fb_sm_part (dysT x P a b gd G n d) hk
  omega
theorem one_b1 (b : Bool) : (1 : Int32) - nI (1 - b1 b) = nI (b1 b) := by cases b <;> decide
def flQ (w : St) (n D : Nat) (L : Nat) (T : Nat → Nat) (w' : St) : Prop := fr [30] [27, 28, 29] w w' ∧ w'.1 30 = nI L ∧ ∀ k, k < 2 * n → w'.2.1 27 k = nI (T k)
theorem p_flees {w : St} {W H : Nat} (hG : geoR w W H) {x : Int32} (hx : bl x (W * H)) {G : Nat → Option Nat} (hgo : goP W H x G) {P : Nat → Nat} {a b : Nat} (h24 : ∀ k, k < 2 * (W * H) → w.2.1 24 k = nI (P k)) (ea : w.2.1 3 4 = nI a) (eb : w.2.1 3 5 = nI b) (ha : a ≤ 100) (hb : b ≤ 100) (hS : fb_sm P (2 * (W * H)) ≤ 62450) (gd : Int32) {D : Nat} (hD : D ≤ 20) :
    ∃ w', f_X12_flees w x (nI D) gd = some w' ∧ flQ w (W * H) D (dysL x P a b gd G (W * H) D) (dysT x P a b gd G (W * H) D) w' := by
  have hg := hG.1
  have hs := sz25 hg
  have hGn := go_lt hgo
  have e2n : (2 : Int32) * nI (W * H) = nI (2 * (W * H)) := mulN 2 (W * H)
  have gR : ∀ s, fr [30] [27, 28, 29] w s → geoR s W H := fun s h => ⟨hg, by rw [h.1 22 (by decide)]; exact hG.2.1, by rw [h.1 23 (by decide)]; exact hG.2.2⟩
  have eA : ∀ s, fr [30] [27, 28, 29] w s → s.2.1 3 4 = nI a := fun s h => by rw [h.2 3 (by decide)]; exact ea
  have eB : ∀ s, fr [30] [27, 28, 29] w s → s.2.1 3 5 = nI b := fun s h => by rw [h.2 3 (by decide)]; exact eb
  have hin : ∀ i, i < 2 * (W * H) → vp_in (nI i) 50 := fun i hi => vp_in_nI (by omega) (by omega)
  unfold f_X12_flees F_X12_flees_0
  simp only [oL_s]
  refine loop_i (fun k i (s : St) => ∃ w', F_X12_flees_8 k s x (nI D) gd (nI i) = some w' ∧ flQ w (W * H) D (dysL x P a b gd G (W * H) D) (dysT x P a b gd G (W * H) D) w') (fun i s => fr [30] [27, 28, 29] w s ∧ s.1 30 = 0 ∧ ∀ k, k < i → s.2.1 27 k = nI (P k)) (2 * (W * H)) ?_ ?_ 100000 0 (sI w 30 0) (Nat.zero_le _) (by omega) ⟨fr_I fr_0 (by decide), sI_eq w 30 0, fun k hk => absurd hk (Nat.not_lt_zero k)⟩
  · rintro k s ⟨f1, f2, f3⟩
    show ∃ w', F_X12_flees_8_b _ s x (nI D) gd (nI (2 * (W * H))) = some w' ∧ _
    unfold F_X12_flees_8_b
    simp only [p_cells, oC_s, oL_s, (gR s f1).2.1, (gR s f1).2.2, mulN, e2n]
    rw [if_pos (Int32.le_refl _)]
    obtain ⟨g, eg, hp⟩ := p_paces (gR s f1) hx
    rw [eg]
    simp only [oC_s]
    refine loop_i (fun k d (s : St) => ∃ w', F_X12_flees_47 k s x (nI D) gd (nI d) = some w' ∧ flQ w (W * H) D (dysL x P a b gd G (W * H) D) (dysT x P a b gd G (W * H) D) w') (fun d s => fr [30] [27, 28, 29] w s ∧ pcP W H x 2 (s.2.1 29) ∧ s.1 30 = nI (dysL x P a b gd G (W * H) d) ∧ ∀ k, k < 2 * (W * H) → s.2.1 27 k = nI (dysT x P a b gd G (W * H) d k)) D ?_ ?_ 100000 0 (sA s 29 g) (Nat.zero_le _) (by omega) ⟨fr_A f1 (by decide), by rw [sA_eq]; exact hp, f2, fun k hk => by rw [sA_ne s 29 27 g (by decide)]; exact f3 k hk⟩
    · rintro k s ⟨f1, f2, f3, f4⟩
      show ∃ w', F_X12_flees_47_b _ s x (nI D) gd (nI D) = some w' ∧ _
      unfold F_X12_flees_47_b
      rw [if_pos (Int32.le_refl _)]
      exact ⟨s, rfl, f1, f3, f4⟩
    · rintro k d s hd ⟨f1, f2, f3, f4⟩ K
      show ∃ w', F_X12_flees_47_b (F_X12_flees_47 k) s x (nI D) gd (nI d) = some w' ∧ _
      unfold F_X12_flees_47_b
      rw [if_neg (nI_ge hd (by omega)), oL_s]
      refine loop_i (fun k1 i (s : St) => ∃ w', F_X12_flees_56 (F_X12_flees_47 k) k1 s x (nI D) gd (nI d) (nI i) = some w' ∧ flQ w (W * H) D (dysL x P a b gd G (W * H) D) (dysT x P a b gd G (W * H) D) w') (fun i s => fr [30] [27, 28, 29] w s ∧ pcP W H x 2 (s.2.1 29) ∧ s.1 30 = nI (dysL x P a b gd G (W * H) d) ∧ (∀ k, k < 2 * (W * H) → s.2.1 27 k = nI (dysT x P a b gd G (W * H) d k)) ∧ ∀ k, k < i → s.2.1 28 k = nI (dysT x P a b gd G (W * H) d k)) (2 * (W * H)) ?_ ?_ 100000 0 s (Nat.zero_le _) (by omega) ⟨f1, f2, f3, f4, fun k hk => absurd hk (Nat.not_lt_zero k)⟩
      · rintro k1 s ⟨f1, f2, f3, f4, f5⟩
        show ∃ w', F_X12_flees_56_b _ _ s x (nI D) gd (nI d) (nI (2 * (W * H))) = some w' ∧ _
        unfold F_X12_flees_56_b
        simp only [p_cells, oC_s, oL_s, (gR s f1).2.1, (gR s f1).2.2, mulN, e2n]
        rw [if_pos (Int32.le_refl _)]
        have dok := day_ok (x := x) (T0 := dysT x P a b gd G (W * H) d) ha hb (gd := gd) hGn
        refine loop_i (fun k2 v (s : St) => ∃ w', F_X12_flees_90 (F_X12_flees_47 k) k2 s x (nI D) gd (nI d) (nI v) = some w' ∧ flQ w (W * H) D (dysL x P a b gd G (W * H) D) (dysT x P a b gd G (W * H) D) w') (fun v s => fr [30] [27, 28, 29] w s ∧ pcP W H x 2 (s.2.1 29) ∧ s.1 30 = nI (dysL x P a b gd G (W * H) d + dayL x (dysT x P a b gd G (W * H) d) a b gd G v) ∧ (∀ k, k < 2 * (W * H) → s.2.1 27 k = nI (dysT x P a b gd G (W * H) d k)) ∧ ∀ k, k < 2 * (W * H) → s.2.1 28 k = nI (dayT x (dysT x P a b gd G (W * H) d) a b gd G v k)) (W * H) ?_ ?_ 100000 0 s (Nat.zero_le _) (by omega) ⟨f1, f2, f3, f4, f5⟩
        · rintro k2 s ⟨f1, f2, f3, f4, f5⟩
          show ∃ w', F_X12_flees_90_b _ _ s x (nI D) gd (nI d) (nI (W * H)) = some w' ∧ _
          unfold F_X12_flees_90_b
          simp only [p_cells, oC_s, oL_s, (gR s f1).2.1, (gR s f1).2.2, mulN]
          rw [if_pos (Int32.le_refl _)]
          refine loop_i (fun k3 i (s : St) => ∃ w', F_X12_flees_123 (F_X12_flees_47 k) k3 s x (nI D) gd (nI d) (nI i) = some w' ∧ flQ w (W * H) D (dysL x P a b gd G (W * H) D) (dysT x P a b gd G (W * H) D) w') (fun i s => fr [30] [27, 28, 29] w s ∧ pcP W H x 2 (s.2.1 29) ∧ s.1 30 = nI (dysL x P a b gd G (W * H) (d + 1)) ∧ (∀ k, k < 2 * (W * H) → s.2.1 28 k = nI (dysT x P a b gd G (W * H) (d + 1) k)) ∧ ∀ k, k < i → s.2.1 27 k = nI (dysT x P a b gd G (W * H) (d + 1) k)) (2 * (W * H)) ?_ ?_ 100000 0 s (Nat.zero_le _) (by omega) ⟨f1, f2, f3, f5, fun k hk => absurd hk (Nat.not_lt_zero k)⟩
          · rintro k3 s ⟨f1, f2, f3, f4, f5⟩
            show ∃ w', F_X12_flees_123_b _ _ s x (nI D) gd (nI d) (nI (2 * (W * H))) = some w' ∧ _
            unfold F_X12_flees_123_b
            simp only [p_cells, oC_s, oL_s, (gR s f1).2.1, (gR s f1).2.2, mulN, e2n, nI_1]
            rw [if_pos (Int32.le_refl _)]
            exact K s ⟨f1, f2, f3, f5⟩
          · rintro k3 i s hi ⟨f1, f2, f3, f4, f5⟩ K3
            show ∃ w', F_X12_flees_123_b _ (F_X12_flees_123 (F_X12_flees_47 k) k3) s x (nI D) gd (nI d) (nI i) = some w' ∧ _
            unfold F_X12_flees_123_b
            simp only [p_cells, oC_s, oL_s, (gR s f1).2.1, (gR s f1).2.2, mulN, e2n, nI_1, oA_in _ (hin i hi), nI_clamp (show i < 2 ^ 31 by omega)]
            rw [if_neg (nI_ge hi (by omega))]
            refine K3 _ ⟨fr_A f1 (by decide), by rw [sA_ne _ 27 29 _ (by decide)]; exact f2, f3, fun k hk => by rw [sA_ne _ 27 28 _ (by decide)]; exact f4 k hk, fun k hk => ?_⟩
            rw [sA_eq, upd_i]
            split
            · rename_i e; rw [e]; exact f4 i hi
            · exact f5 k (by omega)
        · rintro k2 v s hv ⟨f1, f2, f3, f4, f5⟩ K2
          show ∃ w', F_X12_flees_90_b _ (F_X12_flees_90 (F_X12_flees_47 k) k2) s x (nI D) gd (nI d) (nI v) = some w' ∧ _
          have w1 := wsd_le x v
          obtain ⟨s', e', g1, g2, g3⟩ := p_leaves (gR s f1) hx f2 hgo hv (eA s f1) (eB s f1) ha hb gd f4 f5 f3 (dys_le ha hb hGn hS d (by omega)) ((dok v (by omega)).1 v (Nat.le_refl _))
          unfold F_X12_flees_90_b
          simp only [p_cells, oC_s, oL_s, (gR s f1).2.1, (gR s f1).2.2, mulN, nI_1, p_sideOf s x (show v < 32 by omega), one_b1]
          rw [if_neg (nI_ge hv (by omega))]
          have e'' : f_X12_leaves s (nI v) (nI (b1 (bt x v))) gd = some s' := e'
          rw [e'']
          simp only [oC_s]
          refine K2 s' ⟨fr_t f1 (fr_m g1 (by decide) (by decide)), by rw [g1.2 29 (by decide)]; exact f2, ?_, fun k hk => by rw [g1.2 27 (by decide)]; exact f4 k hk, g3⟩
          rw [g2, Nat.add_assoc]; rfl
      · rintro k1 i s hi ⟨f1, f2, f3, f4, f5⟩ K1
        show ∃ w', F_X12_flees_56_b _ (F_X12_flees_56 (F_X12_flees_47 k) k1) s x (nI D) gd (nI d) (nI i) = some w' ∧ _
        unfold F_X12_flees_56_b
        simp only [p_cells, oC_s, oL_s, (gR s f1).2.1, (gR s f1).2.2, mulN, e2n, nI_1, oA_in _ (hin i hi), nI_clamp (show i < 2 ^ 31 by omega)]
        rw [if_neg (nI_ge hi (by omega))]
        refine K1 _ ⟨fr_A f1 (by decide), by rw [sA_ne _ 28 29 _ (by decide)]; exact f2, f3, fun k hk => by rw [sA_ne _ 28 27 _ (by decide)]; exact f4 k hk, fun k hk => ?_⟩
        rw [sA_eq, upd_i]
        split
        · rename_i e; rw [e]; exact f4 i hi
        · exact f5 k (by omega)
  · rintro k i s hi ⟨f1, f2, f3⟩ K
    show ∃ w', F_X12_flees_8_b (F_X12_flees_8 k) s x (nI D) gd (nI i) = some w' ∧ _
    unfold F_X12_flees_8_b
    simp only [p_cells, oC_s, oL_s, (gR s f1).2.1, (gR s f1).2.2, mulN, e2n, nI_1, oA_in _ (hin i hi), nI_clamp (show i < 2 ^ 31 by omega)]
    rw [if_neg (nI_ge hi (by omega))]
    refine K _ ⟨fr_A f1 (by decide), f2, fun k hk => ?_⟩
    rw [sA_eq, upd_i]
    split
    · rename_i e; rw [e, f1.2 24 (by decide)]; exact h24 i hi
    · exact f3 k (by omega)
