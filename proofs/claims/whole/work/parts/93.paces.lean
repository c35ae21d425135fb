/-! PURE: the reference's paces and goal -/
theorem i_flip (a b : Int32) : (0 : Int32) - (a - b) = b - a := by grind
theorem jabsN {p q : Nat} (hp : p < 1000) (hq : q < 1000) : jabsi (nI p - nI q) = nI ((p - q) + (q - p)) := by
  unfold jabsi
  rcases Nat.lt_or_ge p q with c | c
  · have : ¬ (0 : Int32) ≤ nI p - nI q := by
      rw [i_le, fb_subI (by rw [nI_toInt (by omega), nI_toInt (by omega)]; omega) (by rw [nI_toInt (by omega), nI_toInt (by omega)]; omega), nI_toInt (by omega), nI_toInt (by omega), show ((0 : Int32)).toInt = 0 by decide]
      omega
    rw [if_neg this, i_flip, nI_sub (by omega)]
    congr 1; omega
  · rw [nI_sub c, if_pos (nI_pos' (by omega))]
    congr 1; omega
def besB (W H a b : Nat) : Bool := decide (((a % W - b % W) + (b % W - a % W)) + ((a / W - b / W) + (b / W - a / W)) = 1) == adj W (W * H) a b
theorem k_besB : ∀ W, W < 6 → 2 ≤ W → ∀ H, H < 6 → ∀ a, a < W * H → ∀ b, b < W * H → besB W H a b = true := by decide +kernel
theorem p_areBeside {w : St} {W H : Nat} (hG : geoR w W H) {a b : Nat} (ha : a < W * H) (hb : b < W * H) : f_X12_areBeside w (nI a) (nI b) = some (b2 (adj W (W * H) a b), w) := by
  obtain ⟨hg, e22, e23⟩ := hG
  have hs := sz25 hg
  have dW : ∀ c : Option (Int32 × St), oD (nI W) c = c := fun c => if_neg (nI_ne0 (by omega) (by omega))
  have kb := k_besB W (by omega) hg.1 H (by omega) a ha b hb
  unfold besB at kb
  rw [beq_iff_eq] at kb
  have m1 := Nat.mod_lt a (show 0 < W by omega)
  have m2 := Nat.mod_lt b (show 0 < W by omega)
  have l1 := Nat.div_le_self a W
  have l2 := Nat.div_le_self b W
  unfold f_X12_areBeside F_X12_areBeside_0 F_X12_areBeside_42
  rw [e22, dW, dW, dW, dW, remN (by omega) (by omega), remN (by omega) (by omega), divN (by omega) (by omega), divN (by omega) (by omega), jabsN (by omega) (by omega), jabsN (by omega) (by omega), nI_add, ← kb]
  have lt : ((a % W - b % W) + (b % W - a % W)) + ((a / W - b / W) + (b / W - a / W)) < 2147483648 := by
    generalize a / W = p1 at *
    generalize b / W = p2 at *
    generalize a % W = p3 at *
    generalize b % W = p4 at *
    omega
  by_cases c : ((a % W - b % W) + (b % W - a % W)) + ((a / W - b / W) + (b / W - a / W)) = 1
  · rw [c, decide_eq_true rfl]
    have q : nI 1 = (1 : Int32) := rfl
    rw [if_pos q, oC_s]; exact oZ_1 _
  · have q : ¬ nI (((a % W - b % W) + (b % W - a % W)) + ((a / W - b / W) + (b / W - a / W))) = (1 : Int32) := fun e => c ((nI_eq (b := 1) lt (by omega)).mp e)
    rw [if_neg q, decide_eq_false c, oC_s]; exact oZ_0 _
theorem st_le {W n : Nat} {h : Int32} {u : Nat} : ∀ m, m ≤ 99 → stF W n h u m ≤ 99
  | 0, _ => Nat.le_refl _
  | m + 1, hm => by
    show (if _ then _ else _) ≤ 99
    split
    · omega
    · exact st_le m (by omega)
/-- the homes of a side by the line x: those of side 0, of side 1 -/
def hmS (W H : Nat) (x : Int32) (s : Nat) : Int32 := if s = 0 then x else nI (2 ^ (W * H) - 1) &&& (x ^^^ (-1 : Int32))
theorem hm_bl {W H : Nat} (hg : 2 ≤ W ∧ W ≤ 5 ∧ 2 ≤ H ∧ H ≤ 5) {x : Int32} (hx : bl x (W * H)) (s : Nat) : bl (hmS W H x s) (W * H) := by
  have hs := sz25 hg
  unfold hmS
  split
  · exact hx
  · intro i hi
    rcases Nat.lt_or_ge i 32 with q | q
    · rw [b_and, bt_nI q, Nat.testBit_two_pow_sub_one, decide_eq_false (by omega)]; rfl
    · exact b_big q
def pcP (W H : Nat) (x : Int32) (t : Nat) (g : Nat → Int32) : Prop := ∀ s, s < t → ∀ u, u < W * H → g (2 * u + s) = nI (stN W (W * H) (hmS W H x s) u)
theorem p_paces {w : St} {W H : Nat} (hG : geoR w W H) {x : Int32} (hx : bl x (W * H)) : ∃ g, f_X12_paces w x = some (sA w 29 g) ∧ pcP W H x 2 g := by
  obtain ⟨hg, e22, e23⟩ := id hG
  have hs := sz25 hg
  have gq : ∀ g, geoR (sA w 29 g) W H := fun g => hG
  unfold f_X12_paces F_X12_paces_0
  rw [oL_s]
  have key := loop_i (fun k s (g : Nat → Int32) => ∃ g', F_X12_paces_2 k (sA w 29 g) x (nI s) = some (sA w 29 g') ∧ pcP W H x 2 g') (fun s g => pcP W H x s g) 2 ?_ ?_ 100000 0 (w.2.1 29) (Nat.zero_le _) (by omega) (fun s hs => absurd hs (Nat.not_lt_zero s))
  · rw [sA_same] at key; exact key
  · intro k g hgp
    refine ⟨g, ?_, hgp⟩
    show F_X12_paces_2_b _ (sA w 29 g) x (nI 2) = _
    unfold F_X12_paces_2_b
    have q : (2 : Int32) ≤ nI 2 := Int32.le_refl _
    rw [if_pos q]
  · intro k s g hs2 hgp K
    show ∃ g', F_X12_paces_2_b (F_X12_paces_2 k) (sA w 29 g) x (nI s) = _ ∧ _
    have q2 : ¬ (2 : Int32) ≤ nI s := nI_ge (b := 2) hs2 (by omega)
    have e2 : ∀ u, ((2 : Int32) * nI u) + nI s = nI (2 * u + s) := fun u => by rw [show (2 : Int32) = nI 2 from rfl, mulN, nI_add]
    have hh := hm_bl hg hx s
    have main : ∃ g', F_X12_paces_23 (F_X12_paces_2 k) (sA w 29 g) x (nI s) (hmS W H x s) = some (sA w 29 g') ∧ pcP W H x 2 g' := by
      unfold F_X12_paces_23
      rw [oL_s]
      refine loop_i (fun k1 i (g : Nat → Int32) => ∃ g', F_X12_paces_27 (F_X12_paces_2 k) k1 (sA w 29 g) x (nI s) (hmS W H x s) (nI i) = some (sA w 29 g') ∧ pcP W H x 2 g') (fun i g => pcP W H x s g ∧ ∀ u, u < i → g (2 * u + s) = nI (stF W (W * H) (hmS W H x s) u 1)) (W * H) ?_ ?_ 100000 0 g (Nat.zero_le _) (by omega) ⟨hgp, fun u hu => absurd hu (Nat.not_lt_zero u)⟩
      · rintro k1 g ⟨g1, g2⟩
        show ∃ g', F_X12_paces_27_b _ _ (sA w 29 g) x (nI s) (hmS W H x s) (nI (W * H)) = _ ∧ _
        unfold F_X12_paces_27_b
        simp only [p_cells, oC_s, oL_s, (gq g).2.1, (gq g).2.2, mulN]
        rw [if_pos (Int32.le_refl _)]
        -- n from 1 to 9
        refine loop_i (fun k2 j (g : Nat → Int32) => ∃ g', F_X12_paces_72 (F_X12_paces_2 k) k2 (sA w 29 g) x (nI s) (nrs W (W * H) (hmS W H x s) j) (nI (j + 1)) = some (sA w 29 g') ∧ pcP W H x 2 g') (fun j g => pcP W H x s g ∧ ∀ u, u < W * H → g (2 * u + s) = nI (stF W (W * H) (hmS W H x s) u (j + 1))) 9 ?_ ?_ 100000 0 g (Nat.zero_le _) (by omega) ⟨g1, g2⟩
        · rintro k2 g ⟨g1, g2⟩
          show ∃ g', F_X12_paces_72_b _ _ (sA w 29 g) x (nI s) _ (nI 10) = _ ∧ _
          unfold F_X12_paces_72_b
          have q : (10 : Int32) ≤ nI 10 := Int32.le_refl _
          rw [if_pos q, oL_s, nI_1]
          refine K g (fun s' hs' u hu => ?_)
          by_cases e : s' = s
          · subst e; exact g2 u hu
          · exact g1 s' (by omega) u hu
        · rintro k2 j g hj ⟨g1, g2⟩ K2
          show ∃ g', F_X12_paces_72_b _ (F_X12_paces_72 (F_X12_paces_2 k) k2) (sA w 29 g) x (nI s) _ (nI (j + 1)) = _ ∧ _
          unfold F_X12_paces_72_b
          have q : ¬ (10 : Int32) ≤ nI (j + 1) := nI_ge (b := 10) (by omega) (by omega)
          rw [if_neg q, p_around (gq g)]
          simp only [oC_s, oL_s]
          have en : nrs W (W * H) (hmS W H x s) j ||| arnd W (W * H) (nrs W (W * H) (hmS W H x s) j) = nrs W (W * H) (hmS W H x s) (j + 1) := rfl
          rw [en]
          refine loop_i (fun k3 v (g : Nat → Int32) => ∃ g', F_X12_paces_91 (F_X12_paces_2 k) (F_X12_paces_72 (F_X12_paces_2 k) k2) k3 (sA w 29 g) x (nI s) (nrs W (W * H) (hmS W H x s) j) (nI (j + 1)) (nrs W (W * H) (hmS W H x s) (j + 1)) (nI v) = some (sA w 29 g') ∧ pcP W H x 2 g') (fun v g => pcP W H x s g ∧ (∀ u, u < v → g (2 * u + s) = nI (stF W (W * H) (hmS W H x s) u (j + 1 + 1))) ∧ ∀ u, v ≤ u → u < W * H → g (2 * u + s) = nI (stF W (W * H) (hmS W H x s) u (j + 1))) (W * H) ?_ ?_ 100000 0 g (Nat.zero_le _) (by omega) ⟨g1, fun u hu => absurd hu (Nat.not_lt_zero u), fun u _ hu => g2 u hu⟩
          · rintro k3 g ⟨g1, g2, g3⟩
            show ∃ g', F_X12_paces_91_b _ _ _ (sA w 29 g) x (nI s) _ (nI (j + 1)) _ (nI (W * H)) = _ ∧ _
            unfold F_X12_paces_91_b F_X12_paces_156
            simp only [p_cells, oC_s, oL_s, (gq g).2.1, (gq g).2.2, mulN, nI_1]
            rw [if_pos (Int32.le_refl _)]
            have e0 : nrs W (W * H) (hmS W H x s) j = 0 → (0 : Int32) = nrs W (W * H) (hmS W H x s) (j + 1) := by
              intro e
              show _ = nrs W (W * H) (hmS W H x s) j ||| arnd W (W * H) (nrs W (W * H) (hmS W H x s) j)
              rw [e, arnd_0 hg]; rfl
            by_cases c : nrs W (W * H) (hmS W H x s) j = 0
            · rw [if_pos c, e0 c]; exact K2 g ⟨g1, g2⟩
            · rw [if_neg c]; exact K2 g ⟨g1, g2⟩
          · rintro k3 v g hv ⟨g1, g2, g3⟩ K3
            show ∃ g', F_X12_paces_91_b _ _ (F_X12_paces_91 (F_X12_paces_2 k) (F_X12_paces_72 (F_X12_paces_2 k) k2) k3) (sA w 29 g) x (nI s) _ (nI (j + 1)) _ (nI v) = _ ∧ _
            have hin : vp_in (nI (2 * v + s)) 50 := vp_in_nI (by omega) (by omega)
            unfold F_X12_paces_91_b F_X12_paces_140
            simp only [p_cells, oC_s, oL_s, (gq g).2.1, (gq g).2.2, mulN, nI_1, e2, oA_in _ hin, nI_clamp (show 2 * v + s < 2 ^ 31 by omega), sA_eq, sA_sA, g3 v (Nat.le_refl _) hv]
            rw [if_neg (nI_ge hv (by omega)), b_testN _ (show v < 32 by omega)]
            have sl := st_le (W := W) (n := W * H) (h := hmS W H x s) (u := v) (j + 1) (by omega)
            have nxt : stF W (W * H) (hmS W H x s) v (j + 1 + 1) = if stF W (W * H) (hmS W H x s) v (j + 1) = 99 ∧ bt (nrs W (W * H) (hmS W H x s) (j + 1)) v = true then j + 1 else stF W (W * H) (hmS W H x s) v (j + 1) := rfl
            have stay : ¬ (stF W (W * H) (hmS W H x s) v (j + 1) = 99 ∧ bt (nrs W (W * H) (hmS W H x s) (j + 1)) v = true) → ∃ g', F_X12_paces_91 (F_X12_paces_2 k) (F_X12_paces_72 (F_X12_paces_2 k) k2) k3 (sA w 29 g) x (nI s) (nrs W (W * H) (hmS W H x s) j) (nI (j + 1)) (nrs W (W * H) (hmS W H x s) (j + 1)) (nI (v + 1)) = some (sA w 29 g') ∧ pcP W H x 2 g' := by
              intro no
              rw [if_neg no] at nxt
              refine K3 g ⟨g1, fun u hu => ?_, fun u h1 h2 => g3 u (by omega) h2⟩
              by_cases e : u = v
              · subst e; rw [nxt]; exact g3 u (Nat.le_refl _) hv
              · exact g2 u (by omega)
            cases hb : bt (nrs W (W * H) (hmS W H x s) (j + 1)) v
            · have nb : ¬ nI (b1 false) = (1 : Int32) := by decide
              rw [if_neg nb]
              exact stay (fun q => by rw [hb] at q; cases q.2)
            · have nb : nI (b1 true) = (1 : Int32) := by decide
              rw [if_pos nb]
              by_cases c : stF W (W * H) (hmS W H x s) v (j + 1) = 99
              · have c' : nI (stF W (W * H) (hmS W H x s) v (j + 1)) = (99 : Int32) := by rw [c]; rfl
                rw [if_pos c']
                rw [if_pos ⟨c, hb⟩] at nxt
                refine K3 _ ⟨fun s' hs' u hu => ?_, fun u hu => ?_, fun u h1 h2 => ?_⟩
                · rw [upd_i, if_neg (by omega)]; exact g1 s' hs' u hu
                · by_cases e : u = v
                  · subst e; rw [upd_i, if_pos rfl, nxt]
                  · rw [upd_i, if_neg (by omega)]; exact g2 u (by omega)
                · rw [upd_i, if_neg (by omega)]; exact g3 u (by omega) h2
              · have c' : ¬ nI (stF W (W * H) (hmS W H x s) v (j + 1)) = (99 : Int32) := fun e => c ((nI_eq (b := 99) (by omega) (by omega)).mp e)
                rw [if_neg c']
                exact stay (fun q => c q.1)
      · rintro k1 i g hi ⟨g1, g2⟩ K1
        show ∃ g', F_X12_paces_27_b _ (F_X12_paces_27 (F_X12_paces_2 k) k1) (sA w 29 g) x (nI s) (hmS W H x s) (nI i) = _ ∧ _
        have hin : vp_in (nI (2 * i + s)) 50 := vp_in_nI (by omega) (by omega)
        unfold F_X12_paces_27_b F_X12_paces_62
        simp only [p_cells, oC_s, oL_s, (gq g).2.1, (gq g).2.2, mulN, nI_1, e2, oA_in _ hin, nI_clamp (show 2 * i + s < 2 ^ 31 by omega), sA_eq, sA_sA]
        rw [if_neg (nI_ge hi (by omega)), b_testN _ (show i < 32 by omega)]
        have one : stF W (W * H) (hmS W H x s) i 1 = if bt (hmS W H x s) i = true then 0 else 99 := by
          by_cases c : bt (hmS W H x s) i = true
          · rw [if_pos c]; exact if_pos ⟨rfl, c⟩
          · rw [if_neg c]; exact if_neg (fun q => c q.2)
        have go : ∀ y, y = nI (stF W (W * H) (hmS W H x s) i 1) → ∃ g', F_X12_paces_27 (F_X12_paces_2 k) k1 (sA w 29 (upd g (2 * i + s) y)) x (nI s) (hmS W H x s) (nI (i + 1)) = some (sA w 29 g') ∧ pcP W H x 2 g' := by
          intro y hy
          refine K1 _ ⟨fun s' hs' u hu => ?_, fun u hu => ?_⟩
          · rw [upd_i, if_neg (by omega)]; exact g1 s' hs' u hu
          · by_cases e : u = i
            · subst e; rw [upd_i, if_pos rfl]; exact hy
            · rw [upd_i, if_neg (by omega)]; exact g2 u (by omega)
        cases hb : bt (hmS W H x s) i
        · have nb : ¬ nI (b1 false) = (1 : Int32) := by decide
          rw [hb, if_neg (by decide)] at one
          rw [if_neg nb]; exact go _ (by rw [one]; rfl)
        · have nb : nI (b1 true) = (1 : Int32) := by decide
          rw [hb, if_pos rfl] at one
          rw [if_pos nb]; exact go _ (by rw [one]; rfl)
    unfold F_X12_paces_2_b
    rw [if_neg q2]
    rcases (show s = 0 ∨ s = 1 by omega) with rfl | rfl
    · have c : nI 0 = (0 : Int32) := rfl
      rw [if_pos c]; exact main
    · have c : ¬ nI 1 = (0 : Int32) := by decide
      rw [if_neg c, p_allR (gq g)]
      simp only [oC_s, oL_s]
      exact main
theorem p_goal {w : St} {W H : Nat} (hG : geoR w W H) {h : Int32} {s : Nat} (hs2 : s < 2) (hst : ∀ u, u < W * H → w.2.1 29 (2 * u + s) = nI (stN W (W * H) h u)) {v : Nat} (hv : v < W * H) : ∃ g, isG W (W * H) h v g ∧ f_X12_goal w (nI v) (nI s) = some (nI g, w) := by
  have hg := hG.1
  have hs := sz25 hg
  have nb : ∃ u, u < W * H ∧ adj W (W * H) v u = true := by
    have : ∀ W, W < 6 → 2 ≤ W → ∀ H, H < 6 → 2 ≤ H → ∀ v, v < W * H → ∃ u, u < W * H ∧ adj W (W * H) v u = true := by decide +kernel
    exact this W (by omega) hg.1 H (by omega) hg.2.2.1 v hv
  have sb : ∀ u, stN W (W * H) h u ≤ 99 := fun u => st_le 10 (by omega)
  have e2 : ∀ u, ((2 : Int32) * nI u) + nI s = nI (2 * u + s) := fun u => by rw [show (2 : Int32) = nI 2 from rfl, mulN, nI_add]
  unfold f_X12_goal F_X12_goal_0
  simp only [oL_s]
  refine loop_i (fun k i (x : Int32) => ∃ g, isG W (W * H) h v g ∧ F_X12_goal_5 k w (nI v) (nI s) x (nI i) = some (nI g, w)) (fun i x => (x = -1 ∧ ∀ u, u < i → adj W (W * H) v u = false) ∨ ∃ b, b < i ∧ x = nI b ∧ adj W (W * H) v b = true ∧ ∀ u, u < i → adj W (W * H) v u = true → stN W (W * H) h b ≤ stN W (W * H) h u ∧ (stN W (W * H) h u = stN W (W * H) h b → b ≤ u)) (W * H) ?_ ?_ 100000 0 (-1) (Nat.zero_le _) (by omega) (Or.inl ⟨rfl, fun u hu => absurd hu (Nat.not_lt_zero u)⟩)
  · intro k x hI
    obtain ⟨u, hu, ha⟩ := nb
    rcases hI with ⟨_, no⟩ | ⟨b, hb, rfl, hab, hmin⟩
    · rw [no u hu] at ha; cases ha
    · refine ⟨b, ⟨hb, hab, hmin⟩, ?_⟩
      show F_X12_goal_5_b _ w (nI v) (nI s) (nI b) (nI (W * H)) = _
      unfold F_X12_goal_5_b
      simp only [p_cells, oC_s, oL_s, hG.2.1, hG.2.2, mulN]
      rw [if_pos (Int32.le_refl _)]
  · intro k i x hi hI K
    show ∃ g, _ ∧ F_X12_goal_5_b (F_X12_goal_5 k) w (nI v) (nI s) x (nI i) = _
    unfold F_X12_goal_5_b F_X12_goal_53 F_X12_goal_56
    simp only [p_cells, oC_s, oL_s, hG.2.1, hG.2.2, mulN]
    rw [if_neg (nI_ge hi (by omega)), p_areBeside hG hi hv, k_sym W (by omega) hg.1 (W * H) (by omega) i hi v hv]
    simp only [oC_s, b2_0, nI_1]
    cases ha : adj W (W * H) v i
    · rw [if_pos rfl]
      refine K x ?_
      rcases hI with ⟨e, no⟩ | ⟨b, hb, e, hab, hmin⟩
      · refine Or.inl ⟨e, fun u hu => ?_⟩
        by_cases c : u = i
        · rw [c]; exact ha
        · exact no u (by omega)
      · refine Or.inr ⟨b, by omega, e, hab, fun u hu hau => ?_⟩
        by_cases c : u = i
        · rw [c, ha] at hau; cases hau
        · exact hmin u (by omega) hau
    · rw [if_neg (by decide)]
      rcases hI with ⟨e, no⟩ | ⟨b, hb, e, hab, hmin⟩
      · rw [if_pos e]
        refine K (nI i) (Or.inr ⟨i, by omega, rfl, ha, fun u hu hau => ?_⟩)
        by_cases c : u = i
        · subst c; exact ⟨Nat.le_refl _, fun _ => Nat.le_refl _⟩
        · rw [no u (by omega)] at hau; cases hau
      · subst e
        have n1' : ¬ nI b = (-1 : Int32) := by
          intro e
          have := congrArg Int32.toInt e
          rw [nI_toInt (by omega), show ((-1 : Int32)).toInt = -1 by decide] at this
          omega
        have b1' := sb b
        have b2' := sb i
        rw [if_neg n1', e2, e2, oA_in _ (vp_in_nI (show 2 * i + s < 50 by omega) (by omega)), oA_in _ (vp_in_nI (show 2 * b + s < 50 by omega) (by omega)), nI_clamp (by omega), nI_clamp (by omega), hst b (by omega), hst i hi]
        by_cases c : stN W (W * H) h b ≤ stN W (W * H) h i
        · rw [if_pos (nI_le c (by omega))]
          refine K (nI b) (Or.inr ⟨b, by omega, rfl, hab, fun u hu hau => ?_⟩)
          by_cases cu : u = i
          · subst cu; exact ⟨c, fun _ => by omega⟩
          · exact hmin u (by omega) hau
        · rw [if_neg (nI_ge (by omega) (by omega))]
          refine K (nI i) (Or.inr ⟨i, by omega, rfl, ha, fun u hu hau => ?_⟩)
          by_cases cu : u = i
          · subst cu; exact ⟨Nat.le_refl _, fun _ => Nat.le_refl _⟩
          · obtain ⟨m1, m2⟩ := hmin u (by omega) hau
            exact ⟨by omega, fun e => by omega⟩
