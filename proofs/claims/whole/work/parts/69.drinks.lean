/-! PURE: who drinks; the tape is fed -/
theorem ct_list (c : Nat → Nat) (s : Nat → Bool) : ∀ k, (∀ j, j < k → c j < 32) → (∀ j j', j < j' → j' < k → c j ≠ c j') → ∀ p : Nat → Bool, (∀ v, v < 32 → (p v = true ↔ ∃ j, j < k ∧ c j = v)) → fb_ct (fun v => p v && s v) 32 = fb_ct (fun j => s (c j)) k
  | 0, _, _, p, hp => by
    show _ = 0
    rw [fb_ct_zero]
    intro v hv
    cases h : p v with
    | false => rfl
    | true => obtain ⟨j, hj, _⟩ := (hp v hv).mp h; omega
  | k + 1, h1, h2, p, hp => by
    have ih := ct_list c s k (fun j hj => h1 j (by omega)) (fun j j' a b => h2 j j' a (by omega)) (fun v => p v && !decide (v = c k)) ?_
    · rw [fb_ct_succ (fun j => s (c j)) k, ← ih]
      have u := fb_ct_upd (fun v => (p v && !decide (v = c k)) && s v) (s (c k)) (h1 k (by omega))
      simp only [decide_true, Bool.not_true, Bool.and_false, Bool.false_and, Bool.false_eq_true, ↓reduceIte, Nat.add_zero] at u
      rw [← u]
      apply fb_ct_cong
      intro v hv
      by_cases e : v = c k
      · rw [if_pos e, e, (hp (c k) (h1 k (by omega))).mpr ⟨k, by omega, rfl⟩, Bool.true_and]
      · rw [if_neg e, decide_eq_false e, Bool.not_false, Bool.and_true]
    · intro v hv
      show (p v && !decide (v = c k)) = true ↔ _
      rw [Bool.and_eq_true, hp v hv, Bool.not_eq_true', decide_eq_false_iff_not]
      constructor
      · rintro ⟨⟨j, hj, e⟩, ne⟩
        refine ⟨j, ?_, e⟩
        rcases Nat.lt_or_ge j k with q | q
        · exact q
        · exact absurd (by rw [← e, show j = k by omega]) ne
      · rintro ⟨j, hj, e⟩
        exact ⟨⟨j, by omega, e⟩, fun q => h2 j k hj (by omega) (by rw [e, q])⟩
theorem pc_set {x : Int32} {v : Nat} (hv : v < 32) (h : bt x v = false) : pc (x ||| nI (2 ^ v)) = pc x + 1 := by
  have u := fb_ct_upd (bt x) true hv
  rw [h, if_neg (by decide), if_pos rfl, Nat.add_zero] at u
  unfold pc
  rw [← u]
  apply fb_ct_cong
  intro i hi
  rw [bt_set hv]
  by_cases e : i = v
  · rw [if_pos e, decide_eq_true e, Bool.or_true]
  · rw [if_neg e, decide_eq_false e, Bool.or_false]
/-- who drinks of a canal, counted in a set -/
theorem can_ct {z w : St} {n i k : Nat} (hn : n ≤ 25) (h : canOK z w n i k) (s : Int32) : pc (z.2.1 10 i &&& s) = fb_ct (fun j => bt s (w.2.1 11 (6 * i + (j + 1))).toNatClampNeg) k := by
  obtain ⟨x1, x2, x3, x4, x5⟩ := h
  have ec : ∀ j, j < k → (w.2.1 11 (6 * i + (j + 1))).toNatClampNeg < 32 ∧ w.2.1 11 (6 * i + (j + 1)) = nI (w.2.1 11 (6 * i + (j + 1))).toNatClampNeg := by
    intro j hj
    obtain ⟨v, hv, e⟩ := x3 (j + 1) (by omega)
    rw [e, nI_clamp (by omega)]
    exact ⟨by omega, rfl⟩
  have := ct_list (fun j => (w.2.1 11 (6 * i + (j + 1))).toNatClampNeg) (bt s) k (fun j hj => (ec j hj).1) ?_ (bt (z.2.1 10 i)) ?_
  · unfold pc
    rw [← this]
    apply fb_ct_cong
    intro v hv
    rw [b_and]
  · intro j j' a b e
    refine x4 (j + 1) (j' + 1) (by omega) (by omega) ?_
    rw [(ec j (by omega)).2, (ec j' b).2]
    show nI _ = nI _
    rw [e]
  · intro v hv
    rw [x5 v hv]
    constructor
    · rintro ⟨j, hj, e⟩
      refine ⟨j, hj, ?_⟩
      show (w.2.1 11 (6 * i + (j + 1))).toNatClampNeg = v
      rw [e, nI_clamp (by omega)]
    · rintro ⟨j, hj, e⟩
      refine ⟨j, hj, ?_⟩
      rw [(ec j hj).2]
      exact congrArg nI e
theorem can_pc {z w : St} {n i k : Nat} (hn : n ≤ 25) (h : canOK z w n i k) : pc (z.2.1 10 i) = k := by
  have := can_ct hn h (-1)
  have e : z.2.1 10 i &&& (-1 : Int32) = z.2.1 10 i := by
    apply b_ext; intro v hv; rw [b_and, b_m1 v hv, Bool.and_true]
  rw [e] at this
  rw [this, fb_ct_all]
  intro j hj
  obtain ⟨v, hv, e⟩ := h.2.2.1 (j + 1) (by omega)
  rw [e, nI_clamp (by omega)]
  exact b_m1 v (by omega)
theorem drk_R {w : St} {n i k v : Nat} (hi : i < 6) (hk : k < 5) (e1 : w.2.1 12 i = nI k) : ((∃ j, j < k + 1 ∧ w.2.1 11 (6 * i + j) = nI v) ∧ F_X12_drinks_39 100000 w (nI i) (nI v) 0 = some (-1, w)) ∨ ((∀ j, j < k + 1 → ¬ w.2.1 11 (6 * i + j) = nI v) ∧ F_X12_drinks_39 100000 w (nI i) (nI v) 0 = some (nI (k + 1), sA (sA w 12 (upd (w.2.1 12) i (nI (k + 1)))) 11 (upd (w.2.1 11) (6 * i + (k + 1)) (nI v)))) := by
  have hin : vp_in (nI i) 6 := vp_in_nI hi (by omega)
  have e6 : ∀ j, (6 : Int32) * nI i + nI j = nI (6 * i + j) := fun j => by rw [show (6 : Int32) = nI 6 from rfl, mulN, nI_add]
  refine lp_find (fun n j => F_X12_drinks_39 n w (nI i) (nI v) (nI j)) (fun j => w.2.1 11 (6 * i + j) = nI v) (k + 1) _ _ ?_ ?_ ?_ 100000 (by omega)
  · intro n
    show F_X12_drinks_39_b _ w (nI i) (nI v) (nI (k + 1)) = _
    unfold F_X12_drinks_39_b
    simp only [oA_in _ hin, nI_clamp (show i < 2 ^ 31 by omega), e1, oL_s, sA_a, ↓reduceIte, Nat.reduceEqDiff, pk_us, nI_1, e6]
    rw [if_pos (nI_lt (by omega) (by omega)), oA_in _ (vp_in_nI (show 6 * i + (k + 1) < 36 by omega) (by omega)), nI_clamp (by omega)]
  · intro n j hj hp
    show F_X12_drinks_39_b _ w (nI i) (nI v) (nI j) = _
    unfold F_X12_drinks_39_b
    simp only [oA_in _ hin, nI_clamp (show i < 2 ^ 31 by omega), e1, e6]
    rw [if_neg (nI_nlt (by omega) (by omega)), oA_in _ (vp_in_nI (show 6 * i + j < 36 by omega) (by omega)), nI_clamp (by omega), if_pos hp]
  · intro n j hj hp
    show F_X12_drinks_39_b _ w (nI i) (nI v) (nI j) = F_X12_drinks_39 n w (nI i) (nI v) (nI (j + 1))
    unfold F_X12_drinks_39_b
    simp only [oA_in _ hin, nI_clamp (show i < 2 ^ 31 by omega), e1, e6]
    rw [if_neg (nI_nlt (by omega) (by omega)), oA_in _ (vp_in_nI (show 6 * i + j < 36 by omega) (by omega)), nI_clamp (by omega), if_neg hp, oL_s, nI_1]
theorem q_drinks {z w : St} (h : Inv z w) (x1 x2 : Int32) : Ok (f_X11_drinks z x1 x2) (f_X12_drinks w x1 x2) := by
  have h' := h
  obtain ⟨W, H, hDy, hL, hV, ⟨c, hc, c1, c2, hh, hC⟩, hN, hE, hD, hK, hT, hF, hR⟩ := h
  have hs := sz25 hL.1
  have k2 : (sI w 0 0).1 24 = nI c := c2
  unfold f_X11_drinks F_X11_drinks_0 F_X11_drinks_26 f_X12_drinks F_X12_drinks_0 F_X12_drinks_35
  simp only [oL_s, c1, k2]
  by_cases a1 : x1 < 0
  · rw [if_pos a1, if_pos a1]; exact ⟨-1, _, _, rfl, rfl, Inv_0 h'⟩
  rw [if_neg a1, if_neg a1]
  obtain ⟨i, hi0, rfl⟩ := nI_of a1
  by_cases a2 : nI c ≤ nI i
  · rw [if_pos a2, if_pos a2]; exact ⟨-1, _, _, rfl, rfl, Inv_0 h'⟩
  rw [if_neg a2, if_neg a2]
  have hi : i < c := by rcases Nat.lt_or_ge i c with q | q; exact q; exact absurd (nI_le q hi0) a2
  rcases c_vil (w := sI w 0 0) hL x2 with ⟨g1, g2⟩ | ⟨v, hv, rfl, g1, g2⟩
  · simp only [g1, g2, oC_s, ↓reduceIte]
    exact ⟨-1, _, _, rfl, rfl, Inv_0 h'⟩
  obtain ⟨k, hk, ok⟩ := hC i hi
  have okc := ok
  obtain ⟨y1, y2, y3, y4, y5⟩ := ok
  have epc := can_pc hs.2 okc
  obtain ⟨hd, hhd, ehd⟩ := y3 0 (by omega)
  rw [Nat.add_zero] at ehd
  have hin : vp_in (nI i) 6 := vp_in_nI (by omega) (by omega)
  have e12 : (sI w 0 0).2.1 12 i = nI k := y1
  have tst : ((z.2.1 10 i ||| ((1 : Int32) <<< (z.2.1 9 i &&& 31))) >>> (nI v &&& 31)) &&& (1 : Int32) = 0 ↔ ¬ ∃ j, j < k + 1 ∧ w.2.1 11 (6 * i + j) = nI v := by
    rw [b_test0 _ (by omega), y2, ehd, shl1 (by omega), bt_set (by omega), ← Bool.not_eq_true, Bool.or_eq_true, y5 v (by omega), decide_eq_true_iff]
    apply not_congr
    constructor
    · rintro (⟨j, hj, e⟩ | e)
      · exact ⟨j + 1, by omega, e⟩
      · exact ⟨0, by omega, by rw [Nat.add_zero, ehd, e]⟩
    · rintro ⟨j, hj, e⟩
      cases j with
      | zero => right; rw [Nat.add_zero, ehd] at e; exact ((nI_eq (by omega) (by omega)).mp e).symm
      | succ j => exact Or.inl ⟨j, by omega, e⟩
  simp only [g1, g2, oC_s, i10, ↓reduceIte]
  unfold f_X4_lead F_X4_lead_0 F_X4_lead_37
  simp only [oA_in _ hin, oL_s, nI_clamp (show i < 2 ^ 31 by omega), p_bitCount, oC_s, e12, epc]
  by_cases q5 : k = 5
  · have e5 : nI k = (5 : Int32) := by rw [q5]; rfl
    have n5 : ¬ nI k < (5 : Int32) := nI_nlt (b := 5) (by omega) (by omega)
    rw [if_pos e5, if_neg n5]
    refine ⟨-1, z, _, ?_, rfl, Inv_0 h'⟩
    by_cases q : ((z.2.1 10 i ||| ((1 : Int32) <<< (z.2.1 9 i &&& 31))) >>> (nI v &&& 31)) &&& (1 : Int32) = 0
    · rw [if_pos q]; rfl
    · rw [if_neg q]; rfl
  · have e5 : ¬ nI k = (5 : Int32) := fun q => q5 ((nI_eq (b := 5) (by omega) (by omega)).mp q)
    have n5 : nI k < (5 : Int32) := nI_lt (b := 5) (by omega) (by omega)
    rw [if_neg e5, if_pos n5]
    rcases drk_R (n := W * H) (w := sI w 0 0) (v := v) (show i < 6 by omega) (show k < 5 by omega) e12 with ⟨p, g⟩ | ⟨p, g⟩
    · rw [if_neg (fun q => (tst.mp q) p), g]
      exact ⟨-1, _, _, rfl, rfl, Inv_0 h'⟩
    · have nv : bt (z.2.1 10 i) v = false := by
        rw [← Bool.not_eq_true, y5 v (by omega)]
        rintro ⟨j, hj, e⟩
        exact p (j + 1) (by omega) e
      rw [if_pos (tst.mpr (fun ⟨j, hj, e⟩ => p j hj e)), g, sA_eq, pk_us, shl1 (show v < 32 by omega), pc_set (by omega) nv, epc]
      refine ⟨nI (k + 1), _, _, rfl, rfl, W, H, hDy, hL, hV, ⟨c, hc, c1, c2, ?_, ?_⟩, hN, hE, hD, hK, hT, hF, hR⟩
      · intro u hu
        show bt (z.1 24) u = true ↔ ∃ i', i' < c ∧ upd (w.2.1 11) (6 * i + (k + 1)) (nI v) (6 * i') = nI u
        rw [hh u hu]
        constructor
        · rintro ⟨i', hi', e⟩; exact ⟨i', hi', by rw [pk_un (by omega)]; exact e⟩
        · rintro ⟨i', hi', e⟩; exact ⟨i', hi', by rw [pk_un (by omega)] at e; exact e⟩
      · intro i' hi'
        by_cases q : i' = i
        · subst q
          refine ⟨k + 1, by omega, ?_, ?_, ?_, ?_, ?_⟩
          · exact pk_us
          · show z.2.1 9 i' = upd (w.2.1 11) (6 * i' + (k + 1)) (nI v) (6 * i')
            rw [pk_un (by omega)]; exact y2
          · intro j hj
            show ∃ v', v' < W * H ∧ upd (w.2.1 11) (6 * i' + (k + 1)) (nI v) (6 * i' + j) = nI v'
            by_cases qj : j = k + 1
            · subst qj; exact ⟨v, hv, pk_us⟩
            · rw [pk_un (by omega)]; exact y3 j (by omega)
          · intro j j' l1 l2
            show upd (w.2.1 11) (6 * i' + (k + 1)) (nI v) (6 * i' + j) ≠ upd (w.2.1 11) (6 * i' + (k + 1)) (nI v) (6 * i' + j')
            rw [pk_un (show 6 * i' + j ≠ 6 * i' + (k + 1) by omega)]
            by_cases qj : j' = k + 1
            · subst qj; rw [pk_us]; exact p j (by omega)
            · rw [pk_un (by omega)]; exact y4 j j' l1 (by omega)
          · intro u hu
            show bt (upd (z.2.1 10) i' (z.2.1 10 i' ||| nI (2 ^ v)) i') u = true ↔ ∃ j, j < k + 1 ∧ upd (w.2.1 11) (6 * i' + (k + 1)) (nI v) (6 * i' + (j + 1)) = nI u
            rw [pk_us, bt_set (by omega), Bool.or_eq_true, y5 u hu, decide_eq_true_iff]
            constructor
            · rintro (⟨j, hj, e⟩ | e)
              · exact ⟨j, by omega, by rw [pk_un (by omega)]; exact e⟩
              · exact ⟨k, by omega, by rw [pk_us, e]⟩
            · rintro ⟨j, hj, e⟩
              by_cases qj : j = k
              · subst qj; rw [pk_us] at e; exact Or.inr ((nI_eq (by omega) (by omega)).mp e).symm
              · rw [pk_un (by omega)] at e; exact Or.inl ⟨j, by omega, e⟩
        · obtain ⟨k', hk', t1, t2, t3, t4, t5⟩ := hC i' hi'
          have nn : ∀ j, j ≤ 5 → upd (w.2.1 11) (6 * i + (k + 1)) (nI v) (6 * i' + j) = w.2.1 11 (6 * i' + j) := fun j hj => pk_un (by omega)
          refine ⟨k', hk', ?_, ?_, ?_, ?_, ?_⟩
          · show upd (w.2.1 12) i (nI (k + 1)) i' = _
            rw [pk_un q]; exact t1
          · show z.2.1 9 i' = upd (w.2.1 11) (6 * i + (k + 1)) (nI v) (6 * i')
            exact t2.trans (nn 0 (by omega)).symm
          · intro j hj
            show ∃ v', v' < W * H ∧ upd (w.2.1 11) (6 * i + (k + 1)) (nI v) (6 * i' + j) = nI v'
            rw [nn j (by omega)]; exact t3 j hj
          · intro j j' l1 l2
            show upd (w.2.1 11) (6 * i + (k + 1)) (nI v) (6 * i' + j) ≠ upd (w.2.1 11) (6 * i + (k + 1)) (nI v) (6 * i' + j')
            rw [nn j (by omega), nn j' (by omega)]; exact t4 j j' l1 l2
          · intro u hu
            show bt (upd (z.2.1 10) i (z.2.1 10 i ||| nI (2 ^ v)) i') u = true ↔ ∃ j, j < k' ∧ upd (w.2.1 11) (6 * i + (k + 1)) (nI v) (6 * i' + (j + 1)) = nI u
            rw [pk_un q, t5 u hu]
            constructor
            · rintro ⟨j, hj, e⟩; exact ⟨j, hj, by rw [nn _ (by omega)]; exact e⟩
            · rintro ⟨j, hj, e⟩; exact ⟨j, hj, by rw [nn _ (by omega)] at e; exact e⟩
