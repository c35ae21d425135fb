/-! PURE: who leaves a village on a day: the reference -/
def goP (W H : Nat) (x : Int32) (G : Nat → Option Nat) : Prop := ∀ v, v < W * H → (hmS W H x (wsd x v) = 0 ∧ G v = none) ∨ (hmS W H x (wsd x v) ≠ 0 ∧ ∃ u, isG W (W * H) (hmS W H x (wsd x v)) v u ∧ G v = some u)
def goI : Option Nat → Int32
  | none => -1
  | some u => nI u
theorem go_lt {W H : Nat} {x : Int32} {G : Nat → Option Nat} (h : goP W H x G) : ∀ v, v < W * H → ∀ u, G v = some u → u < W * H := by
  intro v hv u hu
  rcases h v hv with ⟨_, e⟩ | ⟨_, u', hg, e⟩
  · rw [e] at hu; cases hu
  · rw [e] at hu; cases hu; exact hg.1
theorem nI_nm1 {u : Nat} (hu : u < 2147483648) : ¬ nI u = (-1 : Int32) := by
  intro e
  have := congrArg Int32.toInt e
  rw [nI_toInt (by omega), show ((-1 : Int32)).toInt = -1 by decide] at this
  omega
theorem go_ex {W H : Nat} (hs : W * H ≤ 25) {x : Int32} {g : Nat → Int32} (h : aimP W H x (W * H) g) : ∃ G, goP W H x G ∧ ∀ v, v < W * H → g v = goI (G v) := by
  refine ⟨fun v => if g v = -1 then none else some (g v).toNatClampNeg, fun v hv => ?_, fun v hv => ?_⟩
  · rcases h v hv with ⟨c, e⟩ | ⟨c, u, hu, e⟩
    · left; exact ⟨c, if_pos e⟩
    · right
      have := hu.1
      refine ⟨c, u, hu, ?_⟩
      show (if g v = -1 then none else some (g v).toNatClampNeg) = _
      rw [e, if_neg (nI_nm1 (by omega)), nI_clamp (by omega)]
  · show _ = goI (if g v = -1 then none else some (g v).toNatClampNeg)
    rcases h v hv with ⟨c, e⟩ | ⟨c, u, hu, e⟩
    · rw [if_pos e]; exact e
    · have := hu.1
      rw [e, if_neg (nI_nm1 (by omega)), nI_clamp (by omega)]; rfl
theorem st_no {W H : Nat} (hg : 2 ≤ W ∧ W ≤ 5 ∧ 2 ≤ H ∧ H ≤ 5) (u : Nat) : stN W (W * H) 0 u = 99 := st_none 10 (fun k _ => by rw [nrs_0 hg, b_0])
theorem st_is {W H : Nat} (hg : 2 ≤ W ∧ W ≤ 5 ∧ 2 ≤ H ∧ H ≤ 5) {h : Int32} (hb : bl h (W * H)) (hne : h ≠ 0) {u : Nat} (hu : u < W * H) : stN W (W * H) h u ≤ 8 := by
  obtain ⟨ku, hku, hk1, hk2⟩ := fb_first (p := fun k => bt (nrs W (W * H) h k) u = true) (n := 9) ⟨8, by omega, nrs_all hg hb hne hu⟩
  have su : stN W (W * H) h u = ku := st_hit (by omega) hk1 (fun j hj => by simpa using hk2 j hj) 10 (by omega)
  omega
theorem shI {t a : Nat} (h : t * a + 99 < 2147483648) : (nI t * nI a + (99 : Int32)) / (100 : Int32) = nI (shr t a) := by
  rw [mulN, show (99 : Int32) = nI 99 from rfl, nI_add, show (100 : Int32) = nI 100 from rfl, divN h (by omega)]; rfl
theorem shB {t a : Nat} (ht : t ≤ 62450) (ha : a ≤ 100) : t * a + 99 < 2147483648 := by
  have : t * a ≤ 62450 * 100 := Nat.mul_le_mul ht ha
  omega
theorem stp_0 {x : Int32} {T0 : Nat → Nat} {a b : Nat} {gd : Int32} {G : Nat → Option Nat} {v : Nat} (h : outN x T0 a v = 0 ∨ G v = none) (T : Nat → Nat) : stpL x T0 a b gd G v = 0 ∧ ∀ k, stpT x T0 a b gd G v T k = T k := by
  unfold stpL stpT
  cases hg : G v with
  | none => exact ⟨rfl, fun _ => rfl⟩
  | some u =>
    have h0 : outN x T0 a v = 0 := h.resolve_right (fun q => by rw [hg] at q; cases q)
    have d0 : dlN gd b v 0 = 0 := by unfold dlN; split; rfl; exact shr_0 b
    show dlN gd b v _ = 0 ∧ ∀ k, set1 (set1 T _ _) _ _ k = _
    rw [h0, d0]
    have e1 : ∀ k, set1 T (2 * v + wsd x v) (T (2 * v + wsd x v) - 0) k = T k := by
      intro k
      rw [set1_i]
      split
      · rename_i e; rw [e]; rfl
      · rfl
    refine ⟨rfl, fun k => ?_⟩
    rw [set1_i]
    split
    · rename_i e; rw [e1, e]; rfl
    · exact e1 k
theorem p_leaves {w : St} {W H : Nat} (hG : geoR w W H) {x : Int32} (hx : bl x (W * H)) (h29 : pcP W H x 2 (w.2.1 29)) {G : Nat → Option Nat} (hgo : goP W H x G) {T0 T : Nat → Nat} {L a b v : Nat} (hv : v < W * H) (ea : w.2.1 3 4 = nI a) (eb : w.2.1 3 5 = nI b) (ha : a ≤ 100) (hb : b ≤ 100) (gd : Int32) (h27 : ∀ k, k < 2 * (W * H) → w.2.1 27 k = nI (T0 k)) (h28 : ∀ k, k < 2 * (W * H) → w.2.1 28 k = nI (T k)) (h30 : w.1 30 = nI L) (hT0 : T0 (2 * v + wsd x v) ≤ 62450) (hle : T0 (2 * v + wsd x v) ≤ T (2 * v + wsd x v)) :
    ∃ w', f_X12_leaves w (nI v) (nI (wsd x v)) gd = some w' ∧ fr [30] [28] w w' ∧ w'.1 30 = nI (L + stpL x T0 a b gd G v) ∧ ∀ k, k < 2 * (W * H) → w'.2.1 28 k = nI (stpT x T0 a b gd G v T k) := by
  have hg := hG.1
  have hs := sz25 hg
  have w1 := wsd_le x v
  have e2 : ∀ u, ((2 : Int32) * nI u) + nI (wsd x v) = nI (2 * u + wsd x v) := fun u => by rw [show (2 : Int32) = nI 2 from rfl, mulN, nI_add]
  have hin : ∀ u, u < W * H → vp_in (nI (2 * u + wsd x v)) 50 := fun u hu => vp_in_nI (by omega) (by omega)
  have h4 : vp_in (4 : Int32) 12 := vp_in_nI (show 4 < 12 by omega) (by omega)
  have h5 : vp_in (5 : Int32) 12 := vp_in_nI (show 5 < 12 by omega) (by omega)
  have c4 : Int32.toNatClampNeg (4 : Int32) = 4 := by decide
  have c5 : Int32.toNatClampNeg (5 : Int32) = 5 := by decide
  obtain ⟨g, hgG, eg⟩ := p_goal hG (s := wsd x v) (by omega) (fun u hu => h29 (wsd x v) (by omega) u hu) hv
  have m1 : outN x T0 a v ≤ T0 (2 * v + wsd x v) := shr_le ha
  have om : shr (T0 (2 * v + wsd x v)) a = outN x T0 a v := rfl
  have st := st_le (W := W) (n := W * H) (h := hmS W H x (wsd x v)) (u := v) 10 (by omega)
  unfold f_X12_leaves F_X12_leaves_0 F_X12_leaves_53
  rw [eg]
  simp only [oC_s, oL_s, e2, oA_in _ (hin v hv), oA_in _ h4, oA_in _ h5, c4, c5, oD100, nI_clamp (show 2 * v + wsd x v < 2 ^ 31 by omega), h27 _ (show 2 * v + wsd x v < 2 * (W * H) by omega), ea, eb, shI (shB hT0 ha), om, h29 (wsd x v) (by omega) v hv]
  have same : (outN x T0 a v = 0 ∨ G v = none) → ∃ w', some w = some w' ∧ fr [30] [28] w w' ∧ w'.1 30 = nI (L + stpL x T0 a b gd G v) ∧ ∀ k, k < 2 * (W * H) → w'.2.1 28 k = nI (stpT x T0 a b gd G v T k) := by
    intro h
    obtain ⟨s1, s2⟩ := stp_0 (b := b) (gd := gd) h T
    exact ⟨w, rfl, fr_0, by rw [s1]; exact h30, fun k hk => by rw [s2]; exact h28 k hk⟩
  by_cases c : outN x T0 a v = 0
  · have q : nI (outN x T0 a v) = (0 : Int32) := by rw [c]; rfl
    rw [if_pos q]; exact same (Or.inl c)
  · have q : ¬ nI (outN x T0 a v) = (0 : Int32) := fun e => c ((nI_eq (b := 0) (by omega) (by omega)).mp e)
    rw [if_neg q]
    rcases hgo v hv with ⟨z0, gn⟩ | ⟨z0, u, hu, gs⟩
    · have q : nI (stN W (W * H) (hmS W H x (wsd x v)) v) = (99 : Int32) := by rw [z0, st_no hg]; rfl
      rw [if_pos q]; exact same (Or.inr gn)
    · have s8 := st_is hg (hm_bl hg hx (wsd x v)) z0 hv
      have q : ¬ nI (stN W (W * H) (hmS W H x (wsd x v)) v) = (99 : Int32) := fun e => by
        have := (nI_eq (b := 99) (by omega) (by omega)).mp e
        omega
      rw [if_neg q]
      have eug := isG_one hu hgG
      subst eug
      have hun := hu.1
      have d1 := dl_le (gd := gd) (v := v) (m := outN x T0 a v) hb
      have main : ∀ y, y = nI (dlN gd b v (outN x T0 a v)) → ∃ w', F_X12_leaves_82 w (nI v) (nI (wsd x v)) (nI u) (nI (outN x T0 a v)) y = some w' ∧ fr [30] [28] w w' ∧ w'.1 30 = nI (L + stpL x T0 a b gd G v) ∧ ∀ k, k < 2 * (W * H) → w'.2.1 28 k = nI (stpT x T0 a b gd G v T k) := by
        rintro y rfl
        unfold F_X12_leaves_82
        simp only [oL_s, e2, oA_in _ (hin v hv), oA_in _ (hin u hun), nI_clamp (show 2 * v + wsd x v < 2 ^ 31 by omega), nI_clamp (show 2 * u + wsd x v < 2 ^ 31 by omega), sI_a, sA_eq]
        refine ⟨_, rfl, fr_A (fr_A (fr_I fr_0 (by decide)) (by decide)) (by decide), ?_, ?_⟩
        · unfold stpL
          rw [h30, gs, nI_add]
          exact sI_eq w 30 _
        · intro k hk
          rw [sA_eq]
          have hU : ∀ k, k < 2 * (W * H) → upd (w.2.1 28) (2 * v + wsd x v) (w.2.1 28 (2 * v + wsd x v) - nI (outN x T0 a v)) k = nI (set1 T (2 * v + wsd x v) (T (2 * v + wsd x v) - outN x T0 a v) k) := by
            intro k hk
            rw [upd_i, set1_i]
            split
            · rw [h28 _ (by omega), nI_sub (by omega)]
            · exact h28 k hk
          unfold stpT
          rw [gs]
          show _ = nI (set1 (set1 T _ _) _ _ k)
          rw [upd_i, set1_i]
          split
          · rw [hU _ (by omega), nI_sub d1, nI_add]
          · exact hU k hk
      rw [b_testN gd (show v < 32 by omega)]
      cases hbg : bt gd v
      · have nb : ¬ nI (b1 false) = (1 : Int32) := by decide
        rw [if_neg nb]
        refine main _ ?_
        rw [shI (shB (by omega) hb)]
        unfold dlN; rw [hbg]; rfl
      · have nb : nI (b1 true) = (1 : Int32) := by decide
        rw [if_pos nb]
        refine main _ ?_
        unfold dlN; rw [hbg]; rfl
