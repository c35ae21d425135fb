/-! PURE: best -/
theorem b1_eq {b : Bool} {i : Nat} (hi : i < 2) : b1 b = i ↔ b = decide (i = 1) := by
  rcases (show i = 0 ∨ i = 1 by omega) with e | e <;> subst e <;> cases b <;> decide
theorem tb_bt {n y : Nat} (hn : n ≤ 25) (hy : y < 2 ^ n) (u : Nat) : y.testBit u = bt (nI y) u := by
  rcases Nat.lt_or_ge u 32 with q | q
  · rw [bt_nI q]
  · rw [b_big q]
    exact Nat.testBit_lt_two_pow (Nat.lt_of_lt_of_le hy (Nat.pow_le_pow_right (by omega) (by omega)))
theorem p_choose {w : St} {P : Nat → Nat → Nat} {W H c f0 f1 f2 : Nat} (hn : W * H ≤ 16) (hc : c ≤ 6) (hP : ∀ v s, s < 2 → P v s ≤ 1249) (h0 : f0 ≤ 999) (h1 : f1 ≤ 999) (h2 : f2 ≤ 999) (hK : ∀ i, i < c → cKk w i ≤ 5) (hcn : cnOK w (W * H) c) : ∀ d v s x C B, v < d → v ≤ W * H → bcx w P W H c f0 f1 f2 s → bl x (W * H) → (∀ u, u < v → bt x u = false) → (∀ y, bl y (W * H) → (∀ u, v ≤ u → bt y u = bt x u) → gN w P W (W * H) c f0 f1 f2 y v = C) → s.1 33 = nI B → B ≤ 1000000000 → C + fb_sm (mnN w P f0) v < B → (v = 0 → pcs W (W * H) x ≤ 1 ∧ pcs W (W * H) (nI (2 ^ (W * H) - 1) &&& (x ^^^ (-1 : Int32))) ≤ 1) → ∃ s' B', f_X10_choose d s (nI v - 1) x (nI C) = some s' ∧ fr [32, 33] [] s s' ∧ bR (fun y => hmN w P W (W * H) c f0 f1 f2 (nI y)) (bS W (W * H) v x) B B' s s' := by
  intro d
  induction d with
  | zero => intro v s x C B hd; omega
  | succ d ih =>
    intro v s x C B hd hvn hs' bx low hC eB hB hlt hok
    have hsz := sz25 hs'.1.1
    show ∃ s' B', F_X10_choose_0 (f_X10_choose d) s (nI v - 1) x (nI C) = _ ∧ _
    cases v with
    | zero =>
      have q : ¬ (0 : Int32) ≤ nI 0 - 1 := by decide
      unfold F_X10_choose_0
      rw [if_neg q]
      simp only [oL_s]
      obtain ⟨y, hy, ex⟩ := bl_nI (by omega) bx
      subst ex
      have hh := hC (nI y) bx (fun _ _ => rfl)
      rw [gN_0 hcn] at hh
      have hlt' : C < B := by omega
      obtain ⟨o1, o2⟩ := hok rfl
      refine ⟨_, C, rfl, fr_I (fr_I fr_0 (by decide)) (by decide), rfl, by omega, Or.inl ⟨y, ⟨hy, o1, o2, fun _ _ => rfl⟩, ?_, hh.symm, rfl, ?_⟩⟩
      · show hmN w P W (W * H) c f0 f1 f2 (nI y) < B
        omega
      · rintro y' ⟨y1, _, _, y4⟩
        have e : y' = y := by
          apply Nat.eq_of_testBit_eq
          intro u
          rw [tb_bt hsz.2 y1, tb_bt hsz.2 hy]
          exact y4 u (Nat.zero_le _)
        subst e
        exact Or.inr ⟨hh.symm, Nat.le_refl _⟩
    | succ v =>
      have hv : v < W * H := by omega
      have q : (0 : Int32) ≤ nI v := nI_le (a := 0) (Nat.zero_le _) (by omega)
      have e1 : nI (v + 1) - 1 = nI v := nI_sub (b := 1) (by omega)
      have e2 : nI (2 ^ v) - (1 : Int32) = nI (2 ^ v - 1) := nI_sub (b := 1) Nat.one_le_two_pow
      have eop : ∀ u, bt (nI (2 ^ v - 1)) u = decide (u < v) := bt_allN (by omega)
      unfold F_X10_choose_0
      rw [e1, if_pos q]
      simp only [oL_s]
      rw [shl1 (by omega), e2]
      have xv := low v (by omega)
      refine loop_i (fun k i t => ∃ s' B', F_X10_choose_29 (f_X10_choose d) k t (nI v) x (nI C) (nI (2 ^ v)) (nI (2 ^ v - 1)) (nI i) = some s' ∧ fr [32, 33] [] s s' ∧ bR (fun y => hmN w P W (W * H) c f0 f1 f2 (nI y)) (bS W (W * H) (v + 1) x) B B' s s') (fun i t => fr [32, 33] [] s t ∧ ∃ B', bR (fun y => hmN w P W (W * H) c f0 f1 f2 (nI y)) (fun y => bS W (W * H) (v + 1) x y ∧ b1 (bt (nI y) v) < i) B B' s t) 2 ?_ ?_ 100000 0 s (Nat.zero_le _) (by omega) ⟨fr_0, B, bR_skip eB (fun y hy => absurd hy.2 (Nat.not_lt_zero _))⟩
      · rintro k t ⟨f1', B', r⟩
        refine ⟨t, B', ?_, f1', bR_cong (fun y => ?_) r⟩
        · show F_X10_choose_29_b _ _ t _ _ _ _ _ (nI 2) = _
          unfold F_X10_choose_29_b
          exact if_pos (Int32.le_refl _)
        · exact ⟨fun a => ⟨a, by have := b1_le (bt (nI y) v); omega⟩, fun a => a.1⟩
      · rintro k i t hi ⟨f1', B1, r⟩ K
        have ht := bcx_fr hs' f1'
        have eB1 : t.1 33 = nI B1 := r.1
        have hB1 : B1 ≤ B := r.2.1
        have all22 : ∀ u, bt (t.1 22) u = decide (u < W * H) := ht.1.2.2.2.1
        have go : ∀ t0 oth acr : Int32, (∀ u, bt t0 u = if u = v then decide (i = 1) else bt x u) → (∀ u, bt oth u = (decide (u < W * H) && (decide (v ≤ u) && !bt t0 u))) → (∀ u, u < W * H → bt acr u = (decide (v < u) && (bt t0 u ^^ bt t0 v))) → ∃ s' B', F_X10_choose_81 (f_X10_choose d) (F_X10_choose_29 (f_X10_choose d) k) t (nI v) x (nI C) (nI (2 ^ v)) (nI (2 ^ v - 1)) (nI i) t0 oth acr = some s' ∧ fr [32, 33] [] s s' ∧ bR (fun y => hmN w P W (W * H) c f0 f1 f2 (nI y)) (bS W (W * H) (v + 1) x) B B' s s' := by
          intro t0 oth acr ht0 hoth hacr
          have etv : bt t0 v = decide (i = 1) := by rw [ht0, if_pos rfl]
          have enx : ∀ u, u ≠ v → bt t0 u = bt x u := fun u hu => by rw [ht0, if_neg hu]
          obtain ⟨t', B2, g1, g2, g3⟩ := p_ch81 hn hc hP h0 h1 h2 hK hv (me := f_X10_choose d) (fun s x C B p1 p2 p3 p4 p5 p6 p7 p8 => ih v s x C B (by omega) (by omega) p1 p2 p3 p4 p5 p6 p7 p8) ht (x := x) (t0 := t0) (oth := oth) (acr := acr) (C := C) (B := B1) (i := i) hi (fun u hu => by rw [enx u (by omega)]; exact bx u hu) (fun u hu => by rw [enx u (by omega)]; exact low u (by omega)) etv hoth hacr (fun y hy ha => hC y hy (fun u hu => by rw [ha u hu]; exact enx u (by omega))) eB1 (by omega) (F_X10_choose_29 (f_X10_choose d) k)
          rw [g1]
          refine K t' ⟨fr_t f1' g2, B2, bR_t r g3 ?_ ?_⟩
          · intro y
            constructor
            · rintro ⟨a, b⟩
              by_cases e : b1 (bt (nI y) v) < i
              · exact Or.inl ⟨a, e⟩
              · right
                refine ⟨a.1, a.2.1, a.2.2.1, fun u hu => ?_⟩
                by_cases eu : u = v
                · subst eu
                  rw [etv]
                  exact (b1_eq hi).mp (by omega)
                · rw [enx u eu]
                  exact a.2.2.2 u (by omega)
            · rintro (⟨a, b⟩ | a)
              · exact ⟨a, by omega⟩
              · refine ⟨⟨a.1, a.2.1, a.2.2.1, fun u hu => ?_⟩, ?_⟩
                · rw [a.2.2.2 u (by omega)]
                  exact enx u (by omega)
                · have := (b1_eq hi).mpr ((a.2.2.2 v (Nat.le_refl _)).trans etv)
                  omega
          · rintro y0 y1 ⟨a, b⟩ a1
            have c1 := (b1_eq hi).mpr ((a1.2.2.2 v (Nat.le_refl _)).trans etv)
            have ei : i = 1 := by have := b1_le (bt (nI y1) v); omega
            have b0 := (b1_eq (b := bt (nI y0) v) (i := 0) (by omega)).mp (by omega)
            apply Nat.le_of_lt
            apply lt_bit (v := v)
            · intro u hu
              rw [tb_bt hsz.2 a.1, tb_bt hsz.2 a1.1, a.2.2.2 u (by omega), a1.2.2.2 u (by omega)]
              exact (enx u (by omega)).symm
            · rw [tb_bt hsz.2 a.1]; exact b0
            · rw [tb_bt hsz.2 a1.1, a1.2.2.2 v (Nat.le_refl _), etv, ei]; rfl
        have oth_bt : ∀ t0 : Int32, ∀ u, bt ((t.1 22 &&& (nI (2 ^ v - 1) ^^^ (-1 : Int32))) &&& (t0 ^^^ (-1 : Int32))) u = (decide (u < W * H) && (decide (v ≤ u) && !bt t0 u)) := by
          intro t0 u
          rcases Nat.lt_or_ge u 32 with q | q
          · rw [b_and, b_and, all22, b_not _ q, b_not _ q, eop, Bool.and_assoc]
            congr 2
            by_cases e : u < v
            · rw [decide_eq_true e, decide_eq_false (by omega)]; rfl
            · rw [decide_eq_false e, decide_eq_true (by omega)]; rfl
          · rw [b_big q, decide_eq_false (by omega)]; rfl
        show ∃ s' B', F_X10_choose_29_b _ (F_X10_choose_29 (f_X10_choose d) k) t _ _ _ _ _ (nI i) = _ ∧ _
        unfold F_X10_choose_29_b F_X10_choose_48
        have q2' : ¬ (2 : Int32) ≤ nI i := nI_ge (b := 2) hi (by omega)
        rw [if_neg q2']
        simp only [oL_s]
        rcases (show i = 0 ∨ i = 1 by omega) with e | e
        · subst e
          have z0 : nI 0 = (0 : Int32) := rfl
          rw [if_pos z0, if_pos z0]
          refine go x _ x (fun u => ?_) (oth_bt x) (fun u hu => ?_)
          · by_cases e : u = v
            · rw [if_pos e, e, xv]; rfl
            · rw [if_neg e]
          · rw [xv, Bool.xor_false]
            by_cases e : v < u
            · rw [decide_eq_true e, Bool.true_and]
            · rw [decide_eq_false e, Bool.false_and]
              exact low u (by omega)
        · subst e
          have z0 : ¬ nI 1 = (0 : Int32) := by decide
          rw [if_neg z0, if_neg z0]
          have e0 : ∀ u, bt (x ||| nI (2 ^ v)) u = if u = v then decide (1 = 1) else bt x u := by
            intro u
            rw [b_or, bt_pow (by omega)]
            by_cases e : u = v
            · rw [if_pos e, decide_eq_true e, Bool.or_true]; rfl
            · rw [if_neg e, decide_eq_false e, Bool.or_false]
          refine go (x ||| nI (2 ^ v)) _ _ e0 (oth_bt _) (fun u hu => ?_)
          rw [oth_bt, decide_eq_true hu, Bool.true_and, e0 v, if_pos rfl, decide_eq_true rfl, Bool.xor_true]
          by_cases e : u = v
          · subst e
            rw [e0 u, if_pos rfl, decide_eq_false (Nat.lt_irrefl u)]; simp
          · congr 1
            exact decide_eq_decide.mpr (by omega)
theorem pcsF_bd (W n : Nat) : ∀ k L, pcsF W n k L ≤ k
  | 0, _ => Nat.le_refl _
  | k + 1, L => by
    unfold pcsF
    split
    · omega
    · have := pcsF_bd W n k (L &&& (clo W n L (L &&& (-L)) ^^^ (-1 : Int32)))
      omega
theorem pcs_bd (W n : Nat) (x : Int32) : pcs W n x < 100 := by
  have := pcsF_bd W n 25 x
  unfold pcs
  omega
theorem q_best {z w : St} (h : Inv z w) (x1 x2 : Int32) : Ok (f_X11_best z x1 x2) (f_X12_best w x1 x2) := by
  have h' := h
  obtain ⟨W, H, hA⟩ := h
  have hL := hA.2.1
  have hs := sz25 hL.1
  unfold f_X11_best F_X11_best_0 F_X11_best_28 F_X11_best_70 f_X12_best F_X12_best_0 F_X12_best_30
  simp only [oL_s]
  rcases c_day z (sI w 0 0) x1 with ⟨d1, d2⟩ | ⟨k, hk, rfl, d1, d2⟩
  · simp only [d1, d2, oC_s, oL_s, ↓reduceIte]
    exact ⟨-1, _, _, rfl, rfl, Inv_0 h'⟩
  simp only [d1, d2, oC_s, oL_s, i10, ↓reduceIte]
  by_cases q1 : x2 < 0
  · rw [if_pos q1, if_pos q1]
    exact ⟨-1, _, _, rfl, rfl, Inv_0 h'⟩
  rw [if_neg q1, if_neg q1]
  by_cases q2 : (1 : Int32) < x2
  · rw [if_pos q2, if_pos q2]
    exact ⟨-1, _, _, rfl, rfl, Inv_0 h'⟩
  rw [if_neg q2, if_neg q2, p_cells]
  have e22w : (sI w 0 0).1 22 = nI W := hL.2.1
  have e23w : (sI w 0 0).1 23 = nI H := hL.2.2.1
  have e21 : z.1 21 = nI (W * H) := hL.2.2.2.2.1
  simp only [oC_s, oL_s, e22w, e23w, mulN, e21]
  by_cases q3 : W * H ≤ 16
  case neg =>
    have q : ¬ nI (W * H) ≤ (16 : Int32) := nI_ge (a := 16) (by omega) (by omega)
    rw [if_neg q, if_neg q]
    exact ⟨-1, _, _, rfl, rfl, Inv_0 h'⟩
  have q : nI (W * H) ≤ (16 : Int32) := nI_le (b := 16) q3 (by omega)
  rw [if_pos q, if_pos q]
  obtain ⟨P, z', w', t1, t2, hA', pC, pR, bd⟩ := cen (IvA_0 hA) (nI k)
  rw [t1, t2]
  simp only [oC_s, oL_s]
  obtain ⟨_, hL', hV', ⟨c, hc, c1, c2, _, hC'⟩, _, _, _, _, _, _, hT'⟩ := id hA'
  obtain ⟨_, _, _, hwt, _⟩ := hT'
  obtain ⟨f0, b0, f0a, f0b⟩ := hwt 0 (by omega)
  obtain ⟨f1, b1', f1a, f1b⟩ := hwt 1 (by omega)
  obtain ⟨f2, b2', f2a, f2b⟩ := hwt 2 (by omega)
  have gC := geo_C hL'
  have gR := geo_R hL'
  have hcn := cn_ok hs.2 hC'
  have hK : ∀ i, i < c → cKk w' i ≤ 5 := fun i hi => by
    obtain ⟨k', hk', ok⟩ := hC' i hi
    have := (can_n hs.2 hk' ok).1
    omega
  have hpow : 2 ^ (W * H) ≤ 65536 := Nat.pow_le_pow_right (n := 2) (by omega) q3
  have pos : 0 < 2 ^ (W * H) := Nat.pow_pos (by omega)
  -- the class
  obtain ⟨r, hr, hsr⟩ := p_search q3 (by omega) (gC.2.2.1) hV' pC bd b0 f0a f1a f2a
  have hb : bcx w' P W H c f0 f1 f2 (srS z' f0 f1 f2 r) := by
    refine ⟨geo_Cf (I := [32, 33, 34, 35, 36]) (A := [31]) gC ?_ (by decide) (by decide) (by decide) (by decide) (by decide), hV', ?_, c1, hC', hr, rfl, rfl, rfl⟩
    · unfold srS
      exact fr_I (fr_I (fr_A (fr_I (fr_I (fr_I fr_0 (by decide)) (by decide)) (by decide)) (by decide)) (by decide)) (by decide)
    · intro s hs v hv
      show (sA (sI (sI (sI z' 34 (nI f0)) 35 (nI f1)) 36 (nI f2)) 31 r).2.1 (26 + s) v = _
      rw [sA_ne _ 31 _ _ (by omega)]; exact pC s hs v hv
  have mnb : fb_sm (mnN w' P f0) (W * H) ≤ (W * H) * 2248 := fb_sm_bound (fun u _ => by
    have := own_bd (w := w') (v := u) b0 (bd u 0 (by omega))
    unfold mnN
    omega)
  obtain ⟨s', B', g1, g2, g3⟩ := p_choose q3 hc bd b0 b1' b2' hK hcn 18 (W * H) (srS z' f0 f1 f2 r) 0 0 1000000000 (by omega) (Nat.le_refl _) hb (fun _ _ => b_0 _) (fun _ _ => b_0 _) (fun y _ _ => gN_n w' P W (W * H) c f0 f1 f2 y) rfl (Nat.le_refl _) (by omega) (by omega)
  have e1 : nI (W * H) - (1 : Int32) = nI (W * H - 1) := nI_sub (b := 1) (by omega)
  rw [e1] at g1
  have g1' : f_X10_choose 18 (srS z' f0 f1 f2 r) (nI (W * H - 1)) 0 0 = some s' := g1
  rw [hsr, g1']
  simp only [oC_s, oL_s]
  -- the reference
  have rb : ∀ x, x < 2 ^ (W * H) → bl (nI (2 ^ (W * H) - 1) &&& (nI x ^^^ (-1 : Int32))) (W * H) := fun x hx i hi => by rw [rs_bt hs.2, decide_eq_false (by omega), Bool.false_and]
  have pb : ∀ x : Int32, pcs W (W * H) x < 100 := fun x => pcs_bd W (W * H) x
  have r0 : nI (2 ^ (W * H) - 1) &&& (nI 0 ^^^ (-1 : Int32)) = nI (2 ^ (W * H) - 1) := by
    apply b_ext
    intro u hu
    rw [rs_bt hs.2, bt_allN hs.2, show nI 0 = 0 from rfl, b_0, Bool.not_false, Bool.and_true]
  obtain ⟨x, hx, gx⟩ := p_bestR hpow (f := fun x => hmN w' P W (W * H) c f0 f1 f2 (nI x)) (q1 := fun x => pcs W (W * H) (nI x)) (q2 := fun x => pcs W (W * H) (nI (2 ^ (W * H) - 1) &&& (nI x ^^^ (-1 : Int32)))) (p_allR gR) (fun x hx => p_piecesR gR.1 gR (bl_of (by omega) hx)) (fun x hx => p_piecesR gR.1 gR (rb x hx)) (fun x hx => p_harmR gR hV' hc c2 hC' pR f0b f1b f2b (nI x)) (fun x _ => pb _) (fun x _ => pb _) (fun x _ => by
    have := hm_bd (W := W) (w := w') (P := P) hs.2 hc bd b0 b1' b2' hK (nI x)
    show hmN w' P W (W * H) c f0 f1 f2 (nI x) < 1000000000
    omega) ⟨0, pos, by
      show (decide (pcs W (W * H) (nI 0) ≤ 1) && decide (pcs W (W * H) (nI (2 ^ (W * H) - 1) &&& (nI 0 ^^^ (-1 : Int32))) ≤ 1)) = true
      rw [r0, show nI 0 = 0 from rfl, pcs_0, decide_eq_true (by omega), decide_eq_true (pcs_all gR.1)]; rfl⟩ x2
  rw [gx]
  -- they meet
  have okS : ∀ y, bS W (W * H) (W * H) 0 y ↔ y < 2 ^ (W * H) ∧ (decide (pcs W (W * H) (nI y) ≤ 1) && decide (pcs W (W * H) (nI (2 ^ (W * H) - 1) &&& (nI y ^^^ (-1 : Int32))) ≤ 1)) = true := by
    intro y
    rw [Bool.and_eq_true, decide_eq_true_iff, decide_eq_true_iff]
    exact ⟨fun a => ⟨a.1, a.2.1, a.2.2.1⟩, fun a => ⟨a.1, a.2.1, a.2.2, fun u hu => by rw [b_0]; exact bl_of (by omega) a.1 u hu⟩⟩
  obtain ⟨x1', x2', x3'⟩ := id hx
  obtain ⟨e33, _, res⟩ := g3
  have res' : s'.1 32 = nI x ∧ B' = hmN w' P W (W * H) c f0 f1 f2 (nI x) := by
    rcases res with ⟨y, p1, p2, p3, p4, p5⟩ | ⟨p1, p2, p3⟩
    · have hy : isL (fun x => hmN w' P W (W * H) c f0 f1 f2 (nI x)) (fun x => decide (pcs W (W * H) (nI x) ≤ 1) && decide (pcs W (W * H) (nI (2 ^ (W * H) - 1) &&& (nI x ^^^ (-1 : Int32))) ≤ 1)) (2 ^ (W * H)) y := by
        refine ⟨((okS y).mp p1).1, ((okS y).mp p1).2, fun y' a b => ?_⟩
        have := p5 y' ((okS y').mpr ⟨a, b⟩)
        rw [p3] at this
        exact this
      have e := isL_one hy hx
      subst e
      exact ⟨p4, p3⟩
    · exfalso
      have : 1000000000 ≤ hmN w' P W (W * H) c f0 f1 f2 (nI x) := p1 x ((okS x).mpr ⟨x1', x2'⟩)
      have := hm_bd (W := W) (w := w') (P := P) hs.2 hc bd b0 b1' b2' hK (nI x)
      omega
  have hI : Inv s' w' := by
    refine IvA_i (IvA_q hA' (fr_t (y := srS z' f0 f1 f2 r) ?_ (fr_m g2 (by decide) (fun k hk => absurd hk List.not_mem_nil))) fr_0)
    unfold srS
    exact fr_I (fr_I (fr_A (fr_I (fr_I (fr_I fr_0 (by decide)) (by decide)) (by decide)) (by decide)) (by decide)) (by decide)
  by_cases q4 : x2 = 0
  · rw [if_pos q4, if_pos q4, res'.1]
    exact ⟨_, _, _, rfl, rfl, hI⟩
  · rw [if_neg q4, if_neg q4, e33, res'.2]
    exact ⟨_, _, _, rfl, rfl, hI⟩
