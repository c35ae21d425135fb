/-! PURE: a village told -/
theorem p_isSide (z : St) (x : Int32) : f_X11_isSide z x = some (if x = 0 ∨ x = 1 then 1 else 0, z) := by
  unfold f_X11_isSide F_X11_isSide_0 F_X11_isSide_9 F_X11_isSide_14
  by_cases a : x = 0
  · rw [if_pos a, if_pos (Or.inl a), oC_s]; exact oZ_1 _
  · by_cases b : x = 1
    · rw [if_neg a, if_pos b, if_pos (Or.inr b), oC_s]; exact oZ_1 _
    · rw [if_neg a, if_neg b, if_neg (fun q => Or.elim q a b), oC_s]; exact oZ_0 _
def desP (z : St) (v : Nat) (x2 x3 x4 : Int32) (z' : St) : Prop := fr [23] [7, 8] z z' ∧ (∀ d, d < 6 → z'.2.1 7 d = if nI d = x2 then z.2.1 7 d ||| nI (2 ^ v) else z.2.1 7 d &&& (nI (2 ^ v) ^^^ (-1 : Int32))) ∧ (∀ d, d < 2 → z'.2.1 8 d = if nI d = x3 then z.2.1 8 d ||| nI (2 ^ v) else z.2.1 8 d &&& (nI (2 ^ v) ^^^ (-1 : Int32))) ∧ z'.1 23 = if x4 = 0 then z.1 23 &&& (nI (2 ^ v) ^^^ (-1 : Int32)) else z.1 23 ||| nI (2 ^ v)
theorem p_describe (z : St) {v : Nat} (hv : v < 32) (x2 x3 x4 : Int32) : ∃ z', f_X4_describe z (nI v) x2 x3 x4 = some z' ∧ desP z v x2 x3 x4 z' := by
  unfold f_X4_describe F_X4_describe_0
  simp only [oL_s, shl1 hv]
  refine loop_i (fun n i (s : St) => ∃ z', F_X4_describe_8 n s x2 x3 x4 (nI (2 ^ v)) (nI i) = some z' ∧ desP z v x2 x3 x4 z') (fun i s => fr [] [7] z s ∧ (∀ d, d < i → s.2.1 7 d = if nI d = x2 then z.2.1 7 d ||| nI (2 ^ v) else z.2.1 7 d &&& (nI (2 ^ v) ^^^ (-1 : Int32))) ∧ (∀ d, i ≤ d → s.2.1 7 d = z.2.1 7 d)) 6 ?_ ?_ 100000 0 _ (Nat.zero_le _) (by omega) ?_
  · rintro n s ⟨f, h1, h2⟩
    show ∃ z', F_X4_describe_8_b _ s x2 x3 x4 (nI (2 ^ v)) (nI 6) = some z' ∧ _
    unfold F_X4_describe_8_b
    have q : (6 : Int32) ≤ nI 6 := Int32.le_refl _
    rw [if_pos q, oL_s]
    refine loop_i (fun n i (s' : St) => ∃ z', F_X4_describe_62 n s' x3 x4 (nI (2 ^ v)) (nI i) = some z' ∧ desP z v x2 x3 x4 z') (fun i s' => fr [] [8] s s' ∧ (∀ d, d < i → s'.2.1 8 d = if nI d = x3 then z.2.1 8 d ||| nI (2 ^ v) else z.2.1 8 d &&& (nI (2 ^ v) ^^^ (-1 : Int32))) ∧ (∀ d, i ≤ d → s'.2.1 8 d = z.2.1 8 d)) 2 ?_ ?_ 100000 0 _ (Nat.zero_le _) (by omega) ?_
    · rintro n s' ⟨f', h1', h2'⟩
      show ∃ z', F_X4_describe_62_b _ s' x3 x4 (nI (2 ^ v)) (nI 2) = some z' ∧ _
      unfold F_X4_describe_62_b F_X4_describe_137
      have q : (2 : Int32) ≤ nI 2 := Int32.le_refl _
      have e23 : s'.1 23 = z.1 23 := (f'.1 23 (by decide)).trans (f.1 23 (by decide))
      have e7 : s'.2.1 7 = s.2.1 7 := f'.2 7 (by decide)
      have ff : fr [23] [7, 8] z s' := fr_t (fr_m f (by decide) (by decide)) (fr_m f' (by decide) (by decide))
      rw [if_pos q]
      by_cases h4 : x4 = 0
      · rw [if_pos h4, oL_s]
        exact ⟨_, rfl, fr_I ff (by decide), fun d hd => (congrFun e7 d).trans (h1 d hd), h1', by rw [if_pos h4]; show s'.1 23 &&& _ = _; rw [e23]⟩
      · rw [if_neg h4, oL_s]
        exact ⟨_, rfl, fr_I ff (by decide), fun d hd => (congrFun e7 d).trans (h1 d hd), h1', by rw [if_neg h4]; show s'.1 23 ||| _ = _; rw [e23]⟩
    · rintro n i s' hi ⟨f', h1', h2'⟩ K
      show ∃ z', F_X4_describe_62_b (F_X4_describe_62 n) s' x3 x4 (nI (2 ^ v)) (nI i) = some z' ∧ _
      unfold F_X4_describe_62_b F_X4_describe_105
      have q : ¬ (2 : Int32) ≤ nI i := nI_ge (b := 2) hi (by omega)
      have hin : vp_in (nI i) 2 := vp_in_nI hi (by omega)
      rw [if_neg q]
      simp only [oA_in _ hin, oL_s, nI_clamp (show i < 2 ^ 31 by omega), nI_1]
      have go : ∀ x, (x = if nI i = x3 then z.2.1 8 i ||| nI (2 ^ v) else z.2.1 8 i &&& (nI (2 ^ v) ^^^ (-1 : Int32))) → ∃ z', F_X4_describe_62 n (sA s' 8 (upd (s'.2.1 8) i x)) x3 x4 (nI (2 ^ v)) (nI (i + 1)) = some z' ∧ desP z v x2 x3 x4 z' := by
        intro x hx
        refine K _ ⟨fr_A f' (by decide), ?_, ?_⟩
        · intro d hd
          show upd (s'.2.1 8) i x d = _
          by_cases e : d = i
          · subst e; rw [pk_us]; exact hx
          · rw [pk_un e]; exact h1' d (by omega)
        · intro d hd
          show upd (s'.2.1 8) i x d = _
          rw [pk_un (by omega)]; exact h2' d (by omega)
      by_cases e : nI i = x3
      · rw [if_pos e]; exact go _ (by rw [if_pos e, h2' i (Nat.le_refl _)])
      · rw [if_neg e]; exact go _ (by rw [if_neg e, h2' i (Nat.le_refl _)])
    · exact ⟨fr_0, fun d hd => absurd hd (Nat.not_lt_zero d), fun d _ => congrFun (f.2 8 (by decide)) d⟩
  · rintro n i s hi ⟨f, h1, h2⟩ K
    show ∃ z', F_X4_describe_8_b (F_X4_describe_8 n) s x2 x3 x4 (nI (2 ^ v)) (nI i) = some z' ∧ _
    unfold F_X4_describe_8_b F_X4_describe_52
    have q : ¬ (6 : Int32) ≤ nI i := nI_ge (b := 6) hi (by omega)
    have hin : vp_in (nI i) 6 := vp_in_nI hi (by omega)
    rw [if_neg q]
    simp only [oA_in _ hin, oL_s, nI_clamp (show i < 2 ^ 31 by omega), nI_1]
    have go : ∀ x, (x = if nI i = x2 then z.2.1 7 i ||| nI (2 ^ v) else z.2.1 7 i &&& (nI (2 ^ v) ^^^ (-1 : Int32))) → ∃ z', F_X4_describe_8 n (sA s 7 (upd (s.2.1 7) i x)) x2 x3 x4 (nI (2 ^ v)) (nI (i + 1)) = some z' ∧ desP z v x2 x3 x4 z' := by
      intro x hx
      refine K _ ⟨fr_A f (by decide), ?_, ?_⟩
      · intro d hd
        show upd (s.2.1 7) i x d = _
        by_cases e : d = i
        · subst e; rw [pk_us]; exact hx
        · rw [pk_un e]; exact h1 d (by omega)
      · intro d hd
        show upd (s.2.1 7) i x d = _
        rw [pk_un (by omega)]; exact h2 d (by omega)
    by_cases e : nI i = x2
    · rw [if_pos e]; exact go _ (by rw [if_pos e, h2 i (Nat.le_refl _)])
    · rw [if_neg e]; exact go _ (by rw [if_neg e, h2 i (Nat.le_refl _)])
  · exact ⟨fr_0, fun d hd => absurd hd (Nat.not_lt_zero d), fun _ _ => rfl⟩
theorem bt_pow {v i : Nat} (hv : v < 32) : bt (nI (2 ^ v)) i = decide (i = v) := by
  rcases Nat.lt_or_ge i 32 with h | h
  · rw [bt_nI h, Nat.testBit_two_pow]; exact decide_eq_decide.mpr (by omega)
  · rw [b_big h, decide_eq_false (by omega)]
theorem bt_set {x : Int32} {v i : Nat} (hv : v < 32) : bt (x ||| nI (2 ^ v)) i = (bt x i || decide (i = v)) := by rw [b_or, bt_pow hv]
theorem bt_clr {x : Int32} {v i : Nat} (hv : v < 32) : bt (x &&& (nI (2 ^ v) ^^^ (-1 : Int32))) i = (bt x i && !decide (i = v)) := by
  rcases Nat.lt_or_ge i 32 with h | h
  · rw [b_and, b_not _ h, bt_pow hv]
  · rw [b_big h, b_big h]; rfl
/-- a bit set or cleared follows an array's place -/
theorem bt_upd {x : Int32} {v n : Nat} {f : Nat → Int32} {y c : Int32} (hn : n ≤ 25) (hv : v < n) (h : ∀ i, bt x i = decide (i < n ∧ f i = c)) (i : Nat) : bt (if c = y then x ||| nI (2 ^ v) else x &&& (nI (2 ^ v) ^^^ (-1 : Int32))) i = decide (i < n ∧ upd f v y i = c) := by
  by_cases e : c = y
  · rw [if_pos e, bt_set (by omega), h i, upd_i]
    by_cases q : i = v
    · rw [if_pos q, decide_eq_true q, Bool.or_true, eq_comm, decide_eq_true_iff]; exact ⟨by omega, e.symm⟩
    · rw [if_neg q, decide_eq_false q, Bool.or_false]
  · rw [if_neg e, bt_clr (by omega), h i, upd_i]
    by_cases q : i = v
    · rw [if_pos q, decide_eq_true q, Bool.not_true, Bool.and_false, eq_comm, decide_eq_false_iff_not]; exact fun r => e r.2.symm
    · rw [if_neg q, decide_eq_false q, Bool.not_false, Bool.and_true]
theorem q_village {z w : St} (h : Inv z w) (x1 x2 x3 x4 : Int32) (h4 : x4 = 0 ∨ x4 = 1) : Ok (f_X11_village z x1 x2 x3 x4) (f_X12_village w x1 x2 x3 x4) := by
  have h' := h
  obtain ⟨W, H, hDy, hL, ⟨v1, v2, v3, v4⟩, hC, hN, hE, hD, hK, hT, hF, hR⟩ := h
  have hs := sz25 hL.1
  unfold f_X11_village F_X11_village_0 F_X11_village_21 F_X11_village_37 f_X12_village F_X12_village_0 F_X12_village_32
  rcases c_vil (w := sI w 0 0) hL x1 with ⟨g1, g2⟩ | ⟨v, hv, rfl, g1, g2⟩
  · simp only [oL_s, g1, g2, oC_s, ↓reduceIte]
    exact ⟨0, _, _, rfl, rfl, Inv_0 h'⟩
  simp only [oL_s, g1, g2, oC_s, i10, ↓reduceIte, p_isSide]
  have hin : vp_in (nI v) 25 := vp_in_nI (by omega) (by omega)
  simp only [oA_in _ hin, nI_clamp (show v < 2 ^ 31 by omega)]
  by_cases a1 : x2 < 0
  · rw [if_pos a1, if_pos a1]; exact ⟨0, _, _, rfl, rfl, Inv_0 h'⟩
  rw [if_neg a1, if_neg a1]
  obtain ⟨d, hd, rfl⟩ := nI_of a1
  by_cases a2 : d < 6
  · have b1 : nI d < (6 : Int32) := nI_lt (b := 6) a2 (by omega)
    have b2 : ¬ (5 : Int32) < nI d := nI_nlt (a := 5) (by omega) (by omega)
    rw [if_pos b1, if_neg b2]
    have e0 : ((0 : Int32)).toInt = 0 := by decide
    have em1 : ((-1 : Int32)).toInt = -1 := by decide
    have e1 : ((1 : Int32)).toInt = 1 := by decide
    by_cases a3 : x3 = -1 ∨ x3 = 0 ∨ x3 = 1
    · have c1 : ¬ x3 < (-1 : Int32) := by rcases a3 with rfl | rfl | rfl <;> decide
      have c2 : x3 ≤ (1 : Int32) := by rcases a3 with rfl | rfl | rfl <;> decide
      rw [if_neg c1, if_pos c2]
      obtain ⟨z', g3, f, p1, p2, p3⟩ := p_describe z (show v < 32 by omega) (nI d) x3 x4
      have cl : (if x3 = (-1 : Int32) then oC (some z') (fun w3 => some ((1 : Int32), w3)) else if (if x3 = 0 ∨ x3 = 1 then (1 : Int32) else 0) = 0 then some (0, z) else oC (some z') (fun w3 => some ((1 : Int32), w3))) = some (1, z') := by
        by_cases q : x3 = -1
        · rw [if_pos q]; rfl
        · have q2 : x3 = 0 ∨ x3 = 1 := a3.resolve_left q
          rw [if_neg q, if_pos q2]; rfl
      rw [g3, cl]
      obtain ⟨i, a⟩ := f
      refine ⟨1, _, _, rfl, rfl, W, H, ?_, ?_, ?_, ?_, ?_, ?_, ?_, ?_, ?_, ?_, ?_⟩
      · obtain ⟨t, ht, t1, t2⟩ := hDy
        exact ⟨t, ht, (i 0 (by decide)).trans t1, t2⟩
      · obtain ⟨l1, l2, l3, l4, l5, l6, l7, l8⟩ := hL
        exact ⟨l1, l2, l3, (i 26 (by decide)).trans l4, (i 21 (by decide)).trans l5, by rw [i 22 (by decide)]; exact l6, by rw [i 27 (by decide)]; exact l7, by rw [i 28 (by decide)]; exact l8⟩
      · have nar : vp_nar .boolean x4 = x4 := by rcases h4 with rfl | rfl <;> rfl
        refine ⟨?_, ?_, ?_, ?_⟩
        · intro u hu
          show (∃ d', d' < 6 ∧ upd (w.2.1 7) v (nI d) u = nI d') ∧ (upd (w.2.1 8) v x3 u = -1 ∨ upd (w.2.1 8) v x3 u = 0 ∨ upd (w.2.1 8) v x3 u = 1) ∧ (upd (w.2.1 9) v (vp_nar .boolean x4) u = 0 ∨ upd (w.2.1 9) v (vp_nar .boolean x4) u = 1)
          rw [nar]
          by_cases e : u = v
          · subst e; rw [pk_us, pk_us, pk_us]; exact ⟨⟨d, a2, rfl⟩, a3, h4⟩
          · rw [pk_un e, pk_un e, pk_un e]; exact v1 u hu
        · intro d' hd' u
          rw [p1 d' hd']
          exact bt_upd hs.2 hv (v2 d' hd') u
        · intro s hs' u
          rw [p2 s hs']
          exact bt_upd hs.2 hv (v3 s hs') u
        · intro u
          rw [p3]
          show _ = decide (u < W * H ∧ upd (w.2.1 9) v (vp_nar .boolean x4) u = 1)
          rw [nar]
          have := bt_upd (y := x4) (c := 1) hs.2 hv v4 u
          rw [← this]
          rcases h4 with rfl | rfl <;> rfl
      · obtain ⟨c, hc, c1, c2, c3, c4⟩ := hC
        refine ⟨c, hc, (i 25 (by decide)).trans c1, c2, by rw [i 24 (by decide)]; exact c3, ?_⟩
        unfold canOK at c4 ⊢
        rw [a 9 (by decide), a 10 (by decide)]
        exact c4
      · unfold ivNote at hN ⊢
        rw [i 29 (by decide), a 11 (by decide), a 12 (by decide), a 13 (by decide), a 14 (by decide), a 15 (by decide), a 16 (by decide)]
        exact hN
      · exact ⟨(a 18 (by decide)).trans hE.1, hE.2⟩
      · unfold ivDraft at hD ⊢
        rw [i 30 (by decide), a 28 (by decide), a 29 (by decide)]
        exact hD
      · unfold ivCand at hK ⊢
        rw [i 37 (by decide), a 37 (by decide)]
        exact hK
      · unfold ivTape at hT ⊢
        rw [i 1 (by decide), a 0 (by decide)]
        exact hT
      · unfold ivFault at hF ⊢
        rw [i 2 (by decide), i 3 (by decide)]
        exact hF
      · unfold ivTerms at hR ⊢
        rw [i 13 (by decide), i 14 (by decide), i 15 (by decide), i 16 (by decide), a 1 (by decide), a 2 (by decide), a 3 (by decide)]
        exact hR
    · have q1 : ¬ x3 = -1 := fun q => a3 (Or.inl q)
      have q2 : ¬ (x3 = 0 ∨ x3 = 1) := fun q => a3 (Or.inr q)
      rw [if_neg q1, if_neg q2, if_pos rfl]
      by_cases c1 : x3 < (-1 : Int32)
      · rw [if_pos c1]; exact ⟨0, _, _, rfl, rfl, Inv_0 h'⟩
      · have c2 : ¬ x3 ≤ (1 : Int32) := by
          intro c2
          have k1 : ¬ x3.toInt < -1 := fun q => c1 (i_lt.mpr (by rw [em1]; exact q))
          have k2 := i_le.mp c2
          rw [e1] at k2
          have r1 : x3.toInt ≠ -1 := fun q => q1 (Int32.toInt_inj.mp (by rw [q, em1]))
          have r2 : x3.toInt ≠ 0 := fun q => q2 (Or.inl (Int32.toInt_inj.mp (by rw [q, e0])))
          have r3 : x3.toInt ≠ 1 := fun q => q2 (Or.inr (Int32.toInt_inj.mp (by rw [q, e1])))
          omega
        rw [if_neg c1, if_neg c2]; exact ⟨0, _, _, rfl, rfl, Inv_0 h'⟩
  · have b1 : ¬ nI d < (6 : Int32) := nI_nlt (b := 6) (by omega) hd
    have b2 : (5 : Int32) < nI d := nI_lt (a := 5) (by omega) hd
    rw [if_neg b1, if_pos b2]
    exact ⟨0, _, _, rfl, rfl, Inv_0 h'⟩
