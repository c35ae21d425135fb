/-! PURE: one day's walk: the class -/
theorem x_test (x : Int32) {i u : Nat} (hi : i < 32) (hu : u < 32) : (((x >>> (nI i &&& 31)) ^^^ (x >>> (nI u &&& 31))) &&& (1 : Int32) = 0) ↔ bt x i = bt x u := by
  have e : ((x >>> (nI i &&& 31)) ^^^ (x >>> (nI u &&& 31))) &&& (1 : Int32) = ((x >>> (nI i &&& 31)) &&& (1 : Int32)) ^^^ ((x >>> (nI u &&& 31)) &&& (1 : Int32)) := by
    apply b_ext
    intro j _
    rw [b_and, b_xor, b_xor, b_and, b_and]
    cases bt (x >>> (nI i &&& 31)) j <;> cases bt (x >>> (nI u &&& 31)) j <;> cases bt (1 : Int32) j <;> rfl
  rw [e, b_testN x hi, b_testN x hu]
  cases bt x i <;> cases bt x u <;> decide
/-- the class's three rows hold T: astray A, arriving R, settled S -/
def dyR (n : Nat) (x : Int32) (s : St) (A R S T : Nat → Nat) : Prop := (∀ u, u < n → s.2.1 51 u = nI (A u)) ∧ (∀ u, u < n → s.2.1 53 u = nI (R u)) ∧ (∀ u, u < n → s.2.1 52 u = nI (S u)) ∧ (∀ u, u < n → T (2 * u + wsd x u) = A u + R u) ∧ ∀ u, u < n → T (2 * u + (1 - wsd x u)) = S u
/-- the class's two rows hold T -/
def dyC (n : Nat) (x : Int32) (s : St) (T : Nat → Nat) : Prop := (∀ u, u < n → s.2.1 51 u = nI (T (2 * u + wsd x u))) ∧ ∀ u, u < n → s.2.1 52 u = nI (T (2 * u + (1 - wsd x u)))
theorem wsd_eq {x : Int32} {i u : Nat} (h : bt x i = bt x u) : wsd x i = wsd x u := by unfold wsd; rw [h]
theorem wsd_ne {x : Int32} {i u : Nat} (h : ¬ bt x i = bt x u) : wsd x i = 1 - wsd x u := by
  unfold wsd
  cases h1 : bt x i <;> cases h2 : bt x u <;> first | rfl | exact absurd (h1.trans h2.symm) h
theorem p_oneDay {z : St} {W H : Nat} (hG : geoC z W H) {x : Int32} {G : Nat → Option Nat} (hgo : goP W H x G) {r : Nat} (r1 : r < 51) (r2 : 39 ≤ r) (hr : ∀ v, v < W * H → z.2.1 r v = goI (G v)) {a b : Nat} (e40 : z.1 40 = nI a) (e41 : z.1 41 = nI b) (ha : a ≤ 100) (hb : b ≤ 100) (gd : Int32) {T0 : Nat → Nat} (h0 : dyC (W * H) x z T0) (hS : fb_sm T0 (2 * (W * H)) ≤ 62450) :
    ∃ z', f_X2_walkOneDay z x r gd = some (nI (dayL x T0 a b gd G (W * H)), z') ∧ fr [] [51, 52, 53] z z' ∧ dyC (W * H) x z' (dayT x T0 a b gd G (W * H)) := by
  have hg := hG.1
  have hs := sz25 hg
  have hGn := go_lt hgo
  obtain ⟨hkd, hln⟩ := k_aimrow r r1 r2
  have dok := day_ok (x := x) (T0 := T0) ha hb (gd := gd) hGn
  have tb : ∀ k, k < 2 * (W * H) → T0 k ≤ 62450 := fun k hk => by
    have := fb_sm_part T0 hk
    omega
  have lnr : ∀ s, fr [] [51, 52, 53] z s → s.1 21 = nI (W * H) := fun s h => by rw [h.1 21 (by decide)]; exact hG.2.2.1
  have hin : ∀ i, i < W * H → vp_in (nI i) 25 := fun i hi => vp_in_nI (by omega) (by omega)
  have hrn : r ∉ [51, 52, 53] := (by decide : ∀ r, r < 51 → r ∉ [51, 52, 53]) r r1
  unfold f_X2_walkOneDay F_X2_walkOneDay_0
  rw [oL_s, p_fill z (by decide) (by decide) (by decide)]
  simp only [oC_s, oL_s]
  have ln53 : lnC 53 = 25 := by decide
  refine loop_i (fun k i (p : St × Int32) => ∃ z', F_X2_walkOneDay_14 k p.1 x r gd p.2 (nI i) = some (nI (dayL x T0 a b gd G (W * H)), z') ∧ fr [] [51, 52, 53] z z' ∧ dyC (W * H) x z' (dayT x T0 a b gd G (W * H))) (fun i p => fr [] [51, 52, 53] z p.1 ∧ p.2 = nI (dayL x T0 a b gd G i) ∧ ∃ A R S, dyR (W * H) x p.1 A R S (dayT x T0 a b gd G i) ∧ ∀ u, i ≤ u → u < W * H → A u = T0 (2 * u + wsd x u)) (W * H) ?_ ?_ 100000 0 (sA z 53 (fun j => if j < lnC 53 then 0 else z.2.1 53 j), 0) (Nat.zero_le _) (by omega) ⟨fr_A fr_0 (by decide), rfl, fun u => T0 (2 * u + wsd x u), fun _ => 0, fun u => T0 (2 * u + (1 - wsd x u)), ⟨fun u hu => ?_, fun u hu => ?_, fun u hu => ?_, fun u hu => rfl, fun u hu => rfl⟩, fun u _ _ => rfl⟩
  · rintro k ⟨s, y⟩ ⟨f1, rfl, A, R, S, ⟨d1, d2, d3, d4, d5⟩, _⟩
    show ∃ z', F_X2_walkOneDay_14_b _ s x r gd _ (nI (W * H)) = _ ∧ _
    unfold F_X2_walkOneDay_14_b
    rw [lnr s f1, if_pos (Int32.le_refl _), oL_s]
    refine loop_i (fun k i (s : St) => ∃ z', F_X2_walkOneDay_169 k s (nI (dayL x T0 a b gd G (W * H))) (nI i) = some (nI (dayL x T0 a b gd G (W * H)), z') ∧ fr [] [51, 52, 53] z z' ∧ dyC (W * H) x z' (dayT x T0 a b gd G (W * H))) (fun i s => fr [] [51, 52, 53] z s ∧ (∀ u, u < i → s.2.1 51 u = nI (A u + R u)) ∧ (∀ u, i ≤ u → u < W * H → s.2.1 51 u = nI (A u)) ∧ (∀ u, u < W * H → s.2.1 53 u = nI (R u)) ∧ ∀ u, u < W * H → s.2.1 52 u = nI (S u)) (W * H) ?_ ?_ 100000 0 s (Nat.zero_le _) (by omega) ⟨f1, fun u hu => absurd hu (Nat.not_lt_zero u), fun u _ hu => d1 u hu, d2, d3⟩
    · rintro k s ⟨f1, g1, g2, g3, g4⟩
      refine ⟨s, ?_, f1, fun u hu => by rw [d4 u hu]; exact g1 u hu, fun u hu => by rw [d5 u hu]; exact g4 u hu⟩
      show F_X2_walkOneDay_169_b _ s _ (nI (W * H)) = _
      unfold F_X2_walkOneDay_169_b
      rw [lnr s f1, if_pos (Int32.le_refl _)]
    · rintro k i s hi ⟨f1, g1, g2, g3, g4⟩ K
      show ∃ z', F_X2_walkOneDay_169_b (F_X2_walkOneDay_169 k) s _ (nI i) = _ ∧ _
      unfold F_X2_walkOneDay_169_b
      simp only [oL_s, oA_in _ (hin i hi), nI_clamp (show i < 2 ^ 31 by omega), nI_1, g2 i (Nat.le_refl _) hi, g3 i hi, nI_add]
      rw [lnr s f1, if_neg (nI_ge hi (by omega))]
      refine K _ ⟨fr_A f1 (by decide), fun u hu => ?_, fun u h1 h2 => ?_, fun u hu => by rw [sA_ne _ 51 53 _ (by decide)]; exact g3 u hu, fun u hu => by rw [sA_ne _ 51 52 _ (by decide)]; exact g4 u hu⟩
      · rw [sA_eq, upd_i]
        split
        · rename_i e; rw [e]
        · exact g1 u (by omega)
      · rw [sA_eq, upd_i, if_neg (by omega)]; exact g2 u (by omega) h2
  · rintro k i ⟨s, y⟩ hi ⟨f1, ey, A, R, S, ⟨d1, d2, d3, d4, d5⟩, d6⟩ K
    have ey' : y = nI (dayL x T0 a b gd G i) := ey
    subst ey'
    clear ey
    show ∃ z', F_X2_walkOneDay_14_b (F_X2_walkOneDay_14 k) s x r gd (nI (dayL x T0 a b gd G i)) (nI i) = _ ∧ _
    have w1 := wsd_le x i
    have hinr : vp_in (nI i) (lnC r) := by rw [hln]; exact hin i hi
    have er : s.2.1 r i = goI (G i) := by rw [f1.2 r hrn]; exact hr i hi
    have ai : A i = T0 (2 * i + wsd x i) := d6 i (Nat.le_refl _) hi
    have at' := tb (2 * i + wsd x i) (by omega)
    have same : (outN x T0 a i = 0 ∨ G i = none) → ∃ z', F_X2_walkOneDay_160 (F_X2_walkOneDay_14 k) s x r gd (nI (dayL x T0 a b gd G i)) (nI i) = some (nI (dayL x T0 a b gd G (W * H)), z') ∧ fr [] [51, 52, 53] z z' ∧ dyC (W * H) x z' (dayT x T0 a b gd G (W * H)) := by
      intro h
      obtain ⟨s1, s2⟩ := stp_0 (b := b) (gd := gd) h (dayT x T0 a b gd G i)
      unfold F_X2_walkOneDay_160
      rw [oL_s, nI_1]
      refine K (s, _) ⟨f1, ?_, A, R, S, ⟨d1, d2, d3, fun u hu => ?_, fun u hu => ?_⟩, fun u h1 h2 => d6 u (by omega) h2⟩
      · show nI _ = nI (dayL x T0 a b gd G i + stpL x T0 a b gd G i)
        rw [s1]; rfl
      · show stpT x T0 a b gd G i _ _ = _
        rw [s2]; exact d4 u hu
      · show stpT x T0 a b gd G i _ _ = _
        rw [s2]; exact d5 u hu
    unfold F_X2_walkOneDay_14_b
    rw [lnr s f1, if_neg (nI_ge hi (by omega)), oX_in _ (by omega) hkd hinr, oL_s, nI_clamp (show i < 2 ^ 31 by omega), er, oA_in _ (hin i hi), d1 i hi]
    by_cases c : A i = 0
    · have q : nI (A i) ≤ (0 : Int32) := by rw [c]; exact Int32.le_refl _
      rw [if_pos q]
      refine same (Or.inl ?_)
      unfold outN
      rw [← ai, c]; exact shr_0 a
    · have q : ¬ nI (A i) ≤ (0 : Int32) := nI_ge (a := 0) (by omega) (by omega)
      rw [if_neg q, p_has4, lnr s f1]
      simp only [oC_s, oL_s]
      cases hgi : G i with
      | none =>
        have q1 : (goI none) < (0 : Int32) ∨ nI (W * H) ≤ goI none := Or.inl (by decide)
        rw [if_pos q1, if_pos rfl]
        exact same (Or.inr hgi)
      | some u =>
        have hu := hGn i hi u hgi
        have q1 : ¬ ((goI (some u)) < (0 : Int32) ∨ nI (W * H) ≤ goI (some u)) := by
          rintro (q | q)
          · exact absurd (nI_pos' (show u < 2147483648 by omega)) (Int32.not_le.mpr q)
          · exact nI_ge hu (by omega) q
        rw [if_neg q1, if_neg (by decide)]
        have om : (A i * a + 99) / 100 = outN x T0 a i := by rw [ai]; rfl
        have m1 : outN x T0 a i ≤ A i := by rw [ai]; exact shr_le ha
        have dd := dl_le (gd := gd) (v := i) (m := outN x T0 a i) hb
        rw [oA_in _ (hin i hi), f1.1 40 (by decide), e40, d1 i hi, p_shareUp s (shB (by omega) ha), om]
        simp only [oC_s, oL_s]
        have main : ∀ y, y = nI (dlN gd b i (outN x T0 a i)) → ∃ z', F_X2_walkOneDay_92 (F_X2_walkOneDay_14 k) s x r gd (nI (dayL x T0 a b gd G i)) (nI i) (goI (some u)) (nI (outN x T0 a i)) y = some (nI (dayL x T0 a b gd G (W * H)), z') ∧ fr [] [51, 52, 53] z z' ∧ dyC (W * H) x z' (dayT x T0 a b gd G (W * H)) := by
          rintro y rfl
          have eL : dayL x T0 a b gd G i + dlN gd b i (outN x T0 a i) = dayL x T0 a b gd G (i + 1) := by
            show _ = dayL x T0 a b gd G i + stpL x T0 a b gd G i
            unfold stpL; rw [hgi]
          have eT : dayT x T0 a b gd G (i + 1) = set1 (set1 (dayT x T0 a b gd G i) (2 * i + wsd x i) (dayT x T0 a b gd G i (2 * i + wsd x i) - outN x T0 a i)) (2 * u + wsd x i) (set1 (dayT x T0 a b gd G i) (2 * i + wsd x i) (dayT x T0 a b gd G i (2 * i + wsd x i) - outN x T0 a i) (2 * u + wsd x i) + (outN x T0 a i - dlN gd b i (outN x T0 a i))) := by
            show stpT x T0 a b gd G i (dayT x T0 a b gd G i) = _
            unfold stpT; rw [hgi]
          have i4 := d4 i hi
          have w2 := wsd_le x u
          have hA : ∀ v, v < W * H → upd (s.2.1 51) i (s.2.1 51 i - nI (outN x T0 a i)) v = nI (set1 A i (A i - outN x T0 a i) v) := by
            intro v hv
            rw [d1 i hi, nI_sub m1, upd_i, set1_i]
            split
            · rfl
            · exact d1 v hv
          unfold F_X2_walkOneDay_92 F_X2_walkOneDay_160
          simp only [oL_s, oA_in _ (hin i hi), nI_clamp (show i < 2 ^ 31 by omega), d1 i hi, nI_sub m1, nI_sub dd, nI_add, nI_1, eL, goI, oA_in _ (hin u hu), nI_clamp (show u < 2 ^ 31 by omega)]
          by_cases cx : bt x i = bt x u
          · rw [if_pos ((x_test x (by omega) (by omega)).mpr cx)]
            have ew := wsd_eq cx
            rw [sA_ne _ 51 53 _ (by decide), d2 u hu, nI_add]
            refine K (_, _) ⟨fr_A (fr_A f1 (by decide)) (by decide), rfl, set1 A i (A i - outN x T0 a i), set1 R u (R u + (outN x T0 a i - dlN gd b i (outN x T0 a i))), S, ⟨fun v hv => ?_, fun v hv => ?_, fun v hv => ?_, fun v hv => ?_, fun v hv => ?_⟩, fun v h1 h2 => ?_⟩
            · show (sA (sA s 51 _) 53 _).2.1 51 v = _
              rw [sA_ne _ 53 51 _ (by decide), sA_eq]; exact hA v hv
            · show (sA (sA s 51 _) 53 _).2.1 53 v = _
              rw [sA_eq, upd_i, set1_i]
              split
              · rfl
              · exact d2 v hv
            · show (sA (sA s 51 _) 53 _).2.1 52 v = _
              rw [sA_ne _ 53 52 _ (by decide), sA_ne _ 51 52 _ (by decide)]; exact d3 v hv
            · have w3 := wsd_le x v
              have v4 := d4 v hv
              rw [eT]
              by_cases c1 : v = u
              · subst c1
                rw [set1_i, if_pos (by omega), set1_i, set1_i, set1_i, if_pos rfl]
                by_cases c2 : v = i
                · subst c2
                  rw [if_pos rfl, if_pos rfl]; omega
                · rw [if_neg (by omega), if_neg c2, ew, v4]; omega
              · rw [set1_i, if_neg (by omega), set1_i, set1_i, set1_i, if_neg c1]
                by_cases c2 : v = i
                · subst c2
                  rw [if_pos rfl, if_pos rfl]; omega
                · rw [if_neg (by omega), if_neg c2]; exact v4
            · have w3 := wsd_le x v
              rw [eT, set1_i, if_neg (by
                intro e
                have : v = u := by omega
                subst this
                omega), set1_i, if_neg (by
                intro e
                have : v = i := by omega
                subst this
                omega)]
              exact d5 v hv
            · rw [set1_i, if_neg (by omega)]; exact d6 v (by omega) h2
          · rw [if_neg (fun q => cx ((x_test x (by omega) (by omega)).mp q))]
            have ew := wsd_ne cx
            rw [sA_ne _ 51 52 _ (by decide), d3 u hu, nI_add]
            refine K (_, _) ⟨fr_A (fr_A f1 (by decide)) (by decide), rfl, set1 A i (A i - outN x T0 a i), R, set1 S u (S u + (outN x T0 a i - dlN gd b i (outN x T0 a i))), ⟨fun v hv => ?_, fun v hv => ?_, fun v hv => ?_, fun v hv => ?_, fun v hv => ?_⟩, fun v h1 h2 => ?_⟩
            · show (sA (sA s 51 _) 52 _).2.1 51 v = _
              rw [sA_ne _ 52 51 _ (by decide), sA_eq]; exact hA v hv
            · show (sA (sA s 51 _) 52 _).2.1 53 v = _
              rw [sA_ne _ 52 53 _ (by decide), sA_ne _ 51 53 _ (by decide)]; exact d2 v hv
            · show (sA (sA s 51 _) 52 _).2.1 52 v = _
              rw [sA_eq, upd_i, set1_i]
              split
              · rfl
              · exact d3 v hv
            · have w3 := wsd_le x v
              have v4 := d4 v hv
              rw [eT, set1_i, if_neg (by
                intro e
                have : v = u := by omega
                subst this
                omega), set1_i, set1_i]
              by_cases c2 : v = i
              · subst c2
                rw [if_pos rfl, if_pos rfl]; omega
              · rw [if_neg (by omega), if_neg c2]; exact v4
            · have w3 := wsd_le x v
              have v5 := d5 v hv
              rw [eT]
              by_cases c1 : v = u
              · subst c1
                rw [set1_i, if_pos (by omega), set1_i, set1_i, if_pos rfl, if_neg (by
                  intro e
                  have : v = i := by omega
                  subst this
                  omega), ew, v5]
              · rw [set1_i, if_neg (by omega), set1_i, set1_i, if_neg c1, if_neg (by
                  intro e
                  have : v = i := by omega
                  subst this
                  omega)]
                exact v5
            · rw [set1_i, if_neg (by omega)]; exact d6 v (by omega) h2
        cases hbg : bt gd i
        · rw [if_pos ((b_test0 gd (by omega)).mpr hbg), f1.1 41 (by decide), e41, p_shareUp s (shB (by omega) hb)]
          simp only [oC_s]
          refine main _ ?_
          unfold dlN; rw [hbg]; rfl
        · have nb : ¬ ((gd >>> (nI i &&& 31)) &&& (1 : Int32) = 0) := by rw [b_test0 _ (by omega), hbg]; decide
          rw [if_neg nb]
          refine main _ ?_
          unfold dlN; rw [hbg]; rfl
  · show (sA z 53 _).2.1 51 u = _
    rw [sA_ne _ 53 51 _ (by decide)]; exact h0.1 u hu
  · show (sA z 53 _).2.1 53 u = _
    rw [sA_eq, ln53, if_pos (by omega)]; rfl
  · show (sA z 53 _).2.1 52 u = _
    rw [sA_ne _ 53 52 _ (by decide)]; exact h0.2 u hu
