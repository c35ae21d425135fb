/-! PURE: the days of a flight: the class -/
/-- people, as one row -/
def pOne (P : Nat → Nat → Nat) (k : Nat) : Nat := P (k / 2) (k % 2)
theorem pOne_at (P : Nat → Nat → Nat) {v s : Nat} (hs : s < 2) : pOne P (2 * v + s) = P v s := by
  unfold pOne
  rw [show (2 * v + s) / 2 = v by omega, show (2 * v + s) % 2 = s by omega]
theorem pOne_sm {P : Nat → Nat → Nat} {n : Nat} (hn : n ≤ 25) (h : ∀ v s, s < 2 → P v s ≤ 1249) : fb_sm (pOne P) (2 * n) ≤ 62450 := by
  have := fb_sm_bound (f := pOne P) (c := 1249) (n := 2 * n) (fun k _ => h _ _ (Nat.mod_lt k (by omega)))
  have : 2 * n * 1249 ≤ 50 * 1249 := Nat.mul_le_mul_right 1249 (by omega)
  omega
theorem k_plrow : ∀ s, s < 2 → kdC (26 + s) = 0 ∧ lnC (26 + s) = 25 := by decide
/-- walked for d days -/
def wkQ (z : St) (n : Nat) (x : Int32) (T : Nat → Nat) (z' : St) : Prop := fr [] [51, 52, 53] z z' ∧ dyC n x z' T
theorem p_walk {z : St} {W H : Nat} (hG : geoC z W H) {x : Int32} {G : Nat → Option Nat} (hgo : goP W H x G) {r : Nat} (r1 : r < 51) (r2 : 39 ≤ r) (hr : ∀ v, v < W * H → z.2.1 r v = goI (G v)) {a b : Nat} (e40 : z.1 40 = nI a) (e41 : z.1 41 = nI b) (ha : a ≤ 100) (hb : b ≤ 100) (gd : Int32) {P : Nat → Nat → Nat} (hp : plC z P (W * H)) (hS : fb_sm (pOne P) (2 * (W * H)) ≤ 62450) {D B : Nat} (hD : D ≤ 20) (hB : B < 2147483648) :
    ∃ d z', d ≤ D ∧ (d = D ∨ B ≤ dysL x (pOne P) a b gd G (W * H) d) ∧ f_X2_walk z x r (nI D) gd (nI B) = some (nI (dysL x (pOne P) a b gd G (W * H) d), z') ∧ wkQ z (W * H) x (dysT x (pOne P) a b gd G (W * H) d) z' := by
  have hg := hG.1
  have hs := sz25 hg
  have hGn := go_lt hgo
  have sok := dys_ok (x := x) (P := pOne P) ha hb (gd := gd) hGn
  have lnr : ∀ s, fr [] [51, 52, 53] z s → s.1 21 = nI (W * H) := fun s h => by rw [h.1 21 (by decide)]; exact hG.2.2.1
  have gq : ∀ s, fr [] [51, 52, 53] z s → geoC s W H := fun s h => ⟨hg, by rw [h.1 26 (by decide)]; exact hG.2.1, lnr s h, by rw [h.1 22 (by decide)]; exact hG.2.2.2.1, by rw [h.1 27 (by decide)]; exact hG.2.2.2.2.1, by rw [h.1 28 (by decide)]; exact hG.2.2.2.2.2⟩
  have hin : ∀ i, i < W * H → vp_in (nI i) 25 := fun i hi => vp_in_nI (by omega) (by omega)
  have hrn : r ∉ [51, 52, 53] := (by decide : ∀ r, r < 51 → r ∉ [51, 52, 53]) r r1
  unfold f_X2_walk F_X2_walk_0
  rw [oL_s]
  refine loop_i (fun k i (s : St) => ∃ d z', d ≤ D ∧ (d = D ∨ B ≤ dysL x (pOne P) a b gd G (W * H) d) ∧ F_X2_walk_3 k s x r (nI D) gd (nI B) (nI i) = some (nI (dysL x (pOne P) a b gd G (W * H) d), z') ∧ wkQ z (W * H) x (dysT x (pOne P) a b gd G (W * H) d) z') (fun i s => fr [] [51, 52, 53] z s ∧ (∀ u, u < i → s.2.1 51 u = nI (pOne P (2 * u + wsd x u))) ∧ ∀ u, u < i → s.2.1 52 u = nI (pOne P (2 * u + (1 - wsd x u)))) (W * H) ?_ ?_ 100000 0 z (Nat.zero_le _) (by omega) ⟨fr_0, fun u hu => absurd hu (Nat.not_lt_zero u), fun u hu => absurd hu (Nat.not_lt_zero u)⟩
  · rintro k s ⟨f1, f2, f3⟩
    show ∃ d z', _ ∧ _ ∧ F_X2_walk_3_b _ s x r (nI D) gd (nI B) (nI (W * H)) = _ ∧ _
    unfold F_X2_walk_3_b
    rw [lnr s f1, if_pos (Int32.le_refl _), oL_s, oL_s]
    refine loop_i (fun k d (s : St) => ∃ e z', e ≤ D ∧ (e = D ∨ B ≤ dysL x (pOne P) a b gd G (W * H) e) ∧ F_X2_walk_77 k s x r (nI D) gd (nI B) (nI (dysL x (pOne P) a b gd G (W * H) d)) (nI d) = some (nI (dysL x (pOne P) a b gd G (W * H) e), z') ∧ wkQ z (W * H) x (dysT x (pOne P) a b gd G (W * H) e) z') (fun d s => wkQ z (W * H) x (dysT x (pOne P) a b gd G (W * H) d) s) D ?_ ?_ 100000 0 s (Nat.zero_le _) (by omega) ⟨f1, f2, f3⟩
    · intro k s hq
      refine ⟨D, s, Nat.le_refl _, Or.inl rfl, ?_, hq⟩
      show F_X2_walk_77_b _ s x r (nI D) gd (nI B) _ (nI D) = _
      unfold F_X2_walk_77_b F_X2_walk_109
      rw [if_pos (Int32.le_refl _)]
    · intro k d s hd hq K
      show ∃ e z', _ ∧ _ ∧ F_X2_walk_77_b (F_X2_walk_77 k) s x r (nI D) gd (nI B) (nI (dysL x (pOne P) a b gd G (W * H) d)) (nI d) = _ ∧ _
      unfold F_X2_walk_77_b F_X2_walk_109
      rw [if_neg (nI_ge hd (by omega))]
      have sd := sok d
      by_cases c : B ≤ dysL x (pOne P) a b gd G (W * H) d
      · refine ⟨d, s, by omega, Or.inr c, ?_, hq⟩
        rw [if_pos (nI_le c (by omega))]
      · rw [if_neg (nI_ge (by omega) (by omega))]
        obtain ⟨q1, q2⟩ := hq
        obtain ⟨s', e', g1, g2⟩ := p_oneDay (gq s q1) hgo r1 r2 (fun v hv => by rw [q1.2 r hrn]; exact hr v hv) (by rw [q1.1 40 (by decide)]; exact e40) (by rw [q1.1 41 (by decide)]; exact e41) ha hb gd q2 (by omega)
        rw [e']
        simp only [oC_s, oL_s, nI_add, nI_1]
        exact K s' ⟨fr_t q1 g1, g2⟩
  · rintro k i s hi ⟨f1, f2, f3⟩ K
    show ∃ d z', _ ∧ _ ∧ F_X2_walk_3_b (F_X2_walk_3 k) s x r (nI D) gd (nI B) (nI i) = _ ∧ _
    have w1 := wsd_le x i
    have ey : (x >>> (nI i &&& 31)) &&& (1 : Int32) = nI (wsd x i) := b_testN x (by omega)
    have e1 : (1 : Int32) - nI (wsd x i) = nI (1 - wsd x i) := nI_sub (a := 1) w1
    have r1' := k_plrow (wsd x i) (by omega)
    have r2' := k_plrow (1 - wsd x i) (by omega)
    have i1 : vp_in (nI (wsd x i)) 2 := vp_in_nI (by omega) (by omega)
    have i2 : vp_in (nI (1 - wsd x i)) 2 := vp_in_nI (by omega) (by omega)
    have i3 : vp_in (nI i) (lnC (26 + wsd x i)) := by rw [r1'.2]; exact hin i hi
    have i4 : vp_in (nI i) (lnC (26 + (1 - wsd x i))) := by rw [r2'.2]; exact hin i hi
    have n1 : ∀ s, s < 2 → 26 + s ∉ [51, 52, 53] := by decide
    unfold F_X2_walk_3_b
    rw [lnr s f1, if_neg (nI_ge hi (by omega)), ey]
    simp only [oL_s, e1, oA_in _ i1, oA_in _ i2, oA_in _ (hin i hi), nI_clamp (show wsd x i < 2 ^ 31 by omega), nI_clamp (show 1 - wsd x i < 2 ^ 31 by omega), nI_clamp (show i < 2 ^ 31 by omega), nI_1, oX_in _ (show 26 + wsd x i < 54 by omega) r1'.1 i3, oX_in _ (show 26 + (1 - wsd x i) < 54 by omega) r2'.1 i4]
    refine K _ ⟨fr_A (fr_A f1 (by decide)) (by decide), fun u hu => ?_, fun u hu => ?_⟩
    · rw [sA_ne _ 52 51 _ (by decide), sA_eq, upd_i]
      split
      · rename_i e
        rw [e, f1.2 _ (n1 _ (by omega)), hp _ (by omega) i hi, pOne_at P (by omega)]
      · exact f2 u (by omega)
    · rw [sA_eq, upd_i]
      split
      · rename_i e
        rw [e, sA_ne _ 51 _ _ (by omega), f1.2 _ (n1 _ (by omega)), hp _ (by omega) i hi, pOne_at P (by omega)]
      · rw [sA_ne _ 51 52 _ (by decide)]; exact f3 u (by omega)
