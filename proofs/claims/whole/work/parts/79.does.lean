/-! PURE: harm, does -/
/-- Inv for a land of W by H -/
def IvA (z w : St) (W H : Nat) : Prop := ivDay z w ∧ ivLand z w W H ∧ ivVil z w (W * H) ∧ ivCan z w (W * H) ∧ ivNote z w (W * H) ∧ ivErr z w ∧ ivDraft z w (W * H) ∧ ivCand z w (W * H) ∧ ivTape z w ∧ ivFault z w ∧ ivTerms z w
theorem IvA_i {z w : St} {W H : Nat} (h : IvA z w W H) : Inv z w := ⟨W, H, h⟩
theorem IvA_q {z z' w w' : St} {W H : Nat} (h : IvA z w W H) (hz : fr cI cA z z') (hw : fr rI rA w w') : IvA z' w' W H := by
  obtain ⟨i, a⟩ := hz
  obtain ⟨j, b⟩ := hw
  unfold IvA ivDay ivLand ivVil ivCan canOK ivNote noteOK ivErr ivDraft ivCand ivTape ivFault ivTerms at h ⊢
  rw [i 0 (by decide), i 1 (by decide), i 2 (by decide), i 3 (by decide), i 13 (by decide), i 14 (by decide), i 15 (by decide), i 16 (by decide), i 21 (by decide), i 22 (by decide), i 23 (by decide), i 24 (by decide), i 25 (by decide), i 26 (by decide), i 27 (by decide), i 28 (by decide), i 29 (by decide), i 30 (by decide), i 37 (by decide),
    a 0 (by decide), a 1 (by decide), a 2 (by decide), a 3 (by decide), a 7 (by decide), a 8 (by decide), a 9 (by decide), a 10 (by decide), a 11 (by decide), a 12 (by decide), a 13 (by decide), a 14 (by decide), a 15 (by decide), a 16 (by decide), a 18 (by decide), a 28 (by decide), a 29 (by decide), a 37 (by decide),
    j 1 (by decide), j 2 (by decide), j 4 (by decide), j 15 (by decide), j 16 (by decide), j 19 (by decide), j 21 (by decide), j 22 (by decide), j 23 (by decide), j 24 (by decide), j 25 (by decide), j 26 (by decide), j 27 (by decide),
    b 0 (by decide), b 1 (by decide), b 2 (by decide), b 3 (by decide), b 7 (by decide), b 8 (by decide), b 9 (by decide), b 10 (by decide), b 11 (by decide), b 12 (by decide), b 13 (by decide), b 14 (by decide), b 15 (by decide), b 16 (by decide), b 17 (by decide), b 18 (by decide), b 19 (by decide), b 20 (by decide), b 21 (by decide)]
  exact h
theorem IvA_0 {z w : St} {W H : Nat} (h : IvA z w W H) : IvA z (sI w 0 0) W H := IvA_q h fr_0 (fr_I fr_0 (by decide))
theorem cen {z w : St} {W H : Nat} (h : IvA z w W H) (x : Int32) : ∃ P z' w', f_X0_take z x = some z' ∧ f_X12_reckons w x = some w' ∧ IvA z' w' W H ∧ plC z' P (W * H) ∧ plR w' P (W * H) ∧ (∀ v s, s < 2 → P v s ≤ 1249) := by
  have h' := h
  obtain ⟨hDy, hL, hV, hC, hN, hE, hD, hK, hT, hF, hR⟩ := h
  obtain ⟨m, z', w', hw, g1, ⟨f1, _, p1⟩, g2, ⟨f2, _, p2⟩⟩ := cens hL hN hE x
  exact ⟨ppl w x m, z', w', g1, g2, IvA_q h' (fr_m f1 (by decide) (by decide)) (fr_m f2 (by decide) (by decide)), fun s hs v hv => (p1 s hs v hv).1, fun s hs v hv => p2 s hs v hv, fun v s hs => ppl_bd hw hE.2 hs⟩
def hmN (w : St) (P : Nat → Nat → Nat) (W n c f0 f1 f2 : Nat) (x : Int32) : Nat := ((wrN P x n + f0 * fb_ct (dsB w x) n) + f1 * fb_sm (svN w W n x) n) + f2 * fb_sm (ctN w x) c
theorem p_heed (z : St) : f_X10_heed z = some (sI (sI (sI z 34 (z.2.1 1 0)) 35 (z.2.1 1 1)) 36 (z.2.1 1 2)) := by
  have i0 : vp_in (0 : Int32) 3 := by unfold vp_in; decide
  have i1 : vp_in (1 : Int32) 3 := by unfold vp_in; decide
  have i2 : vp_in (2 : Int32) 3 := by unfold vp_in; decide
  unfold f_X10_heed F_X10_heed_0
  simp only [oL_s, oA_in _ i0, oA_in _ i1, oA_in _ i2, sI_a]
  rfl
theorem p_harm {z w : St} {W H c f0 f1 f2 : Nat} {P : Nat → Nat → Nat} (hG : geoC z W H) (hV : ivVil z w (W * H)) (hc : c ≤ 6) (e25 : z.1 25 = nI c) (hC : ∀ i, i < c → ∃ k, k ≤ 5 ∧ canOK z w (W * H) i k) (hp : plC z P (W * H)) (g0 : z.2.1 1 0 = nI f0) (g1 : z.2.1 1 1 = nI f1) (g2 : z.2.1 1 2 = nI f2) (x : Int32) : f_X10_harm z x = some (nI (hmN w P W (W * H) c f0 f1 f2 x), sI (sI (sI z 34 (nI f0)) 35 (nI f1)) 36 (nI f2)) := by
  have hs := sz25 hG.1
  unfold f_X10_harm F_X10_harm_0
  rw [p_heed, g0, g1, g2]
  simp only [oC_s, oL_s]
  have hG' : geoC (sI (sI (sI z 34 (nI f0)) 35 (nI f1)) 36 (nI f2)) W H := hG
  have hV' : ivVil (sI (sI (sI z 34 (nI f0)) 35 (nI f1)) 36 (nI f2)) w (W * H) := hV
  have hC' : ∀ i, i < c → ∃ k, k ≤ 5 ∧ canOK (sI (sI (sI z 34 (nI f0)) 35 (nI f1)) 36 (nI f2)) w (W * H) i k := hC
  have hp' : plC (sI (sI (sI z 34 (nI f0)) 35 (nI f1)) 36 (nI f2)) P (W * H) := hp
  have e34 : (sI (sI (sI z 34 (nI f0)) 35 (nI f1)) 36 (nI f2)).1 34 = nI f0 := rfl
  have e35 : (sI (sI (sI z 34 (nI f0)) 35 (nI f1)) 36 (nI f2)).1 35 = nI f1 := rfl
  have e36 : (sI (sI (sI z 34 (nI f0)) 35 (nI f1)) 36 (nI f2)).1 36 = nI f2 := rfl
  have e25' : (sI (sI (sI z 34 (nI f0)) 35 (nI f1)) 36 (nI f2)).1 25 = nI c := e25
  generalize sI (sI (sI z 34 (nI f0)) 35 (nI f1)) 36 (nI f2) = q at *
  simp only [p_wrong hs.2 hG'.2.2.1 hp', p_desecrated hs.2 hV', p_severed hG' hV', sev_eq hG' (w := w), p_cut hs.2 hc e25' hG'.2.2.2.1 hC', oC_s, e34, e35, e36, mulN, nI_add]
  rfl
theorem p_harmR {z w : St} {W H c f0 f1 f2 : Nat} {P : Nat → Nat → Nat} (hG : geoR w W H) (hV : ivVil z w (W * H)) (hc : c ≤ 6) (e24 : w.1 24 = nI c) (hC : ∀ i, i < c → ∃ k, k ≤ 5 ∧ canOK z w (W * H) i k) (hp : plR w P (W * H)) (g0 : w.2.1 3 1 = nI f0) (g1 : w.2.1 3 2 = nI f1) (g2 : w.2.1 3 3 = nI f2) (x : Int32) : f_X12_harm w x = some (nI (hmN w P W (W * H) c f0 f1 f2 x), w) := by
  have hs := sz25 hG.1
  have i1 : vp_in (1 : Int32) 12 := by unfold vp_in; decide
  have i2 : vp_in (2 : Int32) 12 := by unfold vp_in; decide
  have i3 : vp_in (3 : Int32) 12 := by unfold vp_in; decide
  have g0' : w.2.1 3 (Int32.toNatClampNeg (1 : Int32)) = nI f0 := g0
  have g1' : w.2.1 3 (Int32.toNatClampNeg (2 : Int32)) = nI f1 := g1
  have g2' : w.2.1 3 (Int32.toNatClampNeg (3 : Int32)) = nI f2 := g2
  unfold f_X12_harm F_X12_harm_0
  simp only [p_wrongR hG hp, p_desecratedR hG hV, p_severedR hG (fun v hv => (hV.1 v hv).2.2), p_cutR hs.2 hc e24 hC, oC_s, oL_s, oA_in _ i1, oA_in _ i2, oA_in _ i3, g0', g1', g2', mulN, nI_add]
  rfl
theorem p_allR {w : St} {W H : Nat} (hG : geoR w W H) : f_X12_all w = some (nI (2 ^ (W * H) - 1), w) := by
  have hs := sz25 hG.1
  unfold f_X12_all F_X12_all_0
  simp only [p_cells, oC_s, oL_s, hG.2.1, hG.2.2, mulN]
  rw [shl1 (by omega), show (1 : Int32) = nI 1 from rfl, nI_sub Nat.one_le_two_pow]
theorem q_does {z w : St} (h : Inv z w) (x1 x2 x3 : Int32) : Ok (f_X11_does z x1 x2 x3) (f_X12_does_ w x1 x2 x3) := by
  have h' := h
  obtain ⟨W, H, hA⟩ := h
  have hL := hA.2.1
  have hs := sz25 hL.1
  unfold f_X11_does F_X11_does_0 F_X11_does_18 f_X12_does_ F_X12_does__0 F_X12_does__20
  rcases c_line (w := sI w 0 0) hL x1 with ⟨g1, g2⟩ | ⟨L, hl, rfl, g1, g2⟩
  · simp only [oL_s, g1, g2, oC_s, ↓reduceIte]
    exact ⟨-1, _, _, rfl, rfl, Inv_0 h'⟩
  simp only [oL_s, g1, g2, oC_s, i10, ↓reduceIte]
  rcases c_day z (sI w 0 0) x2 with ⟨d1, d2⟩ | ⟨k, hk, rfl, d1, d2⟩
  · simp only [d1, d2, oC_s, oL_s, ↓reduceIte]
    exact ⟨-1, _, _, rfl, rfl, Inv_0 h'⟩
  simp only [d1, d2, oC_s, oL_s, i10, ↓reduceIte]
  obtain ⟨P, z', w', t1, t2, hA', pC, pR, bd⟩ := cen (IvA_0 hA) (nI k)
  rw [t1, t2]
  simp only [oC_s]
  obtain ⟨_, hL', hV', ⟨c, hc, c1, c2, _, hC'⟩, _, _, _, _, _, _, hT'⟩ := id hA'
  obtain ⟨_, _, _, hwt, _⟩ := hT'
  obtain ⟨f0, _, f0a, f0b⟩ := hwt 0 (by omega)
  obtain ⟨f1, _, f1a, f1b⟩ := hwt 1 (by omega)
  obtain ⟨f2, _, f2a, f2b⟩ := hwt 2 (by omega)
  have gC := geo_C hL'
  have gR := geo_R hL'
  have hi : Inv z' w' := IvA_i hA'
  have bL : bl (nI L) (W * H) := bl_of (by omega) hl
  have bR : bl (z'.1 22 &&& (nI L ^^^ (-1 : Int32))) (W * H) := fun i hi => by rw [rest_bt hs.2 gC.2.2.2.1, decide_eq_false (by omega)]; rfl
  have e22 : nI (2 ^ (W * H) - 1) = z'.1 22 := (allL hL').symm
  simp only [p_wrong hs.2 gC.2.2.1 pC, p_wrongR gR pR, p_pieces gC.1 gC bL, p_piecesR gR.1 gR bL, p_allR gR, e22, p_pieces gC.1 gC bR, p_piecesR gR.1 gR bR, p_cut hs.2 hc c1 gC.2.2.2.1 hC', p_cutR hs.2 hc c2 hC', p_severed gC hV', sev_eq gC (w := w'), p_severedR gR (fun v hv => (hV'.1 v hv).2.2), p_desecrated hs.2 hV', p_desecratedR gR hV', p_harm gC hV' hc c1 hC' pC f0a f1a f2a, p_harmR gR hV' hc c2 hC' pR f0b f1b f2b, oC_s]
  by_cases q0 : x3 = 0
  · rw [if_pos q0, if_pos q0]; exact ⟨_, _, _, rfl, rfl, hi⟩
  rw [if_neg q0, if_neg q0]
  by_cases q1 : x3 = 1
  · rw [if_pos q1, if_pos q1]; exact ⟨_, _, _, rfl, rfl, hi⟩
  rw [if_neg q1, if_neg q1]
  by_cases q2 : x3 = 2
  · rw [if_pos q2, if_pos q2]; exact ⟨_, _, _, rfl, rfl, hi⟩
  rw [if_neg q2, if_neg q2]
  by_cases q3 : x3 = 3
  · rw [if_pos q3, if_pos q3]; exact ⟨_, _, _, rfl, rfl, hi⟩
  rw [if_neg q3, if_neg q3]
  by_cases q4 : x3 = 4
  · rw [if_pos q4, if_pos q4]; exact ⟨_, _, _, rfl, rfl, hi⟩
  rw [if_neg q4, if_neg q4]
  by_cases q5 : x3 = 5
  · rw [if_pos q5, if_pos q5]; exact ⟨_, _, _, rfl, rfl, hi⟩
  rw [if_neg q5, if_neg q5]
  by_cases q6 : x3 = 6
  · rw [if_pos q6, if_pos q6]
    exact ⟨_, _, _, rfl, rfl, IvA_i (IvA_q hA' (fr_I (fr_I (fr_I fr_0 (by decide)) (by decide)) (by decide)) fr_0)⟩
  rw [if_neg q6, if_neg q6]
  exact ⟨_, _, _, rfl, rfl, hi⟩
