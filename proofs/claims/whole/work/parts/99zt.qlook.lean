/-! LAW: look -/
/-- a number is 0 or 1 -/
theorem i_01 {b : Int32} (h0 : ¬ b < 0) (h1 : b ≤ 1) : b = 0 ∨ b = 1 := by
  obtain ⟨j, hj, rfl⟩ := nI_of h0
  rcases Nat.lt_or_ge j 2 with q | q
  · rcases (show j = 0 ∨ j = 1 by omega) with rfl | rfl
    · exact Or.inl rfl
    · exact Or.inr rfl
  · have h2 : nI 2 ≤ nI j := nI_le q hj
    rw [i_le] at h1 h2
    have e1 : (1 : Int32).toInt = 1 := rfl
    have e2 : (nI 2).toInt = 2 := rfl
    omega
theorem q_look {z w : St} (h : Inv z w) (a b : Int32) : ∃ hb t r2, f_X1_has z a = some (hb, z) ∧ (hb = 0 ∨ hb = 1) ∧ (hb = 1 → vp_in a 12) ∧ f_X12_look w a b = some (r2, sI w 0 t) ∧ Inv z (sI w 0 t) ∧ ∀ (r : Int32) (fo : Nat → Int64), lkS z hb a b r fo → t = r ∧ (r = 0 → fo 0 = r2.toInt64) := by
  have h' := h
  obtain ⟨W, H, hDy, hL, hV, hC, hN, hE, ⟨dn, hdn, d1, d2, d3, d4, _⟩, hK, hT, hF, hR⟩ := h
  have hI : ∀ t, Inv z (sI w 0 t) := fun t => Inv_q h' fr_0 (fr_I fr_0 (by decide))
  have t0 : ∀ t, (sI w 0 t).1 0 = t := fun t => rfl
  unfold f_X12_look F_X12_look_0 F_X12_look_22 F_X12_look_27 F_X12_look_58
  rcases c_draft hdn d1 d2 a with ⟨g1, g2⟩ | ⟨p, hp, rfl, g1, g2⟩
  · refine ⟨0, 1, 0, g1, Or.inl rfl, fun q => absurd q (by decide), ?_, hI 1, fun r fo hr => ?_⟩
    · simp only [oL_s, g2, oC_s, ↓reduceIte, t0, i10]
    · rcases hr with ⟨_, rfl⟩ | ⟨q, _⟩ | ⟨_, v, ⟨q, _⟩, _⟩
      · exact ⟨rfl, fun q => absurd q (by decide)⟩
      · exact absurd q (by decide)
      · exact absurd q (by decide)
  have hin : vp_in (nI p) 12 := vp_in_nI (by omega) (by decide)
  have hno : ∀ r (fo : Nat → Int64), ¬ b = 0 → ¬ b = 1 → lkS z 1 (nI p) b r fo → 2 = r ∧ (r = 0 → fo 0 = (0 : Int32).toInt64) := by
    intro r fo n0 n1 hr
    rcases hr with ⟨q, _⟩ | ⟨_, _, _, rfl⟩ | ⟨_, v, ⟨_, ⟨q, _⟩ | ⟨q, _⟩⟩, _⟩
    · exact absurd q (by decide)
    · exact ⟨rfl, fun q => absurd q (by decide)⟩
    · exact absurd q n0
    · exact absurd q n1
  by_cases q1 : b < 0
  · refine ⟨1, 2, 0, g1, Or.inr rfl, fun _ => hin, ?_, hI 2, fun r fo hr => hno r fo (fun q => ?_) (fun q => ?_) hr⟩
    · simp only [oL_s, g2, oC_s, ↓reduceIte, t0, i10, if_pos q1, show ((2 : Int32) = 0) ↔ False by decide]
    · rw [q] at q1; exact absurd q1 (by decide)
    · rw [q] at q1; exact absurd q1 (by decide)
  by_cases q2 : b ≤ 1
  · rcases i_01 q1 q2 with rfl | rfl
    · refine ⟨1, 0, z.2.1 28 p, g1, Or.inr rfl, fun _ => hin, ?_, hI 0, fun r fo hr => ?_⟩
      · simp only [oL_s, g2, oC_s, ↓reduceIte, t0, i10, if_neg q1, if_pos q2, oA_in _ hin, nI_clamp (show p < 2 ^ 31 by omega)]
        rw [d3]
        rfl
      · rcases hr with ⟨q, _⟩ | ⟨_, q, _⟩ | ⟨rfl, v, ⟨_, ⟨_, rfl⟩ | ⟨q, _⟩⟩, hv⟩
        · exact absurd q (by decide)
        · exact absurd rfl q
        · rw [nI_clamp (show p < 2 ^ 31 by omega)] at hv
          exact ⟨rfl, fun _ => hv⟩
        · exact absurd q (by decide)
    · refine ⟨1, 0, z.2.1 29 p, g1, Or.inr rfl, fun _ => hin, ?_, hI 0, fun r fo hr => ?_⟩
      · simp only [oL_s, g2, oC_s, ↓reduceIte, t0, i10, if_neg q1, if_pos q2, oA_in _ hin, nI_clamp (show p < 2 ^ 31 by omega)]
        rw [d4]
        rfl
      · rcases hr with ⟨q, _⟩ | ⟨_, _, q, _⟩ | ⟨rfl, v, ⟨_, ⟨q, _⟩ | ⟨_, rfl⟩⟩, hv⟩
        · exact absurd q (by decide)
        · exact absurd rfl q
        · exact absurd q (by decide)
        · rw [nI_clamp (show p < 2 ^ 31 by omega)] at hv
          exact ⟨rfl, fun _ => hv⟩
  · refine ⟨1, 2, 0, g1, Or.inr rfl, fun _ => hin, ?_, hI 2, fun r fo hr => hno r fo (fun q => ?_) (fun q => ?_) hr⟩
    · simp only [oL_s, g2, oC_s, ↓reduceIte, t0, i10, if_neg q1, if_neg q2, show ((2 : Int32) = 0) ↔ False by decide]
    · rw [q] at q2; exact absurd (by decide) q2
    · rw [q] at q2; exact absurd (by decide) q2
