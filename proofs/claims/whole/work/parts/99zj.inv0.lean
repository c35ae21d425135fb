/-! PURE: what is made satisfies Inv -/
theorem inv_new {z w : St} (hz : newC z) (hw : laysP w0M 3 3 w) : Inv z w := by
  obtain ⟨zl, zt, zs, ⟨_, l1, l2, l3, l4, l5, l6, l7, l8, l9, l10, l11⟩, ⟨t1, t2, t3, t4, t5⟩, _, rfl⟩ := hz
  obtain ⟨⟨wi, wa⟩, w1, w2, w3, w4, w5, w6, w7⟩ := hw
  have wi' : ∀ k, k ∉ [22, 23, 24, 25, 26, 27] → k ≠ 16 → w.1 k = 0 := fun k h1 h2 => by
    rw [wi k h1]
    show (if k = 16 then (-1 : Int32) else 0) = 0
    rw [if_neg h2]
  have wa' : ∀ k, k ∉ [7, 8, 9] → k ≠ 3 → w.2.1 k = fun _ => 0 := fun k h1 h2 => by
    rw [wa k h1]
    show (if k = 3 then rule0 else fun _ => 0) = _
    rw [if_neg h2]
  have w3' : w.2.1 3 = rule0 := wa 3 (by decide)
  refine ⟨3, 3, ⟨0, by omega, rfl, wi' 21 (by decide) (by decide)⟩, ⟨⟨by omega, by omega, by omega, by omega⟩, w1, w2, l1, l2, l3, l4, l5⟩, ⟨fun v hv => ?_, fun d hd v => ?_, fun s hs v => ?_, fun v => ?_⟩, ⟨0, by omega, l8, w3, fun v hv => ?_, fun i hi => absurd hi (Nat.not_lt_zero i)⟩, ⟨0, by omega, rfl, w6, ?_, ?_, ?_, ?_, ?_, ?_, fun i hi => absurd hi (Nat.not_lt_zero i)⟩, ⟨?_, fun h hh => ⟨0, by omega, ?_⟩⟩, ⟨0, by omega, rfl, w4, ?_, ?_, fun i hi => absurd hi (Nat.not_lt_zero i)⟩, ⟨0, by omega, rfl, w5, ?_, fun i hi => absurd hi (Nat.not_lt_zero i)⟩, ⟨0, by omega, rfl, wi' 1 (by decide) (by decide), ?_, fun i hi => absurd hi (Nat.not_lt_zero i)⟩, ⟨?_, ?_⟩, ⟨⟨0, by omega, t1, ?_⟩, ⟨10, by omega, t2, ?_⟩, ⟨5, by omega, t3, ?_⟩, fun j hj => ⟨0, by omega, t5 0 j, ?_⟩, 0, by omega, t4, wi' 2 (by decide) (by decide), wi' 19 (by decide) (by decide), Or.inl ⟨rfl, wi' 4 (by decide) (by decide)⟩⟩⟩
  · obtain ⟨a, b, c⟩ := w7 v (by omega)
    exact ⟨⟨0, by omega, a⟩, Or.inl b, Or.inl c⟩
  · show bt (zl.2.1 0 d) v = _
    by_cases c : v < 3 * 3
    · obtain ⟨a, _, _⟩ := w7 v (by omega)
      by_cases e : d = 0
      · subst e
        rw [l9, l3 v, decide_eq_true c, decide_eq_true ⟨c, a⟩]
      · rw [l10 d hd e, b_0, decide_eq_false]
        rintro ⟨_, q⟩
        rw [a] at q
        exact e ((nI_eq (a := 0) (by omega) (by omega)).mp q).symm
    · by_cases e : d = 0
      · subst e
        rw [l9, l3 v, decide_eq_false c, decide_eq_false (fun q => c q.1)]
      · rw [l10 d hd e, b_0, decide_eq_false (fun q => c q.1)]
  · show bt (zl.2.1 1 s) v = _
    rw [l11 s hs, b_0, decide_eq_false]
    rintro ⟨c, q⟩
    obtain ⟨_, b, _⟩ := w7 v (by omega)
    rw [b] at q
    exact nI_nm1 (by omega) q.symm
  · show bt (zl.1 2) v = _
    rw [l6, b_0, decide_eq_false]
    rintro ⟨c, q⟩
    obtain ⟨_, _, b⟩ := w7 v (by omega)
    rw [b] at q
    exact absurd q (by decide)
  · show bt (zl.1 3) v = true ↔ _
    rw [l7, b_0]
    exact ⟨fun q => (by cases q), fun ⟨i, hi, _⟩ => absurd hi (Nat.not_lt_zero i)⟩
  · exact (wa' 16 (by decide) (by decide)).symm
  · exact (wa' 18 (by decide) (by decide)).symm
  · exact (wa' 19 (by decide) (by decide)).symm
  · exact (wa' 20 (by decide) (by decide)).symm
  · exact (wa' 21 (by decide) (by decide)).symm
  · exact (wa' 17 (by decide) (by decide)).symm
  · exact (wa' 10 (by decide) (by decide)).symm
  · rw [wa' 10 (by decide) (by decide)]; rfl
  · exact (wa' 13 (by decide) (by decide)).symm
  · exact (wa' 14 (by decide) (by decide)).symm
  · exact (wa' 15 (by decide) (by decide)).symm
  · exact (wa' 0 (by decide) (by decide)).symm
  · exact wi' 15 (by decide) (by decide)
  · show w.1 16 = -1
    rw [wi 16 (by decide)]; rfl
  · rw [w3']; rfl
  · rw [w3']; rfl
  · rw [w3']; rfl
  · rw [w3']
    rcases (show j = 0 ∨ j = 1 ∨ j = 2 by omega) with e | e | e <;> subst e <;> rfl
