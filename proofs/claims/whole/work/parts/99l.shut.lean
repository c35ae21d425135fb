/-! PURE: best: parted finds a part that is shut off -/
theorem pt_ex {W H : Nat} (hg : 2 ≤ W ∧ W ≤ 5 ∧ 2 ≤ H ∧ H ≤ 5) {x op : Int32} (hx : bl x (W * H)) : ∀ k L, sub L x → closed W (W * H) x L → ptF W (W * H) x op k L = true → ∃ C, sub C x ∧ closed W (W * H) x C ∧ C ≠ 0 ∧ C ≠ x ∧ arnd W (W * H) C &&& op = 0 := by
  have hs := sz25 hg
  intro k
  induction k with
  | zero => intro L _ _ h; cases h
  | succ k ih =>
    intro L hL hc h
    unfold ptF at h
    by_cases c0 : L = 0
    · rw [if_pos c0] at h; cases h
    rw [if_neg c0] at h
    have lt : ∀ v, bt x v = true → v < W * H := fun v hv => bl_lt hx hv
    have inL := clo_in W (W * H) L
    have lowb : bl (L &&& (-L)) (W * H) := bl_sub (fun v hv => by rw [b_and, Bool.and_eq_true] at hv; exact hL v hv.1) hx
    have st := clo_st hg (S := L) lowb
    have ne : clo W (W * H) L (L &&& (-L)) ≠ 0 := by
      intro e
      obtain ⟨l, _, _, l2⟩ := low_ex c0
      have := itg_sup W (W * H) L 25 _ l l2
      have t : bt (clo W (W * H) L (L &&& (-L))) l = true := this
      rw [e, b_0] at t; cases t
    generalize clo W (W * H) L (L &&& (-L)) = C at *
    have cL : closed W (W * H) L C := fun u v hu hv ha => by
      rw [← st]
      unfold grow
      rw [b_or, b_and, (bt_arnd hg v).mpr ⟨u, lt u (hL u (inL u hu)), hu, ha⟩, hv]
      cases bt C v <;> rfl
    have rest : ptF W (W * H) x op k (L &&& (C ^^^ (-1 : Int32))) = true → ∃ C, sub C x ∧ closed W (W * H) x C ∧ C ≠ 0 ∧ C ≠ x ∧ arnd W (W * H) C &&& op = 0 := by
      intro h
      have hD : ∀ v, v < 32 → bt (L &&& (C ^^^ (-1 : Int32))) v = (bt L v && !bt C v) := fun v hv => by
        rw [b_and, b_xor, b_m1 v hv]
        cases bt C v <;> rfl
      refine ih _ (fun v hv => hL v (clr_sub L C v hv)) (fun u v hu hv ha => ?_) h
      have hLu := clr_sub L C u hu
      have lu := lt u (hL u hLu)
      have lv := lt v hv
      have hLv := hc u v hLu hv ha
      rw [hD u (by omega), hLu] at hu
      rw [hD v (by omega), hLv]
      cases hCv : bt C v with
      | false => rfl
      | true =>
        have := cL v u hCv hLu (by rw [k_sym W (by omega) hg.1 (W * H) (by omega) v lv u lu]; exact ha)
        rw [this] at hu; cases hu
    by_cases c1 : C = x
    · rw [if_pos c1] at h; exact rest h
    rw [if_neg c1] at h
    by_cases c2 : arnd W (W * H) C &&& op = 0
    · exact ⟨C, fun v hv => hL v (inL v hv), fun u v hu hv ha => cL u v hu (hc u v (inL u hu) hv ha) ha, ne, c1, c2⟩
    · rw [if_neg c2] at h; exact rest h
