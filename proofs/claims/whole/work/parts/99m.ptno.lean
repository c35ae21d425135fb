/-! PURE: best: what parted refuses cannot be mended -/
theorem pt_no {W H : Nat} (hg : 2 ≤ W ∧ W ≤ 5 ∧ 2 ≤ H ∧ H ≤ 5) {x op y : Int32} (hx : bl x (W * H)) (hy : bl y (W * H)) (h : ptF W (W * H) x op 25 x = true) (h1 : sub x y) (h2 : ∀ v, bt y v = true → bt x v = true ∨ bt op v = true) : 1 < pcs W (W * H) y := by
  obtain ⟨C, a1, a2, a3, a4, a5⟩ := pt_ex hg hx 25 x (fun _ q => q) (fun _ _ _ q _ => q) h
  refine cut_two hg hy (fun v hv => h1 v (a1 v hv)) (fun u v hu hv ha => ?_) a3 (fun e => a4 ?_)
  · rcases h2 v hv with q | q
    · exact a2 u v hu q ha
    · exfalso
      have t : bt (arnd W (W * H) C &&& op) v = true := by
        rw [b_and, (bt_arnd hg v).mpr ⟨u, bl_lt hx (a1 u hu), hu, ha⟩, q]; rfl
      rw [a5, b_0] at t; cases t
  · apply b_ext
    intro i _
    cases hc : bt C i with
    | true => exact (a1 i hc).symm
    | false =>
      cases hxi : bt x i with
      | false => rfl
      | true =>
        have := h1 i hxi
        rw [← e, hc] at this; cases this
