/-! PURE: best: a piece lies within -/
theorem itg_in (W n : Nat) (L : Int32) : ∀ k p, sub p L → sub (itg W n L k p) L
  | 0, _, h => h
  | k + 1, p, h => itg_in W n L k (grow W n L p) (fun v hv => by
    unfold grow at hv
    rw [b_or, b_and, Bool.or_eq_true, Bool.and_eq_true] at hv
    rcases hv with q | q
    · exact h v q
    · exact q.2)
theorem clo_in (W n : Nat) (L : Int32) : sub (clo W n L (L &&& (-L))) L := itg_in W n L 25 _ (fun v h => by rw [b_and, Bool.and_eq_true] at h; exact h.1)
theorem p_parted' {z : St} {W H : Nat} (hG : geoC z W H) {x : Int32} (hx : bl x (W * H)) (op : Int32) : f_X4_parted z x op = some (b2 (ptF W (W * H) x op 25 x), z) := p_parted hG hx (fun L hL => bl_sub (clo_in W (W * H) L) hL) op
theorem pcs_0 (W n : Nat) : pcs W n 0 = 0 := by
  unfold pcs pcsF
  rw [if_pos rfl]
