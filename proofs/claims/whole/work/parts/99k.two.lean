/-! PURE: best: a shut-off part makes two pieces -/
theorem one_clo {W n : Nat} {y : Int32} (h0 : y ≠ 0) (h : pcs W n y ≤ 1) : clo W n y (y &&& (-y)) = y := by
  have p := pt_0 W n y
  rw [decide_eq_false (by omega)] at p
  unfold ptF at p
  rw [if_neg h0] at p
  by_cases c : clo W n y (y &&& (-y)) = y
  · exact c
  · have a0 : arnd W n (clo W n y (y &&& (-y))) &&& (0 : Int32) = 0 := by
      apply b_ext
      intro i _
      rw [b_and, b_0, Bool.and_false]
    rw [if_neg c, if_pos a0] at p
    cases p
theorem cut_two {W H : Nat} (hg : 2 ≤ W ∧ W ≤ 5 ∧ 2 ≤ H ∧ H ≤ 5) {y C : Int32} (hy : bl y (W * H)) (hC : sub C y) (hcl : closed W (W * H) y C) (c1 : C ≠ 0) (c2 : C ≠ y) : 1 < pcs W (W * H) y := by
  have hs := sz25 hg
  rcases Nat.lt_or_ge 1 (pcs W (W * H) y) with q | q
  · exact q
  exfalso
  have y0 : y ≠ 0 := by
    intro e
    obtain ⟨u, _, hu, _⟩ := low_ex c1
    have := hC u hu
    rw [e, b_0] at this; cases this
  have e := one_clo y0 q
  obtain ⟨l, hl32, l1, l2⟩ := low_ex y0
  have ll := (bt_low _ hl32).mp l2
  have only : ∀ v, bt (y &&& (-y)) v = true → v = l := by
    intro v hv
    rcases Nat.lt_or_ge v 32 with q | q
    · have lv := (bt_low _ q).mp hv
      rcases Nat.lt_trichotomy v l with a | a | a
      · have := ll.2 v a; rw [lv.1] at this; cases this
      · exact a
      · have := lv.2 l a; rw [l1] at this; cases this
    · rw [b_big q] at hv; cases hv
  have inside : ∀ D, sub D y → closed W (W * H) y D → bt D l = true → sub y D := by
    intro D hD hc hl
    have := itg_cl hg hD hc 25 (y &&& (-y)) (fun v hv => by rw [only v hv]; exact hl)
    intro v hv
    rw [← e] at hv
    have hv' : bt (itg W (W * H) y 25 (y &&& (-y))) v = true := hv
    rw [this.1] at hv'
    exact this.2 v hv'
  have ext : ∀ {a b : Int32}, sub a b → sub b a → a = b := fun {a b} h1 h2 => b_ext (fun i _ => by
    cases ha : bt a i <;> cases hb : bt b i
    · rfl
    · rw [h2 i hb] at ha; cases ha
    · rw [h1 i ha] at hb; cases hb
    · rfl)
  cases hlC : bt C l with
  | true => exact c2 (ext hC (inside C hC hcl hlC))
  | false =>
    have hD : ∀ v, v < 32 → bt (y &&& (C ^^^ (-1 : Int32))) v = (bt y v && !bt C v) := fun v hv => by
      rw [b_and, b_xor, b_m1 v hv]
      cases bt C v <;> rfl
    have lt : ∀ v, bt y v = true → v < W * H := fun v hv => bl_lt hy hv
    have := inside (y &&& (C ^^^ (-1 : Int32))) (clr_sub y C) (fun u v hu hv ha => by
      have hyu := clr_sub y C u hu
      have lu := lt u hyu
      have lv := lt v hv
      rw [hD u (by omega), hyu] at hu
      rw [hD v (by omega), hv]
      cases hCv : bt C v with
      | false => rfl
      | true =>
        have := hcl v u hCv hyu (by rw [k_sym W (by omega) hg.1 (W * H) (by omega) v lv u lu]; exact ha)
        rw [this] at hu; cases hu) (by rw [hD l hl32, l1, hlC]; rfl)
    obtain ⟨u, hu32, hu, _⟩ := low_ex c1
    have q1 := this u (hC u hu)
    rw [hD u hu32, hu, Bool.not_true, Bool.and_false] at q1
    cases q1
