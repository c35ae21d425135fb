/-! PURE: spans and people -/
theorem divN {a b : Nat} (ha : a < 2147483648) (hb : b < 2147483648) : nI a / nI b = nI (a / b) := by
  have hd : a / b ≤ a := Nat.div_le_self a b
  apply Int32.toInt_inj.mp
  rw [Int32.toInt_div, nI_toInt ha, nI_toInt hb, nI_toInt (by omega), show ((a : Int).tdiv (b : Int)) = ((a / b : Nat) : Int) from rfl]
  generalize a / b = q at *
  exact fb_bmod (by omega) (by omega)
theorem jmaxN {a b : Nat} (ha : a < 2147483648) (hb : b < 2147483648) : jmax (nI a) (nI b) = nI (max a b) := by
  unfold jmax
  by_cases h : a < b
  · rw [if_pos (nI_lt h hb), Nat.max_eq_right (by omega)]
  · rw [if_neg (nI_nlt (by omega) ha), Nat.max_eq_left (by omega)]
theorem jminN {a b : Nat} (ha : a < 2147483648) (hb : b < 2147483648) : jmin (nI a) (nI b) = nI (min a b) := by
  unfold jmin
  by_cases h : b < a
  · rw [if_pos (nI_lt h ha), Nat.min_eq_right (by omega)]
  · rw [if_neg (nI_nlt (by omega) hb), Nat.min_eq_left (by omega)]
/-- what a count i says of a side: at least, at most -/
def cA0 (w : St) (i s : Nat) : Nat := (if s = 0 then w.2.1 20 i else w.2.1 21 i).toNatClampNeg
def cE0 (w : St) (i : Nat) : Nat := (w.2.1 10 (w.2.1 18 i).toNatClampNeg).toNatClampNeg
def cLo (w : St) (i s : Nat) : Nat := cA0 w i s * (100 - cE0 w i) / 100
def cHi (w : St) (i s : Nat) : Nat := (cA0 w i s * (100 + cE0 w i) + 99) / 100
/-- the count i is one of the village v, and known -/
def cIs (w : St) (x : Int32) (m v i : Nat) : Bool := kn w x m i && decide (w.2.1 16 i = 3 ∧ w.2.1 19 i = nI v)
/-- the span after i notes: is there one, least, greatest -/
def spF (w : St) (x : Int32) (m v s : Nat) : Nat → Bool × Nat × Nat
  | 0 => (false, 0, 999)
  | i + 1 => if cIs w x m v i then (true, max (spF w x m v s i).2.1 (cLo w i s), if (spF w x m v s i).1 then min (spF w x m v s i).2.2 (cHi w i s) else cHi w i s) else spF w x m v s i
def ppl (w : St) (x : Int32) (m v s : Nat) : Nat := if (spF w x m v s m).2.1 ≤ (spF w x m v s m).2.2 then ((spF w x m v s m).2.1 + (spF w x m v s m).2.2) / 2 else 0
def erW (w : St) : Prop := ∀ h, h < 4 → ∃ e, e ≤ 50 ∧ w.2.1 10 h = nI e
theorem nt_count {w : St} {m n i : Nat} (h : ntW w m n) (hE : erW w) (hi : i < m) (h3 : w.2.1 16 i = 3) : ∃ hd v, hd < 4 ∧ v < n ∧ w.2.1 18 i = nI hd ∧ w.2.1 19 i = nI v ∧ (∀ s, s < 2 → cA0 w i s ≤ 999 ∧ (if s = 0 then w.2.1 20 i else w.2.1 21 i) = nI (cA0 w i s)) ∧ cE0 w i ≤ 50 ∧ w.2.1 10 hd = nI (cE0 w i) := by
  have := (h.2.2 i hi).2
  unfold noteD at this
  rw [h3] at this
  rcases this with ⟨a | a, _⟩ | ⟨a, _⟩ | ⟨_, hd, v, a, b, h1, h2, h4, h5, e1, e2, e3, e4⟩ | ⟨a, _⟩
  · exact absurd a (by decide)
  · exact absurd a (by decide)
  · exact absurd a (by decide)
  · obtain ⟨e, he, ee⟩ := hE hd h1
    refine ⟨hd, v, h1, h2, e1, e2, ?_, ?_, ?_⟩
    · intro s hs
      unfold cA0
      by_cases q : s = 0
      · rw [if_pos q, e3, nI_clamp (by omega)]; exact ⟨h4, rfl⟩
      · rw [if_neg q, e4, nI_clamp (by omega)]; exact ⟨h5, rfl⟩
    · unfold cE0; rw [e1, nI_clamp (by omega), ee, nI_clamp (by omega)]; exact he
    · unfold cE0; rw [e1, nI_clamp (by omega), ee, nI_clamp (by omega)]
  · exact absurd a (by decide)
theorem c_bd {a e : Nat} (ha : a ≤ 999) (he : e ≤ 50) : a * (100 - e) ≤ 99900 ∧ a * (100 + e) ≤ 149850 := ⟨Nat.le_trans (Nat.mul_le_mul ha (show 100 - e ≤ 100 by omega)) (by decide), Nat.le_trans (Nat.mul_le_mul ha (show 100 + e ≤ 150 by omega)) (by decide)⟩
theorem lohi {w : St} {m n i s : Nat} (h : ntW w m n) (hE : erW w) (hi : i < m) (h3 : w.2.1 16 i = 3) (hs : s < 2) : cLo w i s ≤ 999 ∧ cHi w i s ≤ 1499 := by
  obtain ⟨hd, v, _, _, _, _, h5, h6, _⟩ := nt_count h hE hi h3
  have := c_bd (h5 s hs).1 h6
  unfold cLo cHi
  omega
theorem sp_bd {w : St} {x : Int32} {m n v s : Nat} (h : ntW w m n) (hE : erW w) (hs : s < 2) : ∀ i, i ≤ m → (spF w x m v s i).2.1 ≤ 999 ∧ (spF w x m v s i).2.2 ≤ 1499 := by
  intro i
  induction i with
  | zero => intro _; exact ⟨Nat.zero_le _, show 999 ≤ 1499 by omega⟩
  | succ i ih =>
    intro hi
    have ih := ih (by omega)
    show (if cIs w x m v i then _ else _ : Bool × Nat × Nat).2.1 ≤ 999 ∧ (if cIs w x m v i then _ else _ : Bool × Nat × Nat).2.2 ≤ 1499
    by_cases q : cIs w x m v i = true
    · rw [if_pos q]
      have h3 : w.2.1 16 i = 3 := by unfold cIs at q; rw [Bool.and_eq_true, decide_eq_true_iff] at q; exact q.2.1
      have := lohi h hE (show i < m by omega) h3 hs
      refine ⟨by show max _ _ ≤ _; omega, ?_⟩
      show (if _ then _ else _) ≤ _
      split
      · exact Nat.le_trans (Nat.min_le_right _ _) this.2
      · exact this.2
    · rw [if_neg q]; exact ih
theorem ppl_bd {w : St} {x : Int32} {m n v s : Nat} (h : ntW w m n) (hE : erW w) (hs : s < 2) : ppl w x m v s ≤ 1249 := by
  have := sp_bd (x := x) (v := v) h hE hs m (Nat.le_refl _)
  unfold ppl
  split <;> omega
theorem oX_in {R : Type} {k : Nat} {i : Int32} (c : Option R) (hk : k < 54) (h0 : kdC k = 0) (h : vp_in i (lnC k)) : oX k i c = c := by
  unfold oX
  rw [if_pos ⟨hk, h0⟩, oA_in _ h]
theorem rowK : ∀ s, s < 2 → (20 + s < 54 ∧ kdC (20 + s) = 0 ∧ lnC (20 + s) = 25) ∧ (23 + s < 54 ∧ kdC (23 + s) = 0 ∧ lnC (23 + s) = 25) ∧ (26 + s < 54 ∧ kdC (26 + s) = 0 ∧ lnC (26 + s) = 25) := by decide
theorem row20 {R : Type} {s v : Nat} (hs : s < 2) (hv : v < 25) (c : Option R) : oX (20 + s) (nI v) c = c := oX_in c (rowK s hs).1.1 (rowK s hs).1.2.1 (by rw [(rowK s hs).1.2.2]; exact vp_in_nI hv (by omega))
theorem row23 {R : Type} {s v : Nat} (hs : s < 2) (hv : v < 25) (c : Option R) : oX (23 + s) (nI v) c = c := oX_in c (rowK s hs).2.1.1 (rowK s hs).2.1.2.1 (by rw [(rowK s hs).2.1.2.2]; exact vp_in_nI hv (by omega))
theorem row26 {R : Type} {s v : Nat} (hs : s < 2) (hv : v < 25) (c : Option R) : oX (26 + s) (nI v) c = c := oX_in c (rowK s hs).2.2.1 (rowK s hs).2.2.2.1 (by rw [(rowK s hs).2.2.2.2]; exact vp_in_nI hv (by omega))
theorem oD100 {R : Type} (c : Option R) : oD (100 : Int32) c = c := if_neg (by decide)
theorem oD2 {R : Type} (c : Option R) : oD (2 : Int32) c = c := if_neg (by decide)
theorem p_shareUp (z : St) {a b : Nat} (h : a * b + 99 < 2147483648) : f_X11_shareUp z (nI a) (nI b) = some (nI ((a * b + 99) / 100), z) := by
  unfold f_X11_shareUp F_X11_shareUp_0
  rw [oD100, show (99 : Int32) = nI 99 from rfl, show (100 : Int32) = nI 100 from rfl, mulN, nI_add, divN h (by omega)]
theorem p_narrow (z : St) {s v a e : Nat} (hs : s < 2) (hv : v < 25) (ha : a ≤ 999) (he : e ≤ 50) : f_X0_narrow z (nI s) (nI v) (nI a) (nI e) = some (sA (sA z (20 + s) (upd (z.2.1 (20 + s)) v (jmax (z.2.1 (20 + s) v) (nI (a * (100 - e) / 100))))) (23 + s) (upd (z.2.1 (23 + s)) v (jmin (z.2.1 (23 + s) v) (nI ((a * (100 + e) + 99) / 100))))) := by
  have bd := c_bd ha he
  have hin : vp_in (nI s) 2 := vp_in_nI hs (by omega)
  have e1 : (100 : Int32) + nI e = nI (100 + e) := by rw [show (100 : Int32) = nI 100 from rfl, nI_add]
  have e2 : (nI a * ((100 : Int32) - nI e)) / (100 : Int32) = nI (a * (100 - e) / 100) := by
    rw [show (100 : Int32) = nI 100 from rfl, nI_sub (by omega), mulN, divN (by omega) (by omega)]
  unfold f_X0_narrow F_X0_narrow_0
  rw [oD100, oL_s, e2, e1, p_shareUp z (by omega), oC_s]
  simp only [oL_s, oA_in _ hin, nI_clamp (show s < 2 ^ 31 by omega), nI_clamp (show v < 2 ^ 31 by omega), row20 hs hv, row23 hs hv, sA_ne z (20 + s) (23 + s) _ (by omega)]
