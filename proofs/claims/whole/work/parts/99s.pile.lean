/-! PURE: terms: a rule's signs, the pile, the knots -/
/-- how strongly a sign of the pile binds -/
def bnd (x : Int32) : Nat := if x = 42 then 6 else if x = 43 then 5 else if x = 45 then 5 else if x = 47 then 6 else if x = 60 then 4 else if x = 61 then 4 else if x = 62 then 4 else if x = 256 then 4 else if x = 257 then 4 else if x = 258 then 4 else if x = 260 then 3 else if x = 261 then 2 else if x = 262 then 1 else 0
theorem p_bind (w : St) (x : Int32) : f_X12_bind w x = some (nI (bnd x), w) := by
  unfold f_X12_bind F_X12_bind_0 F_X12_bind_126 F_X12_bind_124 F_X12_bind_122 bnd
  by_cases h42 : x = 42
  · rw [if_pos h42, if_pos h42]; rfl
  rw [if_neg h42, if_neg h42]
  by_cases h43 : x = 43
  · rw [if_pos h43, if_pos h43]; rfl
  rw [if_neg h43, if_neg h43]
  by_cases h45 : x = 45
  · rw [if_pos h45, if_pos h45]; rfl
  rw [if_neg h45, if_neg h45]
  by_cases h47 : x = 47
  · rw [if_pos h47, if_pos h47]; rfl
  rw [if_neg h47, if_neg h47]
  by_cases h60 : x = 60
  · rw [if_pos h60, if_pos h60]; rfl
  rw [if_neg h60, if_neg h60]
  by_cases h61 : x = 61
  · rw [if_pos h61, if_pos h61]; rfl
  rw [if_neg h61, if_neg h61]
  by_cases h62 : x = 62
  · rw [if_pos h62, if_pos h62]; rfl
  rw [if_neg h62, if_neg h62]
  by_cases h256 : x = 256
  · rw [if_pos h256, if_pos h256]; rfl
  rw [if_neg h256, if_neg h256]
  by_cases h257 : x = 257
  · rw [if_pos h257, if_pos h257]; rfl
  rw [if_neg h257, if_neg h257]
  by_cases h258 : x = 258
  · rw [if_pos h258, if_pos h258]; rfl
  rw [if_neg h258, if_neg h258]
  by_cases h260 : x = 260
  · rw [if_pos h260, if_pos h260]; rfl
  rw [if_neg h260, if_neg h260]
  by_cases h261 : x = 261
  · rw [if_pos h261, if_pos h261]; rfl
  rw [if_neg h261, if_neg h261]
  by_cases h262 : x = 262
  · rw [if_pos h262, if_pos h262]; rfl
  rw [if_neg h262, if_neg h262]
  rfl
theorem bnd_le (x : Int32) : bnd x ≤ 6 := by
  unfold bnd
  repeat' split
  all_goals omega
/-- one more than the rank of a token, 0 if it is no sign between -/
def rk1 (t : Int32) : Nat := if t = 18 then 2 else if t = 19 then 1 else if t = 21 then 5 else if t = 22 then 5 else if t = 23 then 6 else if t = 24 then 6 else if t < 25 then 0 else if 30 < t then 0 else 4
theorem p_rankOf (z : St) (t : Int32) : f_X6_rankOf z t = some (nI (rk1 t) - 1, z) := by
  unfold f_X6_rankOf F_X6_rankOf_0 F_X6_rankOf_48 F_X6_rankOf_50 F_X6_rankOf_52 F_X6_rankOf_68 F_X6_rankOf_69 rk1
  by_cases h18 : t = 18
  · rw [if_pos h18, if_pos h18]; rfl
  rw [if_neg h18, if_neg h18]
  by_cases h19 : t = 19
  · rw [if_pos h19, if_pos h19]; rfl
  rw [if_neg h19, if_neg h19]
  by_cases h20 : t = 20
  · subst h20; rfl
  rw [if_neg h20]
  by_cases h21 : t = 21
  · rw [if_pos h21, if_pos h21]; rfl
  rw [if_neg h21, if_neg h21]
  by_cases h22 : t = 22
  · rw [if_pos h22, if_pos h22]; rfl
  rw [if_neg h22, if_neg h22]
  by_cases h23 : t = 23
  · rw [if_pos h23, if_pos h23]; rfl
  rw [if_neg h23, if_neg h23]
  by_cases h24 : t = 24
  · rw [if_pos h24, if_pos h24]; rfl
  rw [if_neg h24, if_neg h24]
  by_cases h25 : t < 25
  · rw [if_pos h25, if_pos h25]; rfl
  rw [if_neg h25, if_neg h25]
  by_cases h30 : (30 : Int32) < t
  · rw [if_pos h30, if_pos h30]; rfl
  rw [if_neg h30, if_neg h30]; rfl
theorem rk1_le (t : Int32) : rk1 t ≤ 6 := by
  unfold rk1
  repeat' split
  all_goals omega
theorem rk_eq {t : Int32} {r : Nat} (hr : r ≤ 6) : nI (rk1 t) - 1 = nI r ↔ rk1 t = r + 1 := by
  have h := rk1_le t
  constructor
  · intro q
    have q2 : nI (rk1 t) - 1 + 1 = nI r + 1 := by rw [q]
    rw [Int32.sub_add_cancel, nI_1] at q2
    exact (nI_eq (by omega) (by omega)).mp q2
  · intro q
    rw [q]
    exact nI_sub (b := 1) (by omega)
/-- a sign of the class and of the pile -/
def sgnR (k v : Int32) : Prop := (k = 17 ∧ v = 260) ∨ (k = 18 ∧ v = 261) ∨ (k = 19 ∧ v = 262) ∨ ∃ i, i < 10 ∧ k = nI (21 + i) ∧ v = nI (sgV i)
/-- how many a knot of the class takes -/
def arF (a : Int32) : Nat := if a = 17 then 1 else if a = 20 then 0 else if ¬ a < 11 ∧ a ≤ 16 then 0 else 2
theorem ar_nm : ∀ j, j < 6 → arF (nI (11 + j)) = 0 := by decide +kernel
theorem ar_sg : ∀ i, i < 10 → arF (nI (21 + i)) = 2 := by decide +kernel
theorem knot_ar {a b s v : Int32} {t : Nat} (h : knotR a b s v t) : t = arF a := by
  rcases h with ⟨h1, h2, _⟩ | ⟨h1, _, j, hj, h2, _⟩ | ⟨h1, _, h2, _⟩ | ⟨h1, _, h2⟩
  · rw [h1, h2]; rfl
  · rw [h1, h2, ar_nm j hj]
  · rw [h1, h2]; rfl
  · rw [h1]
    rcases h2 with ⟨e, _⟩ | ⟨e, _⟩ | ⟨e, _⟩ | ⟨e, _⟩ | ⟨e, _⟩ | ⟨e, _⟩ | ⟨e, _⟩ | ⟨e, _⟩ | ⟨e, _⟩ | ⟨e, _⟩ | ⟨e, _⟩ | ⟨e, _⟩ <;> rw [e] <;> rfl
theorem sgn_knot {k v b : Int32} (h : sgnR k v) : ∃ t, knotR k b 2 v t := by
  unfold knotR
  rcases h with ⟨h1, h2⟩ | ⟨h1, h2⟩ | ⟨h1, h2⟩ | ⟨i, hi, h1, h2⟩
  · exact ⟨1, Or.inr (Or.inr (Or.inl ⟨rfl, rfl, h1, h2⟩))⟩
  · exact ⟨2, Or.inr (Or.inr (Or.inr ⟨rfl, rfl, Or.inr (Or.inl ⟨h1, h2⟩)⟩))⟩
  · exact ⟨2, Or.inr (Or.inr (Or.inr ⟨rfl, rfl, Or.inl ⟨h1, h2⟩⟩))⟩
  · refine ⟨2, Or.inr (Or.inr (Or.inr ⟨rfl, rfl, Or.inr (Or.inr ?_)⟩))⟩
    rcases (show i = 0 ∨ i = 1 ∨ i = 2 ∨ i = 3 ∨ i = 4 ∨ i = 5 ∨ i = 6 ∨ i = 7 ∨ i = 8 ∨ i = 9 by omega) with e | e | e | e | e | e | e | e | e | e <;> subst e
    · exact Or.inl ⟨h1, h2⟩
    · exact Or.inr (Or.inl ⟨h1, h2⟩)
    · exact Or.inr (Or.inr (Or.inl ⟨h1, h2⟩))
    · exact Or.inr (Or.inr (Or.inr (Or.inl ⟨h1, h2⟩)))
    · exact Or.inr (Or.inr (Or.inr (Or.inr (Or.inl ⟨h1, h2⟩))))
    · exact Or.inr (Or.inr (Or.inr (Or.inr (Or.inr (Or.inl ⟨h1, h2⟩)))))
    · exact Or.inr (Or.inr (Or.inr (Or.inr (Or.inr (Or.inr (Or.inl ⟨h1, h2⟩))))))
    · exact Or.inr (Or.inr (Or.inr (Or.inr (Or.inr (Or.inr (Or.inr (Or.inl ⟨h1, h2⟩)))))))
    · exact Or.inr (Or.inr (Or.inr (Or.inr (Or.inr (Or.inr (Or.inr (Or.inr (Or.inl ⟨h1, h2⟩))))))))
    · exact Or.inr (Or.inr (Or.inr (Or.inr (Or.inr (Or.inr (Or.inr (Or.inr (Or.inr ⟨h1, h2⟩))))))))
/-- the first m knots of the class leave d on the pile -/
def wfK (a : Nat → Int32) : Nat → Nat → Prop
  | 0, d => d = 0
  | m + 1, d => ∃ e, wfK a m e ∧ arF (a m) ≤ e ∧ d = e - arF (a m) + 1
theorem wfK_cong {a a' : Nat → Int32} : ∀ {m d : Nat}, (∀ i, i < m → a' i = a i) → wfK a m d → wfK a' m d
  | 0, _, _, h => h
  | m + 1, _, hc, ⟨e, h1, h2, h3⟩ => ⟨e, wfK_cong (fun i hi => hc i (by omega)) h1, by rw [hc m (by omega)]; exact h2, by rw [hc m (by omega)]; exact h3⟩
theorem kn_of {a b s v : Nat → Int32} : ∀ {m d : Nat}, wfK a m d → (∀ i, i < m → ∃ t, knotR (a i) (b i) (s i) (v i) t) → knotsR a b s v m d
  | 0, _, h, _ => h
  | m + 1, _, ⟨e, h1, h2, h3⟩, hk => by
    obtain ⟨t, ht⟩ := hk m (by omega)
    have et := knot_ar ht
    exact ⟨e, t, kn_of h1 (fun i hi => hk i (by omega)), ht, by omega, by rw [et]; exact h3⟩
/-- class and reference in the midst of a rule: m knots are out in both, q more in the class alone (they still lie on the reference's pile, on top of p others), K of the p are signs, o are open -/
def pR (n a c m q p o K : Nat) (z w : St) : Prop :=
  (rdR n a z w ∧ tokR (z.1 6) (z.1 8) (w.1 11) (w.1 12) ∧ z.1 7 = w.1 10 ∧ z.1 12 = 2) ∧
  (z.1 10 = nI c ∧ w.1 5 = nI c ∧ c ≤ 64 ∧ c = m + q + K ∧ p ≤ K + o ∧ o ≤ 8) ∧
  (z.1 20 = nI (m + q) ∧ w.1 3 = nI m ∧ w.1 17 = nI (p + q) ∧ w.1 18 = nI o ∧ w.1 13 = 0) ∧
  (∀ i, i < m → ∃ t, knotR (z.2.1 5 i) (z.2.1 6 i) (w.2.1 1 (64 + i)) (w.2.1 2 (64 + i)) t) ∧
  (∀ i, i < q → sgnR (z.2.1 5 (m + i)) (w.2.1 4 (p + q - 1 - i)))
/-- what reading a rule changes -/
def fzT (z z' : St) : Prop := fr [2, 3, 5, 6, 7, 8, 10, 20] [5, 6] z z'
def fwT (w w' : St) : Prop := fr [3, 5, 9, 10, 11, 12, 13, 14, 17, 18] [1, 2, 4] w w' ∧ ∀ i, i < 64 → w'.2.1 1 i = w.2.1 1 i ∧ w'.2.1 2 i = w.2.1 2 i
theorem fwT_0 {w : St} : fwT w w := ⟨fr_0, fun _ _ => ⟨rfl, rfl⟩⟩
theorem fwT_t {x y w : St} (a : fwT x y) (b : fwT y w) : fwT x w := ⟨fr_t a.1 b.1, fun i hi => ⟨((b.2 i hi).1).trans (a.2 i hi).1, ((b.2 i hi).2).trans (a.2 i hi).2⟩⟩
theorem fwT_n {w w' : St} (f : fr [3, 5, 9, 10, 11, 12, 13, 14, 17, 18] [4] w w') : fwT w w' := ⟨fr_m f (fun _ h => h) (by decide), fun i _ => ⟨by rw [f.2 1 (by decide)], by rw [f.2 2 (by decide)]⟩⟩
theorem p_out {w : St} {m : Nat} (hm : m < 64) (e3 : w.1 3 = nI m) (x y : Int32) : f_X12_out w x y = some (sI (sA (sA w 1 (upd (w.2.1 1) (64 + m) x)) 2 (upd (w.2.1 2) (64 + m) y)) 3 (nI (m + 1))) := by
  have e : (64 : Int32) + nI m = nI (64 + m) := nI_add 64 m
  have i1 : vp_in (nI (64 + m)) 128 := vp_in_nI (by omega) (by omega)
  have e3' : ∀ g, (sA w 1 g).1 3 = nI m := fun _ => e3
  have e3'' : ∀ g g', (sA (sA w 1 g) 2 g').1 3 = nI m := fun _ _ => e3
  unfold f_X12_out F_X12_out_0
  rw [e3, e, oA_in _ i1, nI_clamp (by omega)]
  simp only [oL_s]
  rw [e3', e, oA_in _ i1, nI_clamp (by omega), e3'', nI_1]
  rfl
theorem fwT_out {w : St} {m : Nat} {g h : Nat → Int32} (hg : ∀ i, i < 64 → g i = w.2.1 1 i) (hh : ∀ i, i < 64 → h i = w.2.1 2 i) {v : Int32} : fwT w (sI (sA (sA w 1 g) 2 h) 3 v) := by
  refine ⟨fr_I (fr_A (fr_A fr_0 (by decide)) (by decide)) (by decide), fun i hi => ⟨?_, ?_⟩⟩
  · show (sA (sA w 1 g) 2 h).2.1 1 i = _
    rw [sA_ne _ 2 _ _ (by omega), sA_eq]; exact hg i hi
  · show (sA (sA w 1 g) 2 h).2.1 2 i = _
    rw [sA_eq]; exact hh i hi
theorem p_emit {z : St} {M : Nat} (hM : M < 64) (e12 : z.1 12 = 2) (e20 : z.1 20 = nI M) (x y : Int32) : f_X6_emit z x y = some (sI (sA (sA z 5 (upd (z.2.1 5) M x)) 6 (upd (z.2.1 6) M y)) 20 (nI (M + 1))) := by
  have i1 : vp_in (nI M) 64 := vp_in_nI (by omega) (by omega)
  have tt : ∀ c : Option St, oT (2 : Int32) c = c := fun c => rfl
  have q : ¬ (64 : Int32) ≤ nI M := nI_ge (b := 64) hM (by omega)
  have a1 : ∀ g, (sA z 5 g).1 12 = 2 := fun _ => e12
  have a2 : ∀ g, (sA z 5 g).1 20 = nI M := fun _ => e20
  have b1' : ∀ g h, (sA (sA z 5 g) 6 h).1 12 = 2 := fun _ _ => e12
  have b2' : ∀ g h, (sA (sA z 5 g) 6 h).1 20 = nI M := fun _ _ => e20
  unfold f_X6_emit F_X6_emit_0 F_X6_emit_57
  rw [e12, e20, tt, if_neg q, tt, tt, oA_in _ i1, nI_clamp (by omega)]
  simp only [oL_s]
  rw [a1, a2, tt, tt, oA_in _ i1, nI_clamp (by omega), b1', b2', tt, nI_1]
  rfl
/-- the reference pours what binds at least l -/
theorem p_pour {n a c q1 p o K l : Nat} {z : St} (hl : 1 ≤ l) (hl7 : l ≤ 7) : ∀ q2 m w k, pR n a c m (q1 + q2) p o K z w → (0 < p + q1 → bnd (w.2.1 4 (p + q1 - 1)) < l) → (∀ i, p + q1 ≤ i → i < p + q1 + q2 → l ≤ bnd (w.2.1 4 i)) → q2 < k → ∃ w', F_X12_pour_0 k w (nI l) = some w' ∧ pR n a c (m + q2) q1 p o K z w' ∧ fwT w w' ∧ w'.2.1 4 = w.2.1 4 := by
  intro q2
  induction q2 with
  | zero =>
    intro m w k h hb _ hk
    obtain ⟨k, rfl⟩ : ∃ k', k = k' + 1 := ⟨k - 1, by omega⟩
    obtain ⟨hA, ⟨c1, c2, c3, c4, c5, c6⟩, ⟨d1, d2, d3, d4, d5⟩, hk1, hk2⟩ := id h
    refine ⟨w, ?_, h, fwT_0, rfl⟩
    show F_X12_pour_0_b (F_X12_pour_0 k) w (nI l) = _
    unfold F_X12_pour_0_b F_X12_pour_52
    rw [d3]
    by_cases c : p + (q1 + 0) = 0
    · rw [if_pos (by rw [c]; decide)]
    · have q : ¬ nI (p + (q1 + 0)) ≤ 0 := nI_ge (a := 0) (by omega) (by omega)
      have e : nI (p + (q1 + 0)) - (1 : Int32) = nI (p + q1 - 1) := nI_sub (b := 1) (by omega)
      have hb' := hb (by omega)
      rw [if_neg q, e, oA_in _ (vp_in_nI (by omega) (by omega)), nI_clamp (by omega), p_bind]
      simp only [oC_s, oL_s]
      rw [if_pos (nI_lt hb' (by omega))]
  | succ q2 ih =>
    intro m w k h hb hp hk
    obtain ⟨k, rfl⟩ : ∃ k', k = k' + 1 := ⟨k - 1, by omega⟩
    obtain ⟨hA, ⟨c1, c2, c3, c4, c5, c6⟩, ⟨d1, d2, d3, d4, d5⟩, hk1, hk2⟩ := id h
    show ∃ w', F_X12_pour_0_b (F_X12_pour_0 k) w (nI l) = _ ∧ _
    unfold F_X12_pour_0_b
    have q : ¬ nI (p + (q1 + (q2 + 1))) ≤ 0 := nI_ge (a := 0) (by omega) (by omega)
    have e : nI (p + (q1 + (q2 + 1))) - (1 : Int32) = nI (p + (q1 + q2)) := nI_sub (b := 1) (by omega)
    have hb' := hp (p + (q1 + q2)) (by omega) (by omega)
    have bl6 := bnd_le (w.2.1 4 (p + (q1 + q2)))
    have i96 : vp_in (nI (p + (q1 + q2))) 96 := vp_in_nI (by omega) (by omega)
    rw [d3, if_neg q, e, oA_in _ i96, nI_clamp (by omega), p_bind]
    simp only [oC_s, oL_s]
    rw [if_neg (nI_nlt hb' (by omega)), d3, e]
    have e17 : (sI w 17 (nI (p + (q1 + q2)))).1 17 = nI (p + (q1 + q2)) := rfl
    have e4 : (sI w 17 (nI (p + (q1 + q2)))).2.1 4 = w.2.1 4 := rfl
    rw [e17, oA_in _ i96, nI_clamp (by omega), e4, p_out (w := sI w 17 (nI (p + (q1 + q2)))) (m := m) (by omega) d2]
    simp only [oC_s, oL_s]
    generalize hw1 : sI (sA (sA (sI w 17 (nI (p + (q1 + q2)))) 1 (upd ((sI w 17 (nI (p + (q1 + q2)))).2.1 1) (64 + m) 2)) 2 (upd ((sI w 17 (nI (p + (q1 + q2)))).2.1 2) (64 + m) (w.2.1 4 (p + (q1 + q2))))) 3 (nI (m + 1)) = w1
    have f1 : fwT w w1 := by
      rw [← hw1]
      refine fwT_t (y := sI w 17 (nI (p + (q1 + q2)))) (fwT_n (fr_I fr_0 (by decide))) (fwT_out (m := m) (fun i hi => ?_) (fun i hi => ?_))
      · rw [upd_i, if_neg (by omega)]
      · rw [upd_i, if_neg (by omega)]
    have a1 : ∀ i, w1.2.1 1 i = if i = 64 + m then 2 else w.2.1 1 i := fun i => by rw [← hw1]; rfl
    have a2 : ∀ i, w1.2.1 2 i = if i = 64 + m then w.2.1 4 (p + (q1 + q2)) else w.2.1 2 i := fun i => by rw [← hw1]; rfl
    have a4 : w1.2.1 4 = w.2.1 4 := by rw [← hw1]; rfl
    have a0 : w1.2.1 0 = w.2.1 0 := by rw [← hw1]; rfl
    have e3 : w1.1 3 = nI (m + 1) := by rw [← hw1]; rfl
    have e17' : w1.1 17 = nI (p + (q1 + q2)) := by rw [← hw1]; rfl
    have eo : ∀ j, j ≠ 3 → j ≠ 17 → w1.1 j = w.1 j := fun j h1 h2 => by
      rw [← hw1]
      show (sI (sI w 17 _) 3 _).1 j = _
      rw [sI_i, if_neg h1, sI_i, if_neg h2]
    clear hw1
    have pr : pR n a c (m + 1) (q1 + q2) p o K z w1 := by
      obtain ⟨⟨r1, r2, r3, r4, r5, r6, r7, r8⟩, t1, t2, t3⟩ := hA
      refine ⟨⟨⟨r1, r2, r3, ?_, r5, ?_, ?_, ?_⟩, ?_, ?_, t3⟩, ⟨c1, ?_, c3, by omega, c5, c6⟩, ⟨?_, e3, e17', ?_, ?_⟩, ?_, ?_⟩
      · rw [eo 8 (by omega) (by omega)]; exact r4
      · rw [eo 9 (by omega) (by omega)]; exact r6
      · rw [a0]; exact r7
      · rw [a0, eo 14 (by omega) (by omega)]; exact r8
      · rw [eo 11 (by omega) (by omega), eo 12 (by omega) (by omega)]; exact t1
      · rw [eo 10 (by omega) (by omega)]; exact t2
      · rw [eo 5 (by omega) (by omega)]; exact c2
      · rw [d1]; congr 1; omega
      · rw [eo 18 (by omega) (by omega)]; exact d4
      · rw [eo 13 (by omega) (by omega)]; exact d5
      · intro i hi
        rw [a1, a2]
        by_cases ei : i = m
        · subst ei
          rw [if_pos rfl, if_pos rfl]
          have := hk2 0 (by omega)
          rw [Nat.add_zero, show p + (q1 + (q2 + 1)) - 1 - 0 = p + (q1 + q2) by omega] at this
          exact sgn_knot this
        · rw [if_neg (by omega), if_neg (by omega)]
          exact hk1 i (by omega)
      · intro i hi
        have := hk2 (i + 1) (by omega)
        rw [show m + (i + 1) = m + 1 + i by omega, show p + (q1 + (q2 + 1)) - 1 - (i + 1) = p + (q1 + q2) - 1 - i by omega] at this
        rw [a4]; exact this
    obtain ⟨w', g1, g2, g3, g4⟩ := ih (m + 1) w1 k pr (by rw [a4]; exact hb) (by rw [a4]; exact fun i h1 h2 => hp i h1 (by omega)) (by omega)
    refine ⟨w', g1, ?_, fwT_t f1 g3, g4.trans a4⟩
    rw [show m + (q2 + 1) = m + 1 + q2 by omega]; exact g2
