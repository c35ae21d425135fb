/-! PURE: the signs of a rule, worked out alike -/
def LIM : Int64 := 1000000000000
def inb (v : Int64) : Prop := ¬ LIM < v ∧ ¬ v < -LIM
def putQ (q : St) (e : Nat) (r : Int64) : St := sI (sJ q 6 (vp_updL (q.2.2 6) e r)) 20 (nI (e + 1))
theorem p_puts (q : St) {e : Nat} (h : q.1 20 = nI e) (he : e < 72) (r : Int64) : (inb r ∧ f_X12_puts q r = some (1, putQ q e r)) ∨ (¬ inb r ∧ f_X12_puts q r = some (0, putQ q e r)) := by
  have hin : vp_in (nI e) 72 := vp_in_nI he (by omega)
  have e1 : (1000000000000 : Int64) = LIM := rfl
  have e2 : (-1000000000000 : Int64) = -LIM := rfl
  unfold f_X12_puts F_X12_puts_0 F_X12_puts_40 F_X12_puts_41
  simp only [h, oL_s, oA_in _ hin, sJ_i, nI_clamp (show e < 2 ^ 31 by omega), nI_1, lg_cmp_gt, lg_cmp_lt]
  rw [e1]
  unfold inb
  by_cases c1 : LIM < r
  · right; rw [if_pos c1, oC_s]; exact ⟨fun q => q.1 c1, oZ_0 _⟩
  · rw [if_neg c1]
    by_cases c2 : r < -LIM
    · right; rw [if_pos c2, oC_s]; exact ⟨fun q => q.2 c2, oZ_0 _⟩
    · left; rw [if_neg c2, oC_s]; exact ⟨⟨c1, c2⟩, oZ_1 _⟩
theorem inb0 : inb 0 := by unfold inb; decide
theorem inb1 : inb 1 := by unfold inb; decide
def trG (q : St) (t : Int32) : Option (Int32 × St) := oC (f_X12_is q t) fun w3 => oL w3.1 fun v1 => oL w3.2 fun s2 => oC (f_X12_puts s2 v1) fun w6 => oL w6.1 fun v4 => oL w6.2 fun s5 => some (v4, s5)
theorem trG0 (q : St) {e : Nat} (h : q.1 20 = nI e) (he : e < 72) : trG q 0 = some (1, putQ q e 0) := by
  have i0 : f_X12_is q 0 = some (0, q) := rfl
  unfold trG
  rw [i0]
  simp only [oC_s, oL_s]
  rcases p_puts q h he 0 with ⟨_, g⟩ | ⟨g, _⟩
  · rw [g, oC_s]
  · exact absurd inb0 g
theorem trG1 (q : St) {e : Nat} (h : q.1 20 = nI e) (he : e < 72) : trG q 1 = some (1, putQ q e 1) := by
  have i0 : f_X12_is q 1 = some (1, q) := rfl
  unfold trG
  rw [i0]
  simp only [oC_s, oL_s]
  rcases p_puts q h he 1 with ⟨_, g⟩ | ⟨g, _⟩
  · rw [g, oC_s]
  · exact absurd inb1 g
def OpOK (s q : St) (a v : Int32) (x y : Int64) (e : Nat) : Prop := ∃ r ok q', f_X3_worked s a x y = some (r, if ok then s else sI s 31 1) ∧ f_X12_does q v = some (b2 ok, q') ∧ fr [20] [] q q' ∧ (ok = true → inb r ∧ q'.1 20 = nI (e + 1) ∧ q'.2.2 5 = q.2.2 5 ∧ q'.2.2 6 = vp_updL (q.2.2 6) e r)
theorem op_end (s q : St) (a v : Int32) (x y : Int64) {e : Nat} {r : Int64} (hr : inb r) (h1 : f_X3_worked s a x y = some (r, s)) (h2 : F_X12_does_0 q v = some (1, putQ (sI q 20 (nI e)) e r)) : OpOK s q a v x y e := by
  refine ⟨r, true, putQ (sI q 20 (nI e)) e r, h1, ?_, fr_I (fr_J (fr_I fr_0 (by decide))) (by decide), fun _ => ⟨hr, rfl, ?_, ?_⟩⟩
  · unfold f_X12_does
    rw [h2, oC_s]; exact oZ_1 _
  · rfl
  · rfl
theorem op_bad (s q : St) (a v : Int32) (x y : Int64) {e : Nat} {r : Int64} {q' : St} (hf : fr [20] [] q q') (h1 : f_X3_worked s a x y = some (r, sI s 31 1)) (h2 : F_X12_does_0 q v = some (0, q')) : OpOK s q a v x y e := by
  refine ⟨r, false, q', h1, ?_, hf, fun h => by cases h⟩
  unfold f_X12_does
  rw [h2, oC_s]; exact oZ_0 _
section OPS
variable {s q : St} {x y : Int64} {e : Nat}
/-- the reference takes the two upper ones -/
theorem does_two (h20 : q.1 20 = nI (e + 2)) (he : e + 2 ≤ 64) (hx : q.2.2 6 e = x) (hy : q.2.2 6 (e + 1) = y) : nI (e + 2) - (2 : Int32) = nI e ∧ vp_in (nI e) 72 ∧ vp_in (nI (e + 1)) 72 := ⟨by rw [show (2 : Int32) = nI 2 from rfl, nI_sub (by omega)]; congr 1, vp_in_nI (by omega) (by omega), vp_in_nI (by omega) (by omega)⟩
theorem op_25 (h31 : s.1 31 = 0) (h20 : q.1 20 = nI (e + 2)) (he : e + 2 ≤ 64) (hx : q.2.2 6 e = x) (hy : q.2.2 6 (e + 1) = y) (ix : inb x) (iy : inb y) : OpOK s q 25 60 x y e := by
  obtain ⟨d1, d2, d3⟩ := does_two h20 he hx hy
  have k20 : (sI q 20 (nI e)).1 20 = nI e := rfl
  by_cases c : 0 ≤ lg_cmp x y
  · refine op_end s q 25 60 x y (r := 0) inb0 ?_ ?_
    · unfold f_X3_worked F_X3_worked_0
      rw [if_neg (show ¬ (25 : Int32) = 18 by decide), if_neg (show ¬ (25 : Int32) = 19 by decide), if_neg (show ¬ (25 : Int32) = 20 by decide), if_neg (show ¬ (25 : Int32) = 21 by decide), if_neg (show ¬ (25 : Int32) = 22 by decide), if_neg (show ¬ (25 : Int32) = 23 by decide), if_neg (show ¬ (25 : Int32) = 24 by decide), if_pos (show (25 : Int32) = 25 from rfl), if_pos c]
      rfl
    · unfold F_X12_does_0
      rw [if_neg (show ¬ (60 : Int32) = 260 by decide)]
      simp only [oL_s, h20, d1, sI_i, ↓reduceIte, sI_j, nI_1, oA_in _ d2, oA_in _ d3, nI_clamp (show e < 2 ^ 31 by omega), nI_clamp (show e + 1 < 2 ^ 31 by omega), hx, hy]
      rw [if_neg (show ¬ (60 : Int32) = 42 by decide), if_neg (show ¬ (60 : Int32) = 43 by decide), if_neg (show ¬ (60 : Int32) = 45 by decide), if_pos c]
      show trG (sI q 20 (nI e)) 0 = _
      exact trG0 _ k20 (by omega)
  · refine op_end s q 25 60 x y (r := 1) inb1 ?_ ?_
    · unfold f_X3_worked F_X3_worked_0
      rw [if_neg (show ¬ (25 : Int32) = 18 by decide), if_neg (show ¬ (25 : Int32) = 19 by decide), if_neg (show ¬ (25 : Int32) = 20 by decide), if_neg (show ¬ (25 : Int32) = 21 by decide), if_neg (show ¬ (25 : Int32) = 22 by decide), if_neg (show ¬ (25 : Int32) = 23 by decide), if_neg (show ¬ (25 : Int32) = 24 by decide), if_pos (show (25 : Int32) = 25 from rfl), if_neg c]
      rfl
    · unfold F_X12_does_0
      rw [if_neg (show ¬ (60 : Int32) = 260 by decide)]
      simp only [oL_s, h20, d1, sI_i, ↓reduceIte, sI_j, nI_1, oA_in _ d2, oA_in _ d3, nI_clamp (show e < 2 ^ 31 by omega), nI_clamp (show e + 1 < 2 ^ 31 by omega), hx, hy]
      rw [if_neg (show ¬ (60 : Int32) = 42 by decide), if_neg (show ¬ (60 : Int32) = 43 by decide), if_neg (show ¬ (60 : Int32) = 45 by decide), if_neg c]
      show trG (sI q 20 (nI e)) 1 = _
      exact trG1 _ k20 (by omega)
theorem op_26 (h31 : s.1 31 = 0) (h20 : q.1 20 = nI (e + 2)) (he : e + 2 ≤ 64) (hx : q.2.2 6 e = x) (hy : q.2.2 6 (e + 1) = y) (ix : inb x) (iy : inb y) : OpOK s q 26 256 x y e := by
  obtain ⟨d1, d2, d3⟩ := does_two h20 he hx hy
  have k20 : (sI q 20 (nI e)).1 20 = nI e := rfl
  by_cases c : 0 < lg_cmp x y
  · refine op_end s q 26 256 x y (r := 0) inb0 ?_ ?_
    · unfold f_X3_worked F_X3_worked_0
      rw [if_neg (show ¬ (26 : Int32) = 18 by decide), if_neg (show ¬ (26 : Int32) = 19 by decide), if_neg (show ¬ (26 : Int32) = 20 by decide), if_neg (show ¬ (26 : Int32) = 21 by decide), if_neg (show ¬ (26 : Int32) = 22 by decide), if_neg (show ¬ (26 : Int32) = 23 by decide), if_neg (show ¬ (26 : Int32) = 24 by decide), if_neg (show ¬ (26 : Int32) = 25 by decide), if_pos (show (26 : Int32) = 26 from rfl), if_pos c]
      rfl
    · unfold F_X12_does_0
      rw [if_neg (show ¬ (256 : Int32) = 260 by decide)]
      simp only [oL_s, h20, d1, sI_i, ↓reduceIte, sI_j, nI_1, oA_in _ d2, oA_in _ d3, nI_clamp (show e < 2 ^ 31 by omega), nI_clamp (show e + 1 < 2 ^ 31 by omega), hx, hy]
      rw [if_neg (show ¬ (256 : Int32) = 42 by decide), if_neg (show ¬ (256 : Int32) = 43 by decide), if_neg (show ¬ (256 : Int32) = 45 by decide), if_neg (show ¬ (256 : Int32) = 60 by decide), if_neg (show ¬ (256 : Int32) = 61 by decide), if_neg (show ¬ (256 : Int32) = 62 by decide), if_pos c]
      show trG (sI q 20 (nI e)) 0 = _
      exact trG0 _ k20 (by omega)
  · refine op_end s q 26 256 x y (r := 1) inb1 ?_ ?_
    · unfold f_X3_worked F_X3_worked_0
      rw [if_neg (show ¬ (26 : Int32) = 18 by decide), if_neg (show ¬ (26 : Int32) = 19 by decide), if_neg (show ¬ (26 : Int32) = 20 by decide), if_neg (show ¬ (26 : Int32) = 21 by decide), if_neg (show ¬ (26 : Int32) = 22 by decide), if_neg (show ¬ (26 : Int32) = 23 by decide), if_neg (show ¬ (26 : Int32) = 24 by decide), if_neg (show ¬ (26 : Int32) = 25 by decide), if_pos (show (26 : Int32) = 26 from rfl), if_neg c]
      rfl
    · unfold F_X12_does_0
      rw [if_neg (show ¬ (256 : Int32) = 260 by decide)]
      simp only [oL_s, h20, d1, sI_i, ↓reduceIte, sI_j, nI_1, oA_in _ d2, oA_in _ d3, nI_clamp (show e < 2 ^ 31 by omega), nI_clamp (show e + 1 < 2 ^ 31 by omega), hx, hy]
      rw [if_neg (show ¬ (256 : Int32) = 42 by decide), if_neg (show ¬ (256 : Int32) = 43 by decide), if_neg (show ¬ (256 : Int32) = 45 by decide), if_neg (show ¬ (256 : Int32) = 60 by decide), if_neg (show ¬ (256 : Int32) = 61 by decide), if_neg (show ¬ (256 : Int32) = 62 by decide), if_neg c]
      show trG (sI q 20 (nI e)) 1 = _
      exact trG1 _ k20 (by omega)
theorem op_27 (h31 : s.1 31 = 0) (h20 : q.1 20 = nI (e + 2)) (he : e + 2 ≤ 64) (hx : q.2.2 6 e = x) (hy : q.2.2 6 (e + 1) = y) (ix : inb x) (iy : inb y) : OpOK s q 27 61 x y e := by
  obtain ⟨d1, d2, d3⟩ := does_two h20 he hx hy
  have k20 : (sI q 20 (nI e)).1 20 = nI e := rfl
  by_cases c : lg_cmp x y = 0
  · refine op_end s q 27 61 x y (r := 1) inb1 ?_ ?_
    · unfold f_X3_worked F_X3_worked_0
      rw [if_neg (show ¬ (27 : Int32) = 18 by decide), if_neg (show ¬ (27 : Int32) = 19 by decide), if_neg (show ¬ (27 : Int32) = 20 by decide), if_neg (show ¬ (27 : Int32) = 21 by decide), if_neg (show ¬ (27 : Int32) = 22 by decide), if_neg (show ¬ (27 : Int32) = 23 by decide), if_neg (show ¬ (27 : Int32) = 24 by decide), if_neg (show ¬ (27 : Int32) = 25 by decide), if_neg (show ¬ (27 : Int32) = 26 by decide), if_pos (show (27 : Int32) = 27 from rfl), if_pos c]
      rfl
    · unfold F_X12_does_0
      rw [if_neg (show ¬ (61 : Int32) = 260 by decide)]
      simp only [oL_s, h20, d1, sI_i, ↓reduceIte, sI_j, nI_1, oA_in _ d2, oA_in _ d3, nI_clamp (show e < 2 ^ 31 by omega), nI_clamp (show e + 1 < 2 ^ 31 by omega), hx, hy]
      rw [if_neg (show ¬ (61 : Int32) = 42 by decide), if_neg (show ¬ (61 : Int32) = 43 by decide), if_neg (show ¬ (61 : Int32) = 45 by decide), if_neg (show ¬ (61 : Int32) = 60 by decide), if_pos c]
      show trG (sI q 20 (nI e)) 1 = _
      exact trG1 _ k20 (by omega)
  · refine op_end s q 27 61 x y (r := 0) inb0 ?_ ?_
    · unfold f_X3_worked F_X3_worked_0
      rw [if_neg (show ¬ (27 : Int32) = 18 by decide), if_neg (show ¬ (27 : Int32) = 19 by decide), if_neg (show ¬ (27 : Int32) = 20 by decide), if_neg (show ¬ (27 : Int32) = 21 by decide), if_neg (show ¬ (27 : Int32) = 22 by decide), if_neg (show ¬ (27 : Int32) = 23 by decide), if_neg (show ¬ (27 : Int32) = 24 by decide), if_neg (show ¬ (27 : Int32) = 25 by decide), if_neg (show ¬ (27 : Int32) = 26 by decide), if_pos (show (27 : Int32) = 27 from rfl), if_neg c]
      rfl
    · unfold F_X12_does_0
      rw [if_neg (show ¬ (61 : Int32) = 260 by decide)]
      simp only [oL_s, h20, d1, sI_i, ↓reduceIte, sI_j, nI_1, oA_in _ d2, oA_in _ d3, nI_clamp (show e < 2 ^ 31 by omega), nI_clamp (show e + 1 < 2 ^ 31 by omega), hx, hy]
      rw [if_neg (show ¬ (61 : Int32) = 42 by decide), if_neg (show ¬ (61 : Int32) = 43 by decide), if_neg (show ¬ (61 : Int32) = 45 by decide), if_neg (show ¬ (61 : Int32) = 60 by decide), if_neg c]
      show trG (sI q 20 (nI e)) 0 = _
      exact trG0 _ k20 (by omega)
theorem op_28 (h31 : s.1 31 = 0) (h20 : q.1 20 = nI (e + 2)) (he : e + 2 ≤ 64) (hx : q.2.2 6 e = x) (hy : q.2.2 6 (e + 1) = y) (ix : inb x) (iy : inb y) : OpOK s q 28 257 x y e := by
  obtain ⟨d1, d2, d3⟩ := does_two h20 he hx hy
  have k20 : (sI q 20 (nI e)).1 20 = nI e := rfl
  by_cases c : lg_cmp x y = 0
  · refine op_end s q 28 257 x y (r := 0) inb0 ?_ ?_
    · unfold f_X3_worked F_X3_worked_0
      rw [if_neg (show ¬ (28 : Int32) = 18 by decide), if_neg (show ¬ (28 : Int32) = 19 by decide), if_neg (show ¬ (28 : Int32) = 20 by decide), if_neg (show ¬ (28 : Int32) = 21 by decide), if_neg (show ¬ (28 : Int32) = 22 by decide), if_neg (show ¬ (28 : Int32) = 23 by decide), if_neg (show ¬ (28 : Int32) = 24 by decide), if_neg (show ¬ (28 : Int32) = 25 by decide), if_neg (show ¬ (28 : Int32) = 26 by decide), if_neg (show ¬ (28 : Int32) = 27 by decide), if_pos (show (28 : Int32) = 28 from rfl), if_pos c]
      rfl
    · unfold F_X12_does_0
      rw [if_neg (show ¬ (257 : Int32) = 260 by decide)]
      simp only [oL_s, h20, d1, sI_i, ↓reduceIte, sI_j, nI_1, oA_in _ d2, oA_in _ d3, nI_clamp (show e < 2 ^ 31 by omega), nI_clamp (show e + 1 < 2 ^ 31 by omega), hx, hy]
      rw [if_neg (show ¬ (257 : Int32) = 42 by decide), if_neg (show ¬ (257 : Int32) = 43 by decide), if_neg (show ¬ (257 : Int32) = 45 by decide), if_neg (show ¬ (257 : Int32) = 60 by decide), if_neg (show ¬ (257 : Int32) = 61 by decide), if_neg (show ¬ (257 : Int32) = 62 by decide), if_neg (show ¬ (257 : Int32) = 256 by decide), if_pos c]
      show trG (sI q 20 (nI e)) 0 = _
      exact trG0 _ k20 (by omega)
  · refine op_end s q 28 257 x y (r := 1) inb1 ?_ ?_
    · unfold f_X3_worked F_X3_worked_0
      rw [if_neg (show ¬ (28 : Int32) = 18 by decide), if_neg (show ¬ (28 : Int32) = 19 by decide), if_neg (show ¬ (28 : Int32) = 20 by decide), if_neg (show ¬ (28 : Int32) = 21 by decide), if_neg (show ¬ (28 : Int32) = 22 by decide), if_neg (show ¬ (28 : Int32) = 23 by decide), if_neg (show ¬ (28 : Int32) = 24 by decide), if_neg (show ¬ (28 : Int32) = 25 by decide), if_neg (show ¬ (28 : Int32) = 26 by decide), if_neg (show ¬ (28 : Int32) = 27 by decide), if_pos (show (28 : Int32) = 28 from rfl), if_neg c]
      rfl
    · unfold F_X12_does_0
      rw [if_neg (show ¬ (257 : Int32) = 260 by decide)]
      simp only [oL_s, h20, d1, sI_i, ↓reduceIte, sI_j, nI_1, oA_in _ d2, oA_in _ d3, nI_clamp (show e < 2 ^ 31 by omega), nI_clamp (show e + 1 < 2 ^ 31 by omega), hx, hy]
      rw [if_neg (show ¬ (257 : Int32) = 42 by decide), if_neg (show ¬ (257 : Int32) = 43 by decide), if_neg (show ¬ (257 : Int32) = 45 by decide), if_neg (show ¬ (257 : Int32) = 60 by decide), if_neg (show ¬ (257 : Int32) = 61 by decide), if_neg (show ¬ (257 : Int32) = 62 by decide), if_neg (show ¬ (257 : Int32) = 256 by decide), if_neg c]
      show trG (sI q 20 (nI e)) 1 = _
      exact trG1 _ k20 (by omega)
theorem op_29 (h31 : s.1 31 = 0) (h20 : q.1 20 = nI (e + 2)) (he : e + 2 ≤ 64) (hx : q.2.2 6 e = x) (hy : q.2.2 6 (e + 1) = y) (ix : inb x) (iy : inb y) : OpOK s q 29 258 x y e := by
  obtain ⟨d1, d2, d3⟩ := does_two h20 he hx hy
  have k20 : (sI q 20 (nI e)).1 20 = nI e := rfl
  by_cases c : lg_cmp x y < 0
  · refine op_end s q 29 258 x y (r := 0) inb0 ?_ ?_
    · unfold f_X3_worked F_X3_worked_0
      rw [if_neg (show ¬ (29 : Int32) = 18 by decide), if_neg (show ¬ (29 : Int32) = 19 by decide), if_neg (show ¬ (29 : Int32) = 20 by decide), if_neg (show ¬ (29 : Int32) = 21 by decide), if_neg (show ¬ (29 : Int32) = 22 by decide), if_neg (show ¬ (29 : Int32) = 23 by decide), if_neg (show ¬ (29 : Int32) = 24 by decide), if_neg (show ¬ (29 : Int32) = 25 by decide), if_neg (show ¬ (29 : Int32) = 26 by decide), if_neg (show ¬ (29 : Int32) = 27 by decide), if_neg (show ¬ (29 : Int32) = 28 by decide), if_pos (show (29 : Int32) = 29 from rfl), if_pos c]
      rfl
    · unfold F_X12_does_0
      rw [if_neg (show ¬ (258 : Int32) = 260 by decide)]
      simp only [oL_s, h20, d1, sI_i, ↓reduceIte, sI_j, nI_1, oA_in _ d2, oA_in _ d3, nI_clamp (show e < 2 ^ 31 by omega), nI_clamp (show e + 1 < 2 ^ 31 by omega), hx, hy]
      rw [if_neg (show ¬ (258 : Int32) = 42 by decide), if_neg (show ¬ (258 : Int32) = 43 by decide), if_neg (show ¬ (258 : Int32) = 45 by decide), if_neg (show ¬ (258 : Int32) = 60 by decide), if_neg (show ¬ (258 : Int32) = 61 by decide), if_neg (show ¬ (258 : Int32) = 62 by decide), if_neg (show ¬ (258 : Int32) = 256 by decide), if_neg (show ¬ (258 : Int32) = 257 by decide), if_pos c]
      show trG (sI q 20 (nI e)) 0 = _
      exact trG0 _ k20 (by omega)
  · refine op_end s q 29 258 x y (r := 1) inb1 ?_ ?_
    · unfold f_X3_worked F_X3_worked_0
      rw [if_neg (show ¬ (29 : Int32) = 18 by decide), if_neg (show ¬ (29 : Int32) = 19 by decide), if_neg (show ¬ (29 : Int32) = 20 by decide), if_neg (show ¬ (29 : Int32) = 21 by decide), if_neg (show ¬ (29 : Int32) = 22 by decide), if_neg (show ¬ (29 : Int32) = 23 by decide), if_neg (show ¬ (29 : Int32) = 24 by decide), if_neg (show ¬ (29 : Int32) = 25 by decide), if_neg (show ¬ (29 : Int32) = 26 by decide), if_neg (show ¬ (29 : Int32) = 27 by decide), if_neg (show ¬ (29 : Int32) = 28 by decide), if_pos (show (29 : Int32) = 29 from rfl), if_neg c]
      rfl
    · unfold F_X12_does_0
      rw [if_neg (show ¬ (258 : Int32) = 260 by decide)]
      simp only [oL_s, h20, d1, sI_i, ↓reduceIte, sI_j, nI_1, oA_in _ d2, oA_in _ d3, nI_clamp (show e < 2 ^ 31 by omega), nI_clamp (show e + 1 < 2 ^ 31 by omega), hx, hy]
      rw [if_neg (show ¬ (258 : Int32) = 42 by decide), if_neg (show ¬ (258 : Int32) = 43 by decide), if_neg (show ¬ (258 : Int32) = 45 by decide), if_neg (show ¬ (258 : Int32) = 60 by decide), if_neg (show ¬ (258 : Int32) = 61 by decide), if_neg (show ¬ (258 : Int32) = 62 by decide), if_neg (show ¬ (258 : Int32) = 256 by decide), if_neg (show ¬ (258 : Int32) = 257 by decide), if_neg c]
      show trG (sI q 20 (nI e)) 1 = _
      exact trG1 _ k20 (by omega)
theorem op_30 (h31 : s.1 31 = 0) (h20 : q.1 20 = nI (e + 2)) (he : e + 2 ≤ 64) (hx : q.2.2 6 e = x) (hy : q.2.2 6 (e + 1) = y) (ix : inb x) (iy : inb y) : OpOK s q 30 62 x y e := by
  obtain ⟨d1, d2, d3⟩ := does_two h20 he hx hy
  have k20 : (sI q 20 (nI e)).1 20 = nI e := rfl
  by_cases c : lg_cmp x y ≤ 0
  · refine op_end s q 30 62 x y (r := 0) inb0 ?_ ?_
    · unfold f_X3_worked F_X3_worked_0
      rw [if_neg (show ¬ (30 : Int32) = 18 by decide), if_neg (show ¬ (30 : Int32) = 19 by decide), if_neg (show ¬ (30 : Int32) = 20 by decide), if_neg (show ¬ (30 : Int32) = 21 by decide), if_neg (show ¬ (30 : Int32) = 22 by decide), if_neg (show ¬ (30 : Int32) = 23 by decide), if_neg (show ¬ (30 : Int32) = 24 by decide), if_neg (show ¬ (30 : Int32) = 25 by decide), if_neg (show ¬ (30 : Int32) = 26 by decide), if_neg (show ¬ (30 : Int32) = 27 by decide), if_neg (show ¬ (30 : Int32) = 28 by decide), if_neg (show ¬ (30 : Int32) = 29 by decide), if_pos (show (30 : Int32) = 30 from rfl), if_pos c]
      rfl
    · unfold F_X12_does_0
      rw [if_neg (show ¬ (62 : Int32) = 260 by decide)]
      simp only [oL_s, h20, d1, sI_i, ↓reduceIte, sI_j, nI_1, oA_in _ d2, oA_in _ d3, nI_clamp (show e < 2 ^ 31 by omega), nI_clamp (show e + 1 < 2 ^ 31 by omega), hx, hy]
      rw [if_neg (show ¬ (62 : Int32) = 42 by decide), if_neg (show ¬ (62 : Int32) = 43 by decide), if_neg (show ¬ (62 : Int32) = 45 by decide), if_neg (show ¬ (62 : Int32) = 60 by decide), if_neg (show ¬ (62 : Int32) = 61 by decide), if_pos c]
      show trG (sI q 20 (nI e)) 0 = _
      exact trG0 _ k20 (by omega)
  · refine op_end s q 30 62 x y (r := 1) inb1 ?_ ?_
    · unfold f_X3_worked F_X3_worked_0
      rw [if_neg (show ¬ (30 : Int32) = 18 by decide), if_neg (show ¬ (30 : Int32) = 19 by decide), if_neg (show ¬ (30 : Int32) = 20 by decide), if_neg (show ¬ (30 : Int32) = 21 by decide), if_neg (show ¬ (30 : Int32) = 22 by decide), if_neg (show ¬ (30 : Int32) = 23 by decide), if_neg (show ¬ (30 : Int32) = 24 by decide), if_neg (show ¬ (30 : Int32) = 25 by decide), if_neg (show ¬ (30 : Int32) = 26 by decide), if_neg (show ¬ (30 : Int32) = 27 by decide), if_neg (show ¬ (30 : Int32) = 28 by decide), if_neg (show ¬ (30 : Int32) = 29 by decide), if_pos (show (30 : Int32) = 30 from rfl), if_neg c]
      rfl
    · unfold F_X12_does_0
      rw [if_neg (show ¬ (62 : Int32) = 260 by decide)]
      simp only [oL_s, h20, d1, sI_i, ↓reduceIte, sI_j, nI_1, oA_in _ d2, oA_in _ d3, nI_clamp (show e < 2 ^ 31 by omega), nI_clamp (show e + 1 < 2 ^ 31 by omega), hx, hy]
      rw [if_neg (show ¬ (62 : Int32) = 42 by decide), if_neg (show ¬ (62 : Int32) = 43 by decide), if_neg (show ¬ (62 : Int32) = 45 by decide), if_neg (show ¬ (62 : Int32) = 60 by decide), if_neg (show ¬ (62 : Int32) = 61 by decide), if_neg c]
      show trG (sI q 20 (nI e)) 1 = _
      exact trG1 _ k20 (by omega)
theorem op_18 (h31 : s.1 31 = 0) (h20 : q.1 20 = nI (e + 2)) (he : e + 2 ≤ 64) (hx : q.2.2 6 e = x) (hy : q.2.2 6 (e + 1) = y) (ix : inb x) (iy : inb y) : OpOK s q 18 261 x y e := by
  obtain ⟨d1, d2, d3⟩ := does_two h20 he hx hy
  have k20 : (sI q 20 (nI e)).1 20 = nI e := rfl
  by_cases c1 : lg_cmp x (0 : Int64) = 0
  · refine op_end s q 18 261 x y (r := 0) inb0 ?_ ?_
    · unfold f_X3_worked F_X3_worked_0
      rw [if_pos (show (18 : Int32) = 18 from rfl), if_pos c1]
      rfl
    · unfold F_X12_does_0
      rw [if_neg (show ¬ (261 : Int32) = 260 by decide)]
      simp only [oL_s, h20, d1, sI_i, ↓reduceIte, sI_j, nI_1, oA_in _ d2, oA_in _ d3, nI_clamp (show e < 2 ^ 31 by omega), nI_clamp (show e + 1 < 2 ^ 31 by omega), hx, hy]
      rw [if_neg (show ¬ (261 : Int32) = 42 by decide), if_neg (show ¬ (261 : Int32) = 43 by decide), if_neg (show ¬ (261 : Int32) = 45 by decide), if_neg (show ¬ (261 : Int32) = 60 by decide), if_neg (show ¬ (261 : Int32) = 61 by decide), if_neg (show ¬ (261 : Int32) = 62 by decide), if_neg (show ¬ (261 : Int32) = 256 by decide), if_neg (show ¬ (261 : Int32) = 257 by decide), if_neg (show ¬ (261 : Int32) = 258 by decide), if_pos c1]
      show trG (sI q 20 (nI e)) 0 = _
      exact trG0 _ k20 (by omega)
  · by_cases c2 : lg_cmp y (0 : Int64) = 0
    · refine op_end s q 18 261 x y (r := 0) inb0 ?_ ?_
      · unfold f_X3_worked F_X3_worked_0
        rw [if_pos (show (18 : Int32) = 18 from rfl), if_neg c1, if_pos c2]
        rfl
      · unfold F_X12_does_0
        rw [if_neg (show ¬ (261 : Int32) = 260 by decide)]
        simp only [oL_s, h20, d1, sI_i, ↓reduceIte, sI_j, nI_1, oA_in _ d2, oA_in _ d3, nI_clamp (show e < 2 ^ 31 by omega), nI_clamp (show e + 1 < 2 ^ 31 by omega), hx, hy]
        rw [if_neg (show ¬ (261 : Int32) = 42 by decide), if_neg (show ¬ (261 : Int32) = 43 by decide), if_neg (show ¬ (261 : Int32) = 45 by decide), if_neg (show ¬ (261 : Int32) = 60 by decide), if_neg (show ¬ (261 : Int32) = 61 by decide), if_neg (show ¬ (261 : Int32) = 62 by decide), if_neg (show ¬ (261 : Int32) = 256 by decide), if_neg (show ¬ (261 : Int32) = 257 by decide), if_neg (show ¬ (261 : Int32) = 258 by decide), if_neg c1, if_pos c2]
        show trG (sI q 20 (nI e)) 0 = _
        exact trG0 _ k20 (by omega)
    · refine op_end s q 18 261 x y (r := 1) inb1 ?_ ?_
      · unfold f_X3_worked F_X3_worked_0
        rw [if_pos (show (18 : Int32) = 18 from rfl), if_neg c1, if_neg c2]
        rfl
      · unfold F_X12_does_0
        rw [if_neg (show ¬ (261 : Int32) = 260 by decide)]
        simp only [oL_s, h20, d1, sI_i, ↓reduceIte, sI_j, nI_1, oA_in _ d2, oA_in _ d3, nI_clamp (show e < 2 ^ 31 by omega), nI_clamp (show e + 1 < 2 ^ 31 by omega), hx, hy]
        rw [if_neg (show ¬ (261 : Int32) = 42 by decide), if_neg (show ¬ (261 : Int32) = 43 by decide), if_neg (show ¬ (261 : Int32) = 45 by decide), if_neg (show ¬ (261 : Int32) = 60 by decide), if_neg (show ¬ (261 : Int32) = 61 by decide), if_neg (show ¬ (261 : Int32) = 62 by decide), if_neg (show ¬ (261 : Int32) = 256 by decide), if_neg (show ¬ (261 : Int32) = 257 by decide), if_neg (show ¬ (261 : Int32) = 258 by decide), if_neg c1, if_neg c2]
        show trG (sI q 20 (nI e)) 1 = _
        exact trG1 _ k20 (by omega)
theorem op_19 (h31 : s.1 31 = 0) (h20 : q.1 20 = nI (e + 2)) (he : e + 2 ≤ 64) (hx : q.2.2 6 e = x) (hy : q.2.2 6 (e + 1) = y) (ix : inb x) (iy : inb y) : OpOK s q 19 262 x y e := by
  obtain ⟨d1, d2, d3⟩ := does_two h20 he hx hy
  have k20 : (sI q 20 (nI e)).1 20 = nI e := rfl
  by_cases c1 : lg_cmp x (0 : Int64) = 0
  · by_cases c2 : lg_cmp y (0 : Int64) = 0
    · refine op_end s q 19 262 x y (r := 0) inb0 ?_ ?_
      · unfold f_X3_worked F_X3_worked_0
        rw [if_neg (show ¬ (19 : Int32) = 18 by decide), if_pos (show (19 : Int32) = 19 from rfl), if_pos c1, if_pos c2]
        rfl
      · unfold F_X12_does_0
        rw [if_neg (show ¬ (262 : Int32) = 260 by decide)]
        simp only [oL_s, h20, d1, sI_i, ↓reduceIte, sI_j, nI_1, oA_in _ d2, oA_in _ d3, nI_clamp (show e < 2 ^ 31 by omega), nI_clamp (show e + 1 < 2 ^ 31 by omega), hx, hy]
        rw [if_neg (show ¬ (262 : Int32) = 42 by decide), if_neg (show ¬ (262 : Int32) = 43 by decide), if_neg (show ¬ (262 : Int32) = 45 by decide), if_neg (show ¬ (262 : Int32) = 60 by decide), if_neg (show ¬ (262 : Int32) = 61 by decide), if_neg (show ¬ (262 : Int32) = 62 by decide), if_neg (show ¬ (262 : Int32) = 256 by decide), if_neg (show ¬ (262 : Int32) = 257 by decide), if_neg (show ¬ (262 : Int32) = 258 by decide), if_neg (show ¬ (262 : Int32) = 261 by decide), if_pos c1, if_pos c2]
        show trG (sI q 20 (nI e)) 0 = _
        exact trG0 _ k20 (by omega)
    · refine op_end s q 19 262 x y (r := 1) inb1 ?_ ?_
      · unfold f_X3_worked F_X3_worked_0
        rw [if_neg (show ¬ (19 : Int32) = 18 by decide), if_pos (show (19 : Int32) = 19 from rfl), if_pos c1, if_neg c2]
        rfl
      · unfold F_X12_does_0
        rw [if_neg (show ¬ (262 : Int32) = 260 by decide)]
        simp only [oL_s, h20, d1, sI_i, ↓reduceIte, sI_j, nI_1, oA_in _ d2, oA_in _ d3, nI_clamp (show e < 2 ^ 31 by omega), nI_clamp (show e + 1 < 2 ^ 31 by omega), hx, hy]
        rw [if_neg (show ¬ (262 : Int32) = 42 by decide), if_neg (show ¬ (262 : Int32) = 43 by decide), if_neg (show ¬ (262 : Int32) = 45 by decide), if_neg (show ¬ (262 : Int32) = 60 by decide), if_neg (show ¬ (262 : Int32) = 61 by decide), if_neg (show ¬ (262 : Int32) = 62 by decide), if_neg (show ¬ (262 : Int32) = 256 by decide), if_neg (show ¬ (262 : Int32) = 257 by decide), if_neg (show ¬ (262 : Int32) = 258 by decide), if_neg (show ¬ (262 : Int32) = 261 by decide), if_pos c1, if_neg c2]
        show trG (sI q 20 (nI e)) 1 = _
        exact trG1 _ k20 (by omega)
  · refine op_end s q 19 262 x y (r := 1) inb1 ?_ ?_
    · unfold f_X3_worked F_X3_worked_0
      rw [if_neg (show ¬ (19 : Int32) = 18 by decide), if_pos (show (19 : Int32) = 19 from rfl), if_neg c1]
      rfl
    · unfold F_X12_does_0
      rw [if_neg (show ¬ (262 : Int32) = 260 by decide)]
      simp only [oL_s, h20, d1, sI_i, ↓reduceIte, sI_j, nI_1, oA_in _ d2, oA_in _ d3, nI_clamp (show e < 2 ^ 31 by omega), nI_clamp (show e + 1 < 2 ^ 31 by omega), hx, hy]
      rw [if_neg (show ¬ (262 : Int32) = 42 by decide), if_neg (show ¬ (262 : Int32) = 43 by decide), if_neg (show ¬ (262 : Int32) = 45 by decide), if_neg (show ¬ (262 : Int32) = 60 by decide), if_neg (show ¬ (262 : Int32) = 61 by decide), if_neg (show ¬ (262 : Int32) = 62 by decide), if_neg (show ¬ (262 : Int32) = 256 by decide), if_neg (show ¬ (262 : Int32) = 257 by decide), if_neg (show ¬ (262 : Int32) = 258 by decide), if_neg (show ¬ (262 : Int32) = 261 by decide), if_neg c1]
      show trG (sI q 20 (nI e)) 1 = _
      exact trG1 _ k20 (by omega)
theorem p_bounded (s : St) (h31 : s.1 31 = 0) (r : Int64) : (inb r ∧ f_X3_bounded s r = some (r, s)) ∨ (¬ inb r ∧ f_X3_bounded s r = some (r, sI s 31 1)) := by
  have e1 : (1000000000000 : Int64) = LIM := rfl
  have e2 : (-1000000000000 : Int64) = -LIM := rfl
  have es : sI s 31 0 = s := by rw [← h31]; exact sI_same s 31
  unfold f_X3_bounded F_X3_bounded_0 F_X3_bounded_24 F_X3_bounded_29
  rw [if_pos h31]
  simp only [lg_cmp_gt, lg_cmp_ge, oZ_0, oZ_1, oL_s]
  rw [e1, es]
  unfold inb
  by_cases c1 : LIM < r
  · right; rw [if_pos c1]; exact ⟨fun q => q.1 c1, rfl⟩
  · rw [if_neg c1]
    by_cases c2 : -LIM ≤ r
    · left; rw [if_pos c2]; exact ⟨⟨c1, Int64.not_lt.mpr c2⟩, rfl⟩
    · right; rw [if_neg c2]; exact ⟨fun q => c2 (Int64.not_lt.mp q.2), rfl⟩
theorem op_21 (h31 : s.1 31 = 0) (h20 : q.1 20 = nI (e + 2)) (he : e + 2 ≤ 64) (hx : q.2.2 6 e = x) (hy : q.2.2 6 (e + 1) = y) (ix : inb x) (iy : inb y) : OpOK s q 21 43 x y e := by
  obtain ⟨d1, d2, d3⟩ := does_two h20 he hx hy
  have k20 : (sI q 20 (nI e)).1 20 = nI e := rfl
  have cR : F_X12_does_0 q 43 = oC (f_X12_puts (sI q 20 (nI e)) (x + y)) fun w => some w := by
    unfold F_X12_does_0
    rw [if_neg (show ¬ (43 : Int32) = 260 by decide)]
    simp only [oL_s, h20, d1, sI_i, ↓reduceIte, sI_j, nI_1, oA_in _ d2, oA_in _ d3, nI_clamp (show e < 2 ^ 31 by omega), nI_clamp (show e + 1 < 2 ^ 31 by omega), hx, hy]
    rw [if_neg (show ¬ (43 : Int32) = 42 by decide)]
  have cC : f_X3_worked s 21 x y = oC (f_X3_bounded s (x + y)) fun w => some w := by
    unfold f_X3_worked F_X3_worked_0
    rw [if_neg (show ¬ (21 : Int32) = 18 by decide), if_neg (show ¬ (21 : Int32) = 19 by decide), if_neg (show ¬ (21 : Int32) = 20 by decide), if_pos (show (21 : Int32) = 21 from rfl)]
    rfl
  rcases p_bounded s h31 (x + y) with ⟨i, g⟩ | ⟨i, g⟩
  · rcases p_puts (sI q 20 (nI e)) k20 (by omega) (x + y) with ⟨_, g'⟩ | ⟨i', _⟩
    · exact op_end s q 21 43 x y i (by rw [cC, g, oC_s]) (by rw [cR, g', oC_s])
    · exact absurd i i'
  · rcases p_puts (sI q 20 (nI e)) k20 (by omega) (x + y) with ⟨i', _⟩ | ⟨_, g'⟩
    · exact absurd i' i
    · exact op_bad s q 21 43 x y (q' := putQ (sI q 20 (nI e)) e (x + y)) (fr_I (fr_J (fr_I fr_0 (by decide))) (by decide)) (by rw [cC, g, oC_s]) (by rw [cR, g', oC_s])
theorem op_22 (h31 : s.1 31 = 0) (h20 : q.1 20 = nI (e + 2)) (he : e + 2 ≤ 64) (hx : q.2.2 6 e = x) (hy : q.2.2 6 (e + 1) = y) (ix : inb x) (iy : inb y) : OpOK s q 22 45 x y e := by
  obtain ⟨d1, d2, d3⟩ := does_two h20 he hx hy
  have k20 : (sI q 20 (nI e)).1 20 = nI e := rfl
  have cR : F_X12_does_0 q 45 = oC (f_X12_puts (sI q 20 (nI e)) (x - y)) fun w => some w := by
    unfold F_X12_does_0
    rw [if_neg (show ¬ (45 : Int32) = 260 by decide)]
    simp only [oL_s, h20, d1, sI_i, ↓reduceIte, sI_j, nI_1, oA_in _ d2, oA_in _ d3, nI_clamp (show e < 2 ^ 31 by omega), nI_clamp (show e + 1 < 2 ^ 31 by omega), hx, hy]
    rw [if_neg (show ¬ (45 : Int32) = 42 by decide), if_neg (show ¬ (45 : Int32) = 43 by decide)]
  have cC : f_X3_worked s 22 x y = oC (f_X3_bounded s (x - y)) fun w => some w := by
    unfold f_X3_worked F_X3_worked_0
    rw [if_neg (show ¬ (22 : Int32) = 18 by decide), if_neg (show ¬ (22 : Int32) = 19 by decide), if_neg (show ¬ (22 : Int32) = 20 by decide), if_neg (show ¬ (22 : Int32) = 21 by decide), if_pos (show (22 : Int32) = 22 from rfl)]
    rfl
  rcases p_bounded s h31 (x - y) with ⟨i, g⟩ | ⟨i, g⟩
  · rcases p_puts (sI q 20 (nI e)) k20 (by omega) (x - y) with ⟨_, g'⟩ | ⟨i', _⟩
    · exact op_end s q 22 45 x y i (by rw [cC, g, oC_s]) (by rw [cR, g', oC_s])
    · exact absurd i i'
  · rcases p_puts (sI q 20 (nI e)) k20 (by omega) (x - y) with ⟨i', _⟩ | ⟨_, g'⟩
    · exact absurd i' i
    · exact op_bad s q 22 45 x y (q' := putQ (sI q 20 (nI e)) e (x - y)) (fr_I (fr_J (fr_I fr_0 (by decide))) (by decide)) (by rw [cC, g, oC_s]) (by rw [cR, g', oC_s])
theorem LIM_i : LIM.toInt = 1000000000000 := by decide
theorem nLIM_i : (-LIM).toInt = -1000000000000 := by decide
theorem inb_i {v : Int64} : inb v ↔ -1000000000000 ≤ v.toInt ∧ v.toInt ≤ 1000000000000 := by
  unfold inb
  rw [Int64.lt_iff_toInt_lt, Int64.lt_iff_toInt_lt, LIM_i, nLIM_i]
  omega
theorem jabs_i {v : Int64} (h : inb v) : (jabs v).toInt = v.toInt.natAbs := by
  rw [inb_i] at h
  have e0 : (0 : Int64).toInt = 0 := by decide
  unfold jabs
  by_cases c : 0 < v
  · rw [if_pos c]
    rw [Int64.lt_iff_toInt_lt, e0] at c
    omega
  · rw [if_neg c]
    rw [Int64.lt_iff_toInt_lt, e0] at c
    rw [Int64.toInt_neg, fb_bmodL (by omega) (by omega)]
    omega
theorem op_23 (h31 : s.1 31 = 0) (h20 : q.1 20 = nI (e + 2)) (he : e + 2 ≤ 64) (hx : q.2.2 6 e = x) (hy : q.2.2 6 (e + 1) = y) (ix : inb x) (iy : inb y) : OpOK s q 23 42 x y e := by
  obtain ⟨d1, d2, d3⟩ := does_two h20 he hx hy
  have k20 : (sI q 20 (nI e)).1 20 = nI e := rfl
  have cR : F_X12_does_0 q 42 = if lg_cmp x (0 : Int64) = 0 then F_X12_does_389 (sI q 20 (nI e)) x y else oDl (jabs x) (if 0 < lg_cmp (jabs y) ((1000000000000 : Int64) / (jabs x)) then F_X12_does_404 (sI q 20 (nI e)) else F_X12_does_389 (sI q 20 (nI e)) x y) := by
    unfold F_X12_does_0
    rw [if_neg (show ¬ (42 : Int32) = 260 by decide)]
    simp only [oL_s, h20, d1, sI_i, ↓reduceIte, sI_j, nI_1, oA_in _ d2, oA_in _ d3, nI_clamp (show e < 2 ^ 31 by omega), nI_clamp (show e + 1 < 2 ^ 31 by omega), hx, hy]
  have cC : f_X3_worked s 23 x y = oC (f_X3_product s x y) fun w => some w := by
    unfold f_X3_worked F_X3_worked_0
    rw [if_neg (show ¬ (23 : Int32) = 18 by decide), if_neg (show ¬ (23 : Int32) = 19 by decide), if_neg (show ¬ (23 : Int32) = 20 by decide), if_neg (show ¬ (23 : Int32) = 21 by decide), if_neg (show ¬ (23 : Int32) = 22 by decide), if_pos (show (23 : Int32) = 23 from rfl)]
    rfl
  have good : inb (x * y) → f_X3_product s x y = some (x * y, s) → F_X12_does_0 q 42 = F_X12_does_389 (sI q 20 (nI e)) x y → OpOK s q 23 42 x y e := by
    intro i g g2
    rcases p_puts (sI q 20 (nI e)) k20 (by omega) (x * y) with ⟨_, g'⟩ | ⟨i', _⟩
    · refine op_end s q 23 42 x y i (by rw [cC, g, oC_s]) ?_
      rw [g2]
      unfold F_X12_does_389 F_X12_does_405
      rw [g']
      rfl
    · exact absurd i i'
  simp only [lg_cmp_eq] at cR
  by_cases c0 : x = 0
  · rw [if_pos c0] at cR
    refine good ?_ ?_ cR
    · rw [c0, Int64.zero_mul]; exact inb0
    · unfold f_X3_product F_X3_product_0 F_X3_product_29
      simp only [lg_cmp_eq]
      rw [if_pos c0]
  · rw [if_neg c0] at cR
    have hx0 : x.toInt ≠ 0 := fun r => c0 (Int64.toInt_inj.mp (by rw [r]; decide))
    have jx := jabs_i ix
    have jy := jabs_i iy
    have nz : jabs x ≠ 0 := by
      intro r
      have := congrArg Int64.toInt r
      rw [jx, show (0 : Int64).toInt = 0 by decide] at this
      omega
    have dl : ∀ {R : Type} (c : Option R), oDl (jabs x) c = c := fun c => if_neg nz
    simp only [dl, lg_cmp_gt] at cR
    have eq1 : (1000000000000 : Int64) = LIM := rfl
    have dv : (LIM / jabs x).toInt = 1000000000000 / (x.toInt.natAbs : Int) := by
      rw [lg_ldiv_nonneg (by rw [LIM_i]; omega) (by rw [jx]; omega), LIM_i, jx]
    have pC : f_X3_product s x y = if jabs y ≤ LIM / jabs x then some (x * y, s) else some (0, sI s 31 1) := by
      unfold f_X3_product F_X3_product_0 F_X3_product_29
      simp only [lg_cmp_eq, lg_cmp_le, dl, oZ_1, oL_s]
      rw [if_neg c0, eq1]
    rw [eq1] at cR
    by_cases c1 : jabs y ≤ LIM / jabs x
    · rw [if_neg (Int64.not_lt.mpr c1)] at cR
      rw [if_pos c1] at pC
      refine good ?_ pC cR
      rw [Int64.le_iff_toInt_le, jy, dv] at c1
      have m1 : (x.toInt.natAbs : Int) * (y.toInt.natAbs : Int) ≤ 1000000000000 := by
        have := Int.mul_le_mul_of_nonneg_left c1 (show (0 : Int) ≤ (x.toInt.natAbs : Int) by omega)
        exact Int.le_trans this (Int.mul_ediv_self_le (by omega))
      have m2 : ((x.toInt * y.toInt).natAbs : Int) ≤ 1000000000000 := by
        rw [Int.natAbs_mul, Int.natCast_mul]; exact m1
      rw [inb_i, Int64.toInt_mul]
      generalize x.toInt * y.toInt = p at *
      rw [fb_bmodL (by omega) (by omega)]
      omega
    · rw [if_pos (Int64.not_le.mp c1)] at cR
      rw [if_neg c1] at pC
      exact op_bad s q 23 42 x y (q' := sI q 20 (nI e)) (fr_I fr_0 (by decide)) (by rw [cC, pC, oC_s]) (by rw [cR]; rfl)
theorem op_24 (h31 : s.1 31 = 0) (h20 : q.1 20 = nI (e + 2)) (he : e + 2 ≤ 64) (hx : q.2.2 6 e = x) (hy : q.2.2 6 (e + 1) = y) (ix : inb x) (iy : inb y) : OpOK s q 24 47 x y e := by
  obtain ⟨d1, d2, d3⟩ := does_two h20 he hx hy
  have k20 : (sI q 20 (nI e)).1 20 = nI e := rfl
  have cR : F_X12_does_0 q 47 = if lg_cmp y (0 : Int64) = 0 then F_X12_does_428 (sI q 20 (nI e)) else oDl y (oC (f_X12_puts (sI q 20 (nI e)) (x / y)) fun w16 => oL w16.1 fun v14 => oL w16.2 fun s15 => if v14 = 0 then F_X12_does_428 s15 else F_X12_does_429 s15 (1 : Int32)) := by
    unfold F_X12_does_0
    rw [if_neg (show ¬ (47 : Int32) = 260 by decide)]
    simp only [oL_s, h20, d1, sI_i, ↓reduceIte, sI_j, nI_1, oA_in _ d2, oA_in _ d3, nI_clamp (show e < 2 ^ 31 by omega), nI_clamp (show e + 1 < 2 ^ 31 by omega), hx, hy]
    rw [if_neg (show ¬ (47 : Int32) = 42 by decide), if_neg (show ¬ (47 : Int32) = 43 by decide), if_neg (show ¬ (47 : Int32) = 45 by decide), if_neg (show ¬ (47 : Int32) = 60 by decide), if_neg (show ¬ (47 : Int32) = 61 by decide), if_neg (show ¬ (47 : Int32) = 62 by decide), if_neg (show ¬ (47 : Int32) = 256 by decide), if_neg (show ¬ (47 : Int32) = 257 by decide), if_neg (show ¬ (47 : Int32) = 258 by decide), if_neg (show ¬ (47 : Int32) = 261 by decide), if_neg (show ¬ (47 : Int32) = 262 by decide)]
  have cC : f_X3_worked s 24 x y = oC (f_X3_quotient s x y) fun w => some w := by
    unfold f_X3_worked F_X3_worked_0
    rw [if_neg (show ¬ (24 : Int32) = 18 by decide), if_neg (show ¬ (24 : Int32) = 19 by decide), if_neg (show ¬ (24 : Int32) = 20 by decide), if_neg (show ¬ (24 : Int32) = 21 by decide), if_neg (show ¬ (24 : Int32) = 22 by decide), if_neg (show ¬ (24 : Int32) = 23 by decide), if_pos (show (24 : Int32) = 24 from rfl)]
    rfl
  simp only [lg_cmp_eq] at cR
  have qC : f_X3_quotient s x y = if y = 0 then some (0, sI s 31 1) else oDl y (some (x / y, s)) := by
    unfold f_X3_quotient F_X3_quotient_0
    simp only [lg_cmp_eq, oZ_1, oL_s]
  by_cases c0 : y = 0
  · rw [if_pos c0] at cR qC
    exact op_bad s q 24 47 x y (q' := sI q 20 (nI e)) (fr_I fr_0 (by decide)) (by rw [cC, qC, oC_s]) (by rw [cR]; rfl)
  · have dl : ∀ {R : Type} (c : Option R), oDl y c = c := fun c => if_neg c0
    rw [if_neg c0, dl] at cR qC
    have i : inb (x / y) := by
      rw [inb_i] at ix ⊢
      rw [Int64.toInt_div]
      have b1 : (x.toInt.tdiv y.toInt).natAbs ≤ x.toInt.natAbs := by rw [Int.natAbs_tdiv]; exact Nat.div_le_self _ _
      generalize x.toInt.tdiv y.toInt = p at *
      rw [fb_bmodL (by omega) (by omega)]
      omega
    rcases p_puts (sI q 20 (nI e)) k20 (by omega) (x / y) with ⟨_, g'⟩ | ⟨i', _⟩
    · refine op_end s q 24 47 x y i (by rw [cC, qC, oC_s]) ?_
      rw [cR, g']
      rfl
    · exact absurd i i'
end OPS
