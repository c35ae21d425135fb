/-! PURE: terms: the lines -/
theorem rows_ok : ∀ d r o, r ≤ 6 → o ≤ 8 → (8 - o) * 7 + (7 - r) ≤ d → RowOK (f_X6_row d) r o := by
  intro d
  induction d with
  | zero => intro r o hr ho hd; omega
  | succ d ih =>
    intro r o hr ho hd n a c m p K e z w h hw htop hnot
    show rowP (oC (F_X6_row_0 (f_X6_row d) z (nI r) (nI o)) fun w => oZ w.1 (some w)) n a c p o K e r 0 z w
    refine rowP_k ?_ (fun _ => rfl) (fun _ => rfl)
    by_cases c2 : r = 2
    · subst c2
      unfold F_X6_row_0
      rw [if_pos (show nI 2 = (2 : Int32) from rfl)]
      refine rowP_k ?_ (fun _ => rfl) (fun _ => rfl)
      unfold f_X6_negated F_X6_negated_0
      refine rowP_k ?_ (fun _ => rfl) (fun _ => rfl)
      have hp := h.2.1.2.2.2.2.1
      exact row_not hp (ih 3 o (by omega) ho (by omega)) 100000 0 a c z w (by omega) (by omega) h hw (fun i i1 i2 => by omega) htop
    · by_cases c6 : r = 6
      · subst c6
        unfold F_X6_row_0
        have q2 : ¬ nI 6 = (2 : Int32) := by decide
        have q6 : ¬ nI 6 < (6 : Int32) := by decide
        rw [if_neg q2, if_neg q6]
        refine rowP_k ?_ (fun _ => rfl) (fun _ => rfl)
        unfold f_X6_part
        refine rowP_k ?_ (fun _ => rfl) (fun _ => rfl)
        exact row_part (fun ho8 => ih 0 (o + 1) (by omega) (by omega) (by omega)) h hw (hnot (by omega))
      · exact row_bin (by omega) c2 (ih (r + 1) o (by omega) ho (by omega)) n a c m p K e z w h hw htop hnot
/-- what reading lines changes -/
def fzL (z z' : St) : Prop := fr [2, 3, 5, 6, 7, 8, 9, 10, 11, 17, 18, 19, 20] [4, 5, 6] z z'
def fwL (w w' : St) : Prop := fr [3, 5, 6, 7, 9, 10, 11, 12, 13, 14, 17, 18] [1, 2, 3, 4] w w' ∧ (∀ i, i < 64 → w'.2.1 1 i = w.2.1 1 i ∧ w'.2.1 2 i = w.2.1 2 i) ∧ ∀ i, i < 6 → w'.2.1 3 i = w.2.1 3 i
theorem fwL_0 {w : St} : fwL w w := ⟨fr_0, fun _ _ => ⟨rfl, rfl⟩, fun _ _ => rfl⟩
theorem fwL_t {x y w : St} (a : fwL x y) (b : fwL y w) : fwL x w := ⟨fr_t a.1 b.1, fun i hi => ⟨((b.2.1 i hi).1).trans (a.2.1 i hi).1, ((b.2.1 i hi).2).trans (a.2.1 i hi).2⟩, fun i hi => (b.2.2 i hi).trans (a.2.2 i hi)⟩
theorem fwL_T {w w' : St} (h : fwT w w') : fwL w w' := ⟨fr_m h.1 (by decide) (by decide), h.2, fun i _ => by rw [h.1.2 3 (by decide)]⟩
theorem fwL_n {w w' : St} (f : fr [3, 5, 6, 7, 9, 10, 11, 12, 13, 14, 17, 18] [] w w') : fwL w w' := ⟨fr_m f (fun _ h => h) (by decide), fun i _ => ⟨by rw [f.2 1 List.not_mem_nil], by rw [f.2 2 List.not_mem_nil]⟩, fun i _ => by rw [f.2 3 List.not_mem_nil]⟩
theorem fwL_3 {w w' : St} {s : Nat} {x : Int32} (f : fr [3, 5, 6, 7, 9, 10, 11, 12, 13, 14, 17, 18] [3] w w') (e : w'.2.1 3 = upd (w.2.1 3) (6 + s) x) : fwL w w' := ⟨fr_m f (fun _ h => h) (by decide), fun i _ => ⟨by rw [f.2 1 (by decide)], by rw [f.2 2 (by decide)]⟩, fun i hi => by rw [e, upd_i, if_neg (by omega)]⟩
theorem fzL_T {z z' : St} (h : fzT z z') : fzL z z' := fr_m h (by decide) (by decide)
/-- the words that a line may begin with, or that weigh may name -/
def kK (v : Nat) : Bool := v == 0 || v == 1 || v == 3 || v == 4 || v == 8 || v == 9 || v == 10
theorem kK_lt {v : Nat} (h : kK v = true) : v < 11 := by
  rcases Nat.lt_or_ge v 11 with q | q
  · exact q
  · unfold kK at h
    simp only [Bool.or_eq_true, beq_iff_eq] at h
    omega
theorem k_inj : ∀ u, u < 11 → ∀ v, v < 11 → (pmW u = pmW v ↔ u = v) := by decide +kernel
/-- t lines are told -/
def tdR (t : Nat) (z w : St) : Prop := (∀ v, kK v = true → bt (z.1 11) (pmW v) = bt (w.1 7) v) ∧ (∀ v, kK v = false → bt (w.1 7) v = false) ∧ pc (w.1 7) = t
theorem td_7 {t : Nat} {z w : St} (h : tdR t z w) : t ≤ 7 := by
  obtain ⟨_, h2, h3⟩ := h
  have : fb_ct (bt (w.1 7)) 32 ≤ fb_ct kK 32 := fb_ct_sub (fun k _ hk => by
    cases q : kK k with
    | true => rfl
    | false => rw [h2 k q] at hk; cases hk)
  have e : fb_ct kK 32 = 7 := by decide +kernel
  rw [← h3]
  show fb_ct (bt (w.1 7)) 32 ≤ 7
  omega
def ruR (z w : St) : Prop := (∃ u, u ≤ 2 ∧ z.1 17 = nI u ∧ w.2.1 3 6 = nI u) ∧ (∃ f, f ≤ 100 ∧ z.1 18 = nI f ∧ w.2.1 3 10 = nI f) ∧ (∃ f, f ≤ 100 ∧ z.1 19 = nI f ∧ w.2.1 3 11 = nI f) ∧ ∀ j, j < 3 → ∃ f, f ≤ 999 ∧ z.2.1 4 j = nI f ∧ w.2.1 3 (7 + j) = nI f
/-- between lines: m knots, t lines told, l counted -/
def lR0 (n a m t l : Nat) (z w : St) : Prop :=
  (rdR n a z w ∧ tokR (z.1 6) (z.1 8) (w.1 11) (w.1 12) ∧ z.1 7 = w.1 10 ∧ z.1 12 = 2 ∧ w.1 13 = 0 ∧ w.1 6 = nI l) ∧
  (z.1 10 = nI m ∧ w.1 5 = nI m ∧ m ≤ 64 ∧ z.1 20 = nI m ∧ w.1 3 = nI m ∧ ∀ i, i < m → ∃ t, knotR (z.2.1 5 i) (z.2.1 6 i) (w.2.1 1 (64 + i)) (w.2.1 2 (64 + i)) t) ∧
  tdR t z w ∧ ruR z w
/-- the rule is told and whole, or not told and empty -/
def fsR (m : Nat) (z w : St) : Prop := (bt (w.1 7) 1 = false ∧ m = 0) ∨ (bt (w.1 7) 1 = true ∧ wfK (z.2.1 5) m 1)
theorem lR_mk {n a a' m t l : Nat} {z w z' w' : St} (h : lR0 n a m t l z w) (f1 : fr [5, 6, 7, 8, 9, 17, 18, 19] [4] z z') (f2 : fr [9, 10, 11, 12] [3] w w') (hr : rdR n a' z' w') (ht : tokR (z'.1 6) (z'.1 8) (w'.1 11) (w'.1 12)) (hp : z'.1 7 = w'.1 10) (hu : ruR z' w') : lR0 n a' m t l z' w' := by
  obtain ⟨⟨a1, a2, a3, a4, a5, a6⟩, ⟨b1, b2, b3, b4, b5, b6⟩, ⟨t1, t2, t3⟩, _⟩ := h
  refine ⟨⟨hr, ht, hp, ?_, ?_, ?_⟩, ⟨?_, ?_, b3, ?_, ?_, ?_⟩, ⟨?_, ?_, ?_⟩, hu⟩
  · rw [f1.1 12 (by decide)]; exact a4
  · rw [f2.1 13 (by decide)]; exact a5
  · rw [f2.1 6 (by decide)]; exact a6
  · rw [f1.1 10 (by decide)]; exact b1
  · rw [f2.1 5 (by decide)]; exact b2
  · rw [f1.1 20 (by decide)]; exact b4
  · rw [f2.1 3 (by decide)]; exact b5
  · rw [f1.2 5 (by decide), f1.2 6 (by decide), f2.2 1 (by decide), f2.2 2 (by decide)]; exact b6
  · rw [f1.1 11 (by decide), f2.1 7 (by decide)]; exact t1
  · rw [f2.1 7 (by decide)]; exact t2
  · rw [f2.1 7 (by decide)]; exact t3
theorem ru_fr {z w z' w' : St} (h : ruR z w) (f1 : fr [5, 6, 7, 8, 9] [] z z') (f2 : fr [9, 10, 11, 12] [] w w') : ruR z' w' := by
  unfold ruR at h ⊢
  rw [f1.1 17 (by decide), f1.1 18 (by decide), f1.1 19 (by decide), f1.2 4 List.not_mem_nil, f2.2 3 List.not_mem_nil]
  exact h
theorem lR_adv {n a m t l : Nat} {z w : St} (h : lR0 n a m t l z w) (ht : z.1 6 ≠ 34) : ∃ z' w' a', f_X6_advance z = some z' ∧ f_X12_next w = some w' ∧ lR0 n a' m t l z' w' ∧ fr [5, 6, 7, 8] [] z z' ∧ fr [9, 10, 11, 12] [] w w' ∧ muT n a' (z'.1 6) + 1 ≤ muT n a (z.1 6) := by
  obtain ⟨z', w', a', g1, g2, g3, g4, g5, g6, g7, g8⟩ := p_adv h.1.1 ht
  exact ⟨z', w', a', g1, g2, lR_mk h (fr_m g4 (by decide) (by decide)) (fr_m g5 (by decide) (by decide)) g3 g6 g7 (ru_fr h.2.2.2 (fr_m g4 (by decide) (by decide)) g5), g4, g5, g8⟩
theorem fs_fr {m : Nat} {z w z' w' : St} (h : fsR m z w) (e1 : z'.2.1 5 = z.2.1 5) (e2 : w'.1 7 = w.1 7) : fsR m z' w' := by
  unfold fsR
  rw [e1, e2]; exact h
/-- a line's end -/
def lnP (cl : Option (Int32 × St)) (rf : Option St) (n a l : Nat) (z w : St) : Prop := (∃ z' w', cl = some (0, z') ∧ rf = some w' ∧ fzL z z' ∧ fwL w w' ∧ bad z' w') ∨ (∃ z' w' a' m', cl = some (1, z') ∧ rf = some w' ∧ fzL z z' ∧ fwL w w' ∧ lR0 n a' m' (l + 1) (l + 1) z' w' ∧ fsR m' z' w' ∧ muT n a' (z'.1 6) + 1 ≤ muT n a (z.1 6))
theorem lnP_t {cl : Option (Int32 × St)} {rf : Option St} {n a a0 l : Nat} {z w z0 w0 : St} (f1 : fzL z0 z) (f2 : fwL w0 w) (hm : muT n a (z.1 6) ≤ muT n a0 (z0.1 6)) (h : lnP cl rf n a l z w) : lnP cl rf n a0 l z0 w0 := by
  rcases h with ⟨z', w', g1, g2, g3, g4, g5⟩ | ⟨z', w', a', m', g1, g2, g3, g4, g5, g6, g7⟩
  · exact Or.inl ⟨z', w', g1, g2, fr_t f1 g3, fwL_t f2 g4, g5⟩
  · exact Or.inr ⟨z', w', a', m', g1, g2, fr_t f1 g3, fwL_t f2 g4, g5, g6, by omega⟩
theorem semi {n a m l : Nat} {z w : St} (h : lR0 n a m (l + 1) l z w) (hf : fsR m z w) : lnP (f_X6_pass z 33) (F_X12_line_125 w) n a l z w := by
  obtain ⟨⟨a1, a2, a3, a4, a5, a6⟩, _⟩ := id h
  have is := p_isSign (i := 12) (by omega) a2
  unfold f_X6_pass F_X6_pass_0 F_X12_line_125 F_X12_line_154
  rw [if_pos a5]
  by_cases c : z.1 6 = 33
  · obtain ⟨z', w', a', g1, g2, g3, g4, g5, g6⟩ := lR_adv h (by rw [c]; decide)
    rw [decide_eq_true (show z.1 6 = nI (21 + 12) from c)] at is
    have is' : f_X12_isSign w 59 = some (1, w) := is
    have n1 : ¬ (1 : Int32) = 0 := by decide
    rw [if_pos c, g1, is']
    simp only [oC_s, oL_s, n1, ↓reduceIte]
    rw [g2]
    simp only [oC_s, oL_s]
    have e6 : w'.1 6 + (1 : Int32) = nI (l + 1) := by rw [g3.1.2.2.2.2.2, nI_1]
    rw [e6]
    refine Or.inr ⟨z', sI w' 6 (nI (l + 1)), a', m, rfl, rfl, fr_m g4 (by decide) (by decide), fwL_n (fr_I (fr_m g5 (by decide) (by decide)) (by decide)), ?_, fs_fr hf (by rw [g4.2 5 List.not_mem_nil]) (by show w'.1 7 = _; rw [g5.1 7 (by decide)]), g6⟩
    obtain ⟨⟨b1, b2, b3, b4, b5, b6⟩, hb, ht, hu⟩ := g3
    exact ⟨⟨b1, b2, b3, b4, b5, rfl⟩, hb, ht, hu⟩
  · rw [decide_eq_false (show ¬ z.1 6 = nI (21 + 12) from c)] at is
    have is' : f_X12_isSign w 59 = some (0, w) := is
    rw [if_neg c, is', p_refuse]
    simp only [oC_s, oL_s, ↓reduceIte]
    rw [p_wrong0 a5]
    simp only [oC_s, oL_s]
    left
    have hb : bad (sI (sI z 2 1) 3 (z.1 7)) (sI (sI w 13 1) 14 (w.1 10)) := bad_mk (f := 1) (by omega) (by omega) a3
    refine ⟨_, _, rfl, rfl, fzL_T (fz_ref z _ _), fwL_n (fr_I (fr_I (fr_I fr_0 (by decide)) (by decide)) (by decide)), ?_⟩
    obtain ⟨f, q1, q2, q3, q4, q5⟩ := hb
    exact ⟨f, q1, q2, q3, q4, q5⟩
/-- a line's word, told once -/
theorem once_both {n a m l j : Nat} {z w : St} (h : lR0 n a m l l z w) (hj : kK j = true) (s1 : w.1 11 = 0) (s2 : w.1 12 = nI j) (s3 : z.1 6 = nI (pmW j)) {lo hi : Int32} (hlo : ¬ w.1 12 < lo) (hhi : w.1 12 ≤ hi) :
    (∃ z' w', f_X6_once z = some (0, z') ∧ f_X12_once w lo hi = some (0, w') ∧ fzL z z' ∧ fwL w w' ∧ bad z' w') ∨
    (∃ z' w1 w' a', f_X6_once z = some (1, z') ∧ f_X12_once w lo hi = some (1, w1) ∧ w1.1 12 = w.1 12 ∧ f_X12_next w1 = some w' ∧ lR0 n a' m (l + 1) l z' w' ∧ fzL z z' ∧ fwL w w' ∧ muT n a' (z'.1 6) + 1 ≤ muT n a (z.1 6) ∧ bt (w'.1 7) 1 = (bt (w.1 7) 1 || decide (1 = j)) ∧ bt (w.1 7) j = false ∧ z'.2.1 = z.2.1) := by
  obtain ⟨⟨a1, a2, a3, a4, a5, a6⟩, hb, ⟨t1, t2, t3⟩, hu⟩ := id h
  have j11 := kK_lt hj
  have pj := (k_pw j (by omega)).2.2.2.2.2.2.2.2.2
  have p34 := (k_pw j (by omega)).2.2.2.2.2.2.1
  have ec : (1 : Int32) <<< (z.1 6 &&& 31) = nI (2 ^ pmW j) := by rw [s3, shl1 (by omega)]
  have er : (1 : Int32) <<< (w.1 12 &&& 31) = nI (2 ^ j) := by rw [s2, shl1 (by omega)]
  have tc : (z.1 11 &&& nI (2 ^ pmW j) = 0) ↔ bt (w.1 7) j = false := by
    rw [Int32.and_comm, and_pow (by omega), t1 j hj]
  have tr : ((w.1 7 >>> (w.1 12 &&& 31)) &&& (1 : Int32)) = if bt (w.1 7) j then 1 else 0 := by rw [s2, b_test _ (by omega)]
  unfold f_X6_once F_X6_once_0 f_X12_once F_X12_once_0 F_X12_once_51
  rw [if_pos s1, if_neg hlo, if_pos hhi, tr, ec, er]
  simp only [oL_s]
  cases hbit : bt (w.1 7) j
  · right
    rw [if_pos (tc.mpr hbit)]
    have n01 : ¬ (if false = true then (1 : Int32) else 0) = 1 := by decide
    rw [if_neg n01, if_pos a5]
    have h1 : lR0 n a m (l + 1) l (sI z 11 (z.1 11 ||| nI (2 ^ pmW j))) (sI w 7 (w.1 7 ||| nI (2 ^ j))) := by
      refine ⟨⟨a1, a2, a3, a4, a5, a6⟩, hb, ⟨?_, ?_, ?_⟩, hu⟩
      · intro v hv
        show bt (z.1 11 ||| nI (2 ^ pmW j)) (pmW v) = bt (w.1 7 ||| nI (2 ^ j)) v
        rw [bt_set (by omega), bt_set (by omega), t1 v hv]
        congr 1
        exact decide_eq_decide.mpr (k_inj v (kK_lt hv) j j11)
      · intro v hv
        show bt (w.1 7 ||| nI (2 ^ j)) v = false
        rw [bt_set (by omega), t2 v hv, Bool.false_or, decide_eq_false]
        intro e
        rw [e, hj] at hv
        cases hv
      · show pc (w.1 7 ||| nI (2 ^ j)) = l + 1
        rw [pc_set (by omega) hbit, t3]
    obtain ⟨z', w', a', g1, g2, g3, g4, g5, g6⟩ := lR_adv h1 (by show z.1 6 ≠ 34; rw [s3]; exact p34)
    rw [g1]
    refine ⟨z', _, w', a', rfl, rfl, rfl, g2, g3, fr_t (fr_I fr_0 (by decide)) (fr_m g4 (by decide) (by decide)), fwL_n (fr_t (fr_I fr_0 (by decide)) (fr_m g5 (by decide) (by decide))), g6, ?_, rfl, ?_⟩
    · rw [g5.1 7 (by decide)]
      show bt (w.1 7 ||| nI (2 ^ j)) 1 = _
      rw [bt_set (by omega)]
    · exact funext (fun k => g4.2 k List.not_mem_nil)
  · left
    rw [if_neg (fun q => by rw [tc.mp q] at hbit; cases hbit)]
    rw [if_pos (show (if true = true then (1 : Int32) else 0) = 1 from rfl), p_refuse, p_wrong0 a5]
    simp only [oC_s, oL_s]
    have hbd : bad (sI (sI z 2 3) 3 (z.1 7)) (sI (sI w 13 3) 14 (w.1 10)) := bad_mk (f := 3) (by omega) (by omega) a3
    rw [if_neg (bad_ne hbd)]
    exact ⟨_, _, rfl, rfl, fzL_T (fz_ref z _ _), fwL_T (fw_wr w _ _), hbd⟩
/-- a number that a line tells -/
theorem amt_both {n a m t l M s : Nat} {z w : St} (h : lR0 n a m t l z w) (hM : M ≤ 999) (hs : s < 6) :
    (∃ z' w', f_X6_amount z (nI M) = some (0, z') ∧ f_X12_number w (nI s) (nI M) = some w' ∧ fzL z z' ∧ fwL w w' ∧ bad z' w' ∧ z'.1 12 = 2) ∨
    (∃ z' w' a' k, k ≤ M ∧ f_X6_amount z (nI M) = some (1, z') ∧ f_X12_number w (nI s) (nI M) = some w' ∧ z'.1 9 = nI k ∧ fr [5, 6, 7, 8, 9] [] z z' ∧ fr [9, 10, 11, 12] [3] w w' ∧ w'.2.1 3 = upd (w.2.1 3) (6 + s) (nI k) ∧ rdR n a' z' w' ∧ tokR (z'.1 6) (z'.1 8) (w'.1 11) (w'.1 12) ∧ z'.1 7 = w'.1 10 ∧ muT n a' (z'.1 6) + 1 ≤ muT n a (z.1 6)) := by
  obtain ⟨⟨a1, a2, a3, a4, a5, a6⟩, hb, _, hu⟩ := id h
  have e6 : (6 : Int32) + nI s = nI (6 + s) := nI_add 6 s
  have i12 : vp_in (nI (6 + s)) 12 := vp_in_nI (by omega) (by omega)
  have e10 : ∀ f : Nat, z.1 7 = w.1 10 := fun _ => a3
  by_cases c : z.1 6 = 20
  · obtain ⟨s1, k, hk, s3, s4⟩ : w.1 11 = 1 ∧ ∃ k, k ≤ 99999 ∧ w.1 12 = nI k ∧ z.1 8 = nI k := by
      rcases a2 with ⟨s1, j, hj, s2, s3⟩ | ⟨s1, s2, q⟩ | ⟨s1, i, hi, s2, s3⟩ | ⟨s1, s2⟩ | ⟨s1, s2⟩
      · exact absurd (s3.symm.trans c) ((k_pw j hj).2.2.1)
      · exact ⟨s1, q⟩
      · have kk : ∀ i, i < 13 → ¬ nI (21 + i) = (20 : Int32) := by decide +kernel
        exact absurd (s2.symm.trans c) (kk i hi)
      · exact absurd (s2.symm.trans c) (by decide)
      · exact absurd (s2.symm.trans c) (by decide)
    unfold f_X6_amount F_X6_amount_0 f_X12_number F_X12_number_0 F_X12_number_37
    rw [if_pos c, if_pos a5, if_pos s1, s4, s3]
    by_cases ck : k ≤ M
    · right
      have q : nI k ≤ nI M := nI_le ck (by omega)
      rw [if_pos q, if_pos q, if_pos a5, e6, oA_in _ i12, nI_clamp (by omega)]
      simp only [oL_s]
      have hr1 : rdR n a (sI z 9 (nI k)) (sA w 3 (upd (w.2.1 3) (6 + s) (nI k))) := a1
      obtain ⟨z', w', a', g1, g2, g3, g4, g5, g6, g7, g8⟩ := p_adv hr1 (by show z.1 6 ≠ 34; rw [c]; decide)
      rw [g1, g2]
      refine ⟨z', w', a', k, ck, rfl, rfl, by rw [g4.1 9 (by decide)]; rfl, fr_t (fr_I fr_0 (by decide)) (fr_m g4 (by decide) (by decide)), fr_t (fr_A fr_0 (by decide)) (fr_m g5 (by decide) (by decide)), ?_, g3, g6, g7, g8⟩
      rw [g5.2 3 List.not_mem_nil, sA_eq]
    · left
      have q : ¬ nI k ≤ nI M := nI_ge (by omega) (by omega)
      rw [if_neg q, if_neg q, p_refuse, p_wrong0 a5]
      simp only [oC_s, oL_s]
      have hbd : bad (sI (sI z 2 2) 3 (z.1 7)) (sI (sI w 13 2) 14 (w.1 10)) := bad_mk (f := 2) (by omega) (by omega) a3
      rw [if_neg (bad_ne hbd)]
      exact ⟨_, _, rfl, rfl, fzL_T (fz_ref z _ _), fwL_T (fw_wr w _ _), hbd, a4⟩
  · left
    have s1 : ¬ w.1 11 = 1 := by
      intro q
      rcases a2 with ⟨s1, _⟩ | ⟨_, s2, _⟩ | ⟨s1, _⟩ | ⟨s1, _⟩ | ⟨s1, _⟩
      · rw [s1] at q; exact absurd q (by decide)
      · exact c s2
      · rw [s1] at q; exact absurd q (by decide)
      · rw [s1] at q; exact absurd q (by decide)
      · rw [s1] at q; exact absurd q (by decide)
    unfold f_X6_amount F_X6_amount_0 f_X12_number F_X12_number_0 F_X12_number_37
    rw [if_neg c, if_pos a5, if_neg s1, p_refuse, p_wrong0 a5]
    simp only [oC_s, oL_s]
    have hbd : bad (sI (sI z 2 1) 3 (z.1 7)) (sI (sI w 13 1) 14 (w.1 10)) := bad_mk (f := 1) (by omega) (by omega) a3
    rw [if_neg (bad_ne hbd)]
    exact ⟨_, _, rfl, rfl, fzL_T (fz_ref z _ _), fwL_T (fw_wr w _ _), hbd, a4⟩
