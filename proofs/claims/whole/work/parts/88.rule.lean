/-! PURE: a rule worked out by class and reference, knot by knot -/
theorem knots_seq {a b s v : Nat → Int32} : ∀ m d, knotsR a b s v m d → ∃ dep : Nat → Nat, dep 0 = 0 ∧ (∀ i, i < m → ∃ t, knotR (a i) (b i) (s i) (v i) t ∧ t ≤ dep i ∧ dep (i + 1) = dep i - t + 1) ∧ dep m = d
  | 0, d, h => ⟨fun _ => 0, rfl, fun i hi => absurd hi (Nat.not_lt_zero i), h.symm⟩
  | m + 1, d, h => by
    obtain ⟨e, t, h1, h2, h3, h4⟩ := h
    obtain ⟨dep, d0, d1, d2⟩ := knots_seq m e h1
    refine ⟨fun j => if j = m + 1 then d else dep j, ?_, ?_, if_pos rfl⟩
    · show (if 0 = m + 1 then d else dep 0) = 0
      rw [if_neg (by omega)]; exact d0
    · intro i hi
      show ∃ t, knotR (a i) (b i) (s i) (v i) t ∧ t ≤ (if i = m + 1 then d else dep i) ∧ (if i + 1 = m + 1 then d else dep (i + 1)) = (if i = m + 1 then d else dep i) - t + 1
      rw [if_neg (show ¬ i = m + 1 by omega)]
      by_cases c : i = m
      · subst c
        rw [if_pos rfl]
        exact ⟨t, h2, by omega, by omega⟩
      · rw [if_neg (show ¬ i + 1 = m + 1 by omega)]
        exact d1 i (by omega)
/-- what the names say of the villages V, to the class in any state like s -/
def nmC (s : St) (V : Int32) (nm : Nat → Int64) : Prop := ∀ s', fr [31] [] s s' → (∀ j, j < 6 → f_X3_named s' (nI (11 + j)) V = some (nm j, s')) ∧ f_X3_peopleIn s' 0 V = some (nm 0, s') ∧ f_X3_peopleIn s' 1 V = some (nm 1, s')
theorem inb_nat {k : Nat} (h : k < 2147483648) : inb (Int32.toInt64 (nI k)) := by
  rw [inb_i, nI_l h, lN_toInt h]
  omega
theorem p_isOperand (s : St) (x : Int32) : f_X3_isOperand s x = some (if x = 20 ∨ (¬ x < 11 ∧ ¬ 16 < x) then 1 else 0, s) := by
  unfold f_X3_isOperand F_X3_isOperand_0 F_X3_isOperand_18 F_X3_isOperand_22 F_X3_isOperand_23
  by_cases c : x = 20
  · rw [if_pos c, if_pos (Or.inl c), oC_s]; exact oZ_1 _
  · rw [if_neg c]
    by_cases c1 : x < 11
    · rw [if_pos c1, if_neg (fun q => q.elim c (fun q => q.1 c1)), oC_s]; exact oZ_0 _
    · rw [if_neg c1]
      by_cases c2 : 16 < x
      · rw [if_pos c2, if_neg (fun q => q.elim c (fun q => q.2 c2)), oC_s]; exact oZ_0 _
      · rw [if_neg c2, if_pos (Or.inr ⟨c1, c2⟩), oC_s]; exact oZ_1 _
def ruOK (s q : St) (V : Int32) (nm : Nat → Int64) (m : Nat) (dep : Nat → Nat) : Prop := m ≤ 64 ∧ s.1 16 = nI m ∧ q.1 2 = nI m ∧ dep 0 = 0 ∧ dep m = 1 ∧ (∀ i, i < m → ∃ t, knotR (s.2.1 2 i) (s.2.1 3 i) (q.2.1 1 i) (q.2.1 2 i) t ∧ t ≤ dep i ∧ dep (i + 1) = dep i - t + 1) ∧ nmC s V nm ∧ (∀ j, j < 6 → q.2.2 5 j = nm j ∧ inb (nm j))
theorem sJ_same2 (s : St) (k : Nat) (g : Nat → Int64) : (sJ s k g).2.2 k = g := if_pos rfl
theorem rule_lock {s0 q0 : St} {V : Int32} {nm : Nat → Int64} {m : Nat} {dep : Nat → Nat} (h : ruOK s0 q0 V nm m dep) : ∃ r s' q', F_X3_holds_39 100000 (sI s0 31 0) V 0 0 = some (b2 r, s') ∧ F_X12_isFirst_36 100000 (sI q0 20 0) 0 = some (b2 r, q') ∧ fr [31] [] s0 s' ∧ fr [20] [] q0 q' := by
  obtain ⟨hm, h16, h2, d0, dm, hk, hnC, hnR⟩ := h
  have dle : ∀ i, i ≤ m → dep i ≤ i := by
    intro i
    induction i with
    | zero => intro _; omega
    | succ i ih =>
      intro hi
      obtain ⟨t, _, _, e⟩ := hk i (by omega)
      have := ih (by omega)
      omega
  have key := loop_i (fun k i (y : St × St × Int32 × Bool) => (y.2.2.2 = true → ∃ s', F_X3_holds_39 k y.1 V y.2.2.1 (nI i) = some (0, s') ∧ fr [31] [] s0 s') ∧ (y.2.2.2 = false → ∃ r s' q', F_X3_holds_39 k y.1 V y.2.2.1 (nI i) = some (b2 r, s') ∧ F_X12_isFirst_36 k y.2.1 (nI i) = some (b2 r, q') ∧ fr [31] [] s0 s' ∧ fr [20] [] q0 q')) (fun i y => fr [31] [] s0 y.1 ∧ (y.2.2.2 = true → y.1.1 31 = 1) ∧ (y.2.2.2 = false → y.1.1 31 = 0 ∧ fr [20] [] q0 y.2.1 ∧ y.2.2.1 = nI (dep i) ∧ y.2.1.1 20 = nI (dep i) ∧ y.2.1.2.2 5 = q0.2.2 5 ∧ ∀ j, j < dep i → y.1.2.2 30 j = y.2.1.2.2 6 j ∧ inb (y.2.1.2.2 6 j))) m ?_ ?_ 100000 0 (sI s0 31 0, sI q0 20 0, 0, false) (Nat.zero_le _) (by omega) ⟨fr_I fr_0 (by decide), fun q => (by cases q), fun _ => ⟨rfl, fr_I fr_0 (by decide), by rw [d0]; rfl, by rw [d0]; rfl, rfl, fun j hj => by rw [d0] at hj; omega⟩⟩
  · exact key.2 rfl
  · rintro k ⟨s, q, top, err⟩ ⟨y1, y2, y3⟩
    have e16 : s.1 16 = nI m := (y1.1 16 (by decide)).trans h16
    refine ⟨?_, ?_⟩
    · intro he
      have e31 : s.1 31 = 1 := y2 he
      have n31 : ¬ s.1 31 = 0 := by rw [e31]; decide
      refine ⟨s, ?_, y1⟩
      show F_X3_holds_39_b _ s V top (nI m) = _
      unfold F_X3_holds_39_b F_X3_holds_203 F_X3_holds_225 F_X3_holds_226
      rw [e16, if_pos (Int32.le_refl _), if_neg n31]
    · intro he
      obtain ⟨z1, z2, z3, z4, z5, z6⟩ := y3 he
      have z1' : s.1 31 = 0 := z1
      have eq2 : q.1 2 = nI m := (z2.1 2 (by decide)).trans h2
      obtain ⟨w1, w2⟩ := z6 0 (by rw [dm]; omega)
      have w1' : s.2.2 30 (Int32.toNatClampNeg (0 : Int32)) = q.2.2 6 0 := w1
      have i0 : vp_in (0 : Int32) 64 := by unfold vp_in; decide
      have i1 : vp_in (0 : Int32) 72 := by unfold vp_in; decide
      refine ⟨decide (¬ lg_cmp (q.2.2 6 0) 0 = 0), s, q, ?_, ?_, y1, z2⟩
      · show F_X3_holds_39_b _ s V top (nI m) = _
        unfold F_X3_holds_39_b F_X3_holds_203 F_X3_holds_225 F_X3_holds_226
        rw [e16, if_pos (Int32.le_refl _), if_pos z1', oA_in _ i0, w1']
        by_cases c : lg_cmp (q.2.2 6 0) 0 = 0
        · rw [if_pos c, decide_eq_false (fun n => n c)]; rfl
        · rw [if_neg c, decide_eq_true c]; rfl
      · show F_X12_isFirst_36_b _ q (nI m) = _
        unfold F_X12_isFirst_36_b F_X12_isFirst_130
        rw [eq2, if_pos (Int32.le_refl _), oA_in _ i1]
        show (if lg_cmp (q.2.2 6 0) 0 = 0 then _ else _) = _
        by_cases c : lg_cmp (q.2.2 6 0) 0 = 0
        · rw [if_pos c, decide_eq_false (fun n => n c)]; rfl
        · rw [if_neg c, decide_eq_true c]; rfl
  · rintro k i ⟨s, q, top, err⟩ hi ⟨y1, y2, y3⟩ K
    have e16 : s.1 16 = nI m := (y1.1 16 (by decide)).trans h16
    refine ⟨?_, ?_⟩
    · intro he
      have e31 : s.1 31 = 1 := y2 he
      have n31 : ¬ s.1 31 = 0 := by rw [e31]; decide
      refine ⟨s, ?_, y1⟩
      show F_X3_holds_39_b _ s V top (nI i) = _
      unfold F_X3_holds_39_b F_X3_holds_203 F_X3_holds_225 F_X3_holds_226
      rw [e16, if_neg (nI_ge hi (by omega)), if_neg n31, if_neg n31]
    · intro he
      obtain ⟨z1, z2, z3, z4, z5, z6⟩ := y3 he
      have z1' : s.1 31 = 0 := z1
      have z3' : top = nI (dep i) := z3
      have z4' : q.1 20 = nI (dep i) := z4
      have z5' : q.2.2 5 = q0.2.2 5 := z5
      have z6' : ∀ j, j < dep i → s.2.2 30 j = q.2.2 6 j ∧ inb (q.2.2 6 j) := z6
      have eq2 : q.1 2 = nI m := (z2.1 2 (by decide)).trans h2
      have ei := dle i (by omega)
      have f2 : s.2.1 2 = s0.2.1 2 := y1.2 2 (by decide)
      have f3 : s.2.1 3 = s0.2.1 3 := y1.2 3 (by decide)
      have g1 : q.2.1 1 = q0.2.1 1 := z2.2 1 (by decide)
      have g2 : q.2.1 2 = q0.2.1 2 := z2.2 2 (by decide)
      obtain ⟨t, kr, ht, hd⟩ := hk i hi
      have hin : vp_in (nI i) 64 := vp_in_nI (by omega) (by omega)
      have hin1 : vp_in (nI i) 128 := vp_in_nI (by omega) (by omega)
      have hint : vp_in (nI (dep i)) 64 := vp_in_nI (by omega) (by omega)
      subst z3'
      -- one more on the pile
      have push : ∀ r : Int64, inb r → t = 0 → ∃ r' s' q', F_X3_holds_197 (F_X3_holds_39 k) (sJ s 30 (vp_updL (s.2.2 30) (dep i) r)) V (nI (dep i + 1)) (nI i) = some (b2 r', s') ∧ F_X12_isFirst_98 (F_X12_isFirst_36 k) q (nI i) r = some (b2 r', q') ∧ fr [31] [] s0 s' ∧ fr [20] [] q0 q' := by
        intro r hr ht0
        subst ht0
        unfold F_X3_holds_197 F_X12_isFirst_98 F_X12_isFirst_101
        rcases p_puts q z4' (by omega) r with ⟨_, g⟩ | ⟨g, _⟩
        · rw [g]
          simp only [oC_s, oL_s, i10, ↓reduceIte, nI_1]
          refine (K (sJ s 30 (vp_updL (s.2.2 30) (dep i) r), putQ q (dep i) r, nI (dep i + 1), false) ⟨fr_J y1, fun q => (by cases q), fun _ => ⟨z1', fr_I (fr_J z2) (by decide), by rw [hd]; rfl, by rw [hd]; rfl, z5', ?_⟩⟩).2 rfl
          intro j hj
          show vp_updL (s.2.2 30) (dep i) r j = vp_updL (q.2.2 6) (dep i) r j ∧ inb (vp_updL (q.2.2 6) (dep i) r j)
          unfold vp_updL
          by_cases c : j = dep i
          · rw [if_pos c, if_pos c]; exact ⟨rfl, hr⟩
          · rw [if_neg c, if_neg c]; exact z6' j (by omega)
        · exact absurd hr g
      show ∃ r s' q', F_X3_holds_39_b (F_X3_holds_39 k) s V (nI (dep i)) (nI i) = some (b2 r, s') ∧ F_X12_isFirst_36_b (F_X12_isFirst_36 k) q (nI i) = some (b2 r, q') ∧ _
      unfold F_X3_holds_39_b F_X12_isFirst_36_b
      simp only [oA_in _ hin, oA_in _ hin1, oL_s, nI_clamp (show i < 2 ^ 31 by omega), f2, g1, g2]
      rw [e16, if_neg (nI_ge hi (by omega)), if_pos z1', eq2, if_neg (nI_ge hi (by omega))]
      have nt64 : ¬ (64 : Int32) ≤ nI (dep i) := nI_ge (b := 64) (by omega) (by omega)
      rcases kr with ⟨t0, ka, ks, kb, kk, hkk, kv⟩ | ⟨t0, ks, j, hj, ka, kv⟩ | ⟨t1, ks, ka, kv⟩ | ⟨t2, ks, ko⟩
      · -- a number
        have n2 : ¬ (0 : Int32) = 2 := by decide
        have n17 : ¬ (20 : Int32) = 17 := by decide
        rw [ka, ks, kv, if_neg n17, if_neg n2, if_pos rfl]
        unfold F_X3_holds_108 F_X3_holds_152
        rw [p_isOperand]
        simp only [oC_s, oL_s]
        rw [if_pos (Or.inl trivial), if_neg (by decide), if_neg nt64, if_pos trivial, oA_in _ hin, oA_in _ hint, nI_clamp (by omega), nI_clamp (by omega), f3, kb, kv, nI_1]
        exact push _ (inb_nat (by omega)) t0
      · -- a name
        have n2 : ¬ (1 : Int32) = 2 := by decide
        have n0 : ¬ (1 : Int32) = 0 := by decide
        have n17 : ¬ nI (11 + j) = (17 : Int32) := fun q => by have := (nI_eq (b := 17) (by omega) (by omega)).mp q; omega
        have n20 : ¬ nI (11 + j) = (20 : Int32) := fun q => by have := (nI_eq (b := 20) (by omega) (by omega)).mp q; omega
        have n11 : ¬ nI (11 + j) < (11 : Int32) := nI_nlt (b := 11) (by omega) (by omega)
        have n16 : ¬ (16 : Int32) < nI (11 + j) := nI_nlt (a := 16) (by omega) (by omega)
        have hin6 : vp_in (nI j) 6 := vp_in_nI hj (by omega)
        rw [ka, ks, kv, if_neg n17, if_neg n2, if_neg n0, oA_in _ hin6, nI_clamp (by omega), z5', (hnR j hj).1]
        unfold F_X3_holds_108 F_X3_holds_152
        rw [p_isOperand]
        simp only [oC_s, oL_s]
        rw [if_pos (Or.inr ⟨n11, n16⟩), if_neg (by decide), if_neg nt64, if_neg n20, ((hnC s y1).1 j hj)]
        simp only [oC_s]
        rw [oA_in _ hint, nI_clamp (by omega), nI_1]
        exact push _ (hnR j hj).2 t0
      · -- not
        subst t1
        have p1 : ¬ nI (dep i) < (1 : Int32) := nI_nlt (b := 1) (by omega) (by omega)
        have e1 : nI (dep i) - (1 : Int32) = nI (dep i - 1) := by rw [show (1 : Int32) = nI 1 from rfl, nI_sub (by omega)]
        have hin2 : vp_in (nI (dep i - 1)) 64 := vp_in_nI (by omega) (by omega)
        have hin3 : vp_in (nI (dep i - 1)) 72 := vp_in_nI (by omega) (by omega)
        obtain ⟨w1, w2⟩ := z6' (dep i - 1) (by omega)
        rw [ka, ks, kv, if_pos rfl, if_pos rfl, if_neg p1, e1, oA_in _ hin2, nI_clamp (by omega), w1]
        unfold f_X12_does F_X12_does_0
        rw [if_pos rfl, z4', e1, oA_in _ hin3, nI_clamp (by omega)]
        have fin : ∀ (t : Int32) (r : Int64), (t = 0 ∧ r = 0) ∨ (t = 1 ∧ r = 1) → ∃ r' s' q', F_X3_holds_101 (F_X3_holds_39 k) s V (nI (dep i)) (nI i) t (nI (dep i - 1)) = some (b2 r', s') ∧ (oC (oC (F_X12_does_38 q t (nI (dep i - 1))) fun w => oZ w.1 (some w)) fun w10 => oL w10.1 fun v8 => oL w10.2 fun s9 => F_X12_isFirst_101 (F_X12_isFirst_36 k) s9 (nI i) v8) = some (b2 r', q') ∧ fr [31] [] s0 s' ∧ fr [20] [] q0 q' := by
          intro t r htr
          have c1 : f_X3_truth s t = some (r, s) := by rcases htr with ⟨rfl, rfl⟩ | ⟨rfl, rfl⟩ <;> rfl
          have c2 : f_X12_is q t = some (r, q) := by rcases htr with ⟨rfl, rfl⟩ | ⟨rfl, rfl⟩ <;> rfl
          have ir : inb r := by rcases htr with ⟨rfl, rfl⟩ | ⟨rfl, rfl⟩; exact inb0; exact inb1
          unfold F_X3_holds_101 F_X12_does_38 F_X12_isFirst_101 F_X3_holds_197
          rw [c1, c2]
          simp only [oC_s, oL_s, oA_in _ hin2, oA_in _ hin3, nI_clamp (show dep i - 1 < 2 ^ 31 by omega), oZ_1, i10, ↓reduceIte, nI_1]
          refine (K (sJ s 30 (vp_updL (s.2.2 30) (dep i - 1) r), sJ q 6 (vp_updL (q.2.2 6) (dep i - 1) r), nI (dep i), false) ⟨fr_J y1, fun q => (by cases q), fun _ => ⟨z1', fr_J z2, by rw [hd]; show nI (dep i) = _; congr 1; omega, by rw [hd]; show q.1 20 = _; rw [z4']; congr 1; omega, z5', ?_⟩⟩).2 rfl
          intro j hj
          show vp_updL (s.2.2 30) (dep i - 1) r j = vp_updL (q.2.2 6) (dep i - 1) r j ∧ inb (vp_updL (q.2.2 6) (dep i - 1) r j)
          unfold vp_updL
          by_cases c : j = dep i - 1
          · rw [if_pos c, if_pos c]; exact ⟨rfl, ir⟩
          · rw [if_neg c, if_neg c]; exact z6' j (by omega)
        by_cases c : lg_cmp (q.2.2 6 (dep i - 1)) 0 = 0
        · rw [if_pos c, if_pos c]; exact fin 1 1 (Or.inr ⟨rfl, rfl⟩)
        · rw [if_neg c, if_neg c]; exact fin 0 0 (Or.inl ⟨rfl, rfl⟩)
      · -- two
        subst t2
        obtain ⟨e, he2⟩ : ∃ e, dep i = e + 2 := ⟨dep i - 2, by omega⟩
        obtain ⟨w1, w2⟩ := z6' e (by omega)
        obtain ⟨w3, w4⟩ := z6' (e + 1) (by omega)
        have h20 : q.1 20 = nI (e + 2) := by rw [z4', he2]
        have op : OpOK s q (s0.2.1 2 i) (q0.2.1 2 i) (q.2.2 6 e) (q.2.2 6 (e + 1)) e := by
          rcases ko with ⟨a, b⟩ | ⟨a, b⟩ | ⟨a, b⟩ | ⟨a, b⟩ | ⟨a, b⟩ | ⟨a, b⟩ | ⟨a, b⟩ | ⟨a, b⟩ | ⟨a, b⟩ | ⟨a, b⟩ | ⟨a, b⟩ | ⟨a, b⟩
          · rw [a, b]; exact op_19 z1' h20 (by omega) rfl rfl w2 w4
          · rw [a, b]; exact op_18 z1' h20 (by omega) rfl rfl w2 w4
          · rw [a, b]; exact op_21 z1' h20 (by omega) rfl rfl w2 w4
          · rw [a, b]; exact op_22 z1' h20 (by omega) rfl rfl w2 w4
          · rw [a, b]; exact op_23 z1' h20 (by omega) rfl rfl w2 w4
          · rw [a, b]; exact op_24 z1' h20 (by omega) rfl rfl w2 w4
          · rw [a, b]; exact op_25 z1' h20 (by omega) rfl rfl w2 w4
          · rw [a, b]; exact op_26 z1' h20 (by omega) rfl rfl w2 w4
          · rw [a, b]; exact op_27 z1' h20 (by omega) rfl rfl w2 w4
          · rw [a, b]; exact op_28 z1' h20 (by omega) rfl rfl w2 w4
          · rw [a, b]; exact op_29 z1' h20 (by omega) rfl rfl w2 w4
          · rw [a, b]; exact op_30 z1' h20 (by omega) rfl rfl w2 w4
        have nop : ¬ s0.2.1 2 i = 17 ∧ ¬ (s0.2.1 2 i = 20 ∨ (¬ s0.2.1 2 i < 11 ∧ ¬ 16 < s0.2.1 2 i)) := by
          rcases ko with ⟨a, _⟩ | ⟨a, _⟩ | ⟨a, _⟩ | ⟨a, _⟩ | ⟨a, _⟩ | ⟨a, _⟩ | ⟨a, _⟩ | ⟨a, _⟩ | ⟨a, _⟩ | ⟨a, _⟩ | ⟨a, _⟩ | ⟨a, _⟩ <;> rw [a] <;> decide
        obtain ⟨r, ok, q', o1, o2, o3, o4⟩ := op
        have e2 : nI (dep i) - (2 : Int32) = nI e := by rw [he2, show (2 : Int32) = nI 2 from rfl, nI_sub (by omega)]; congr 1
        have e1 : nI (dep i) - (1 : Int32) = nI (e + 1) := by rw [he2, show (1 : Int32) = nI 1 from rfl, nI_sub (by omega)]; congr 1
        have em : nI (dep i) + (-1 : Int32) = nI (e + 1) := by rw [← e1, Int32.sub_eq_add_neg]
        have p2 : ¬ nI (dep i) < (2 : Int32) := nI_nlt (b := 2) (by omega) (by omega)
        have hin2 : vp_in (nI e) 64 := vp_in_nI (by omega) (by omega)
        have hin3 : vp_in (nI (e + 1)) 64 := vp_in_nI (by omega) (by omega)
        rw [ks, if_neg nop.1, if_pos rfl, o2]
        unfold F_X3_holds_108 F_X3_holds_159 F_X3_holds_197 F_X12_isFirst_101
        rw [p_isOperand]
        simp only [oC_s, oL_s]
        rw [if_neg nop.2, if_pos rfl, if_neg p2, e2, e1, em, oA_in _ hin2, oA_in _ hin3, nI_clamp (show e < 2 ^ 31 by omega), nI_clamp (show e + 1 < 2 ^ 31 by omega), w1, w3, o1]
        simp only [oC_s, oA_in _ hin2, nI_1]
        cases ok
        · rw [if_neg (by decide)]
          have b0 : b2 false = 0 := rfl
          rw [if_pos b0]
          obtain ⟨s', k1, k2⟩ := (K (sJ (sI s 31 1) 30 (vp_updL ((sI s 31 1).2.2 30) e r), q', nI (e + 1), true) ⟨fr_J (fr_I y1 (by decide)), fun _ => rfl, fun q => (by cases q)⟩).1 rfl
          exact ⟨false, s', q', k1, rfl, k2, fr_t z2 o3⟩
        · obtain ⟨c1, c2, c3, c4⟩ := o4 rfl
          rw [if_pos rfl]
          have b0 : ¬ b2 true = 0 := by decide
          rw [if_neg b0]
          refine (K (sJ s 30 (vp_updL (s.2.2 30) e r), q', nI (e + 1), false) ⟨fr_J y1, fun q => (by cases q), fun _ => ⟨z1', fr_t z2 o3, by rw [hd]; show nI (e + 1) = _; congr 1; omega, by rw [hd]; show q'.1 20 = _; rw [c2]; congr 1; omega, c3.trans z5', ?_⟩⟩).2 rfl
          intro j hj
          show vp_updL (s.2.2 30) e r j = q'.2.2 6 j ∧ inb (q'.2.2 6 j)
          rw [c4]
          unfold vp_updL
          by_cases c : j = e
          · rw [if_pos c, if_pos c]; exact ⟨rfl, c1⟩
          · rw [if_neg c, if_neg c]; exact z6' j (by omega)
