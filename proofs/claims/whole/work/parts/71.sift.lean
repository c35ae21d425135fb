/-! PURE: what is known on a day -/
/-- the note j is told by the day x -/
def kT (w : St) (x : Int32) (j : Nat) : Bool := decide (¬ x < w.2.1 17 j)
/-- S: what is struck by the notes behind j; the note j looked at -/
def skS (w : St) (x : Int32) (j : Nat) (S : Nat → Bool) : Nat → Bool := if kT w x j = true ∧ S j = false ∧ w.2.1 16 j = 4 then fun i => S i || decide (i = (w.2.1 18 j).toNatClampNeg) else S
def sk (w : St) (x : Int32) : Nat → (Nat → Bool) → (Nat → Bool)
  | 0, S => S
  | j + 1, S => sk w x j (skS w x j S)
/-- the note i of m is known on the day x -/
def kn (w : St) (x : Int32) (m i : Nat) : Bool := kT w x i && !(sk w x m (fun _ => false) i)
def b2 (b : Bool) : Int32 := if b then 1 else 0
theorem b2_0 (b : Bool) : b2 b = 0 ↔ b = false := by cases b <;> decide
theorem b2_n (b : Bool) : vp_nar .boolean (b2 b) = b2 b := by cases b <;> rfl
def ntZ (z w : St) (m : Nat) : Prop := z.1 29 = nI m ∧ z.2.1 11 = w.2.1 16 ∧ z.2.1 12 = w.2.1 18 ∧ z.2.1 13 = w.2.1 19 ∧ z.2.1 14 = w.2.1 20 ∧ z.2.1 15 = w.2.1 21 ∧ z.2.1 16 = w.2.1 17
def ntW (w : St) (m n : Nat) : Prop := m ≤ 80 ∧ w.1 27 = nI m ∧ ∀ i, i < m → noteOK w n i
theorem nt_of {z w : St} {n : Nat} (h : ivNote z w n) : ∃ m, ntZ z w m ∧ ntW w m n := by
  obtain ⟨m, h0, h1, h2, h3, h4, h5, h6, h7, h8, h9⟩ := h
  exact ⟨m, ⟨h1, h3, h4, h5, h6, h7, h8⟩, ⟨h0, h2, h9⟩⟩
theorem p_isKnown (s : St) (c : Int32) {i : Nat} (hi : i < 80) : f_X5_isKnown s (nI i) c = some (if s.2.1 17 i = 0 then 0 else if s.2.1 11 i = c then 1 else 0, s) := by
  have hin : vp_in (nI i) 80 := vp_in_nI hi (by omega)
  unfold f_X5_isKnown F_X5_isKnown_0 F_X5_isKnown_23 F_X5_isKnown_24
  simp only [oA_in _ hin, nI_clamp (show i < 2 ^ 31 by omega)]
  by_cases a : s.2.1 17 i = 0
  · rw [if_pos a, if_pos a, oC_s]; exact oZ_0 _
  · rw [if_neg a, if_neg a]
    by_cases b : s.2.1 11 i = c
    · rw [if_pos b, if_pos b, oC_s]; exact oZ_1 _
    · rw [if_neg b, if_neg b, oC_s]; exact oZ_0 _
/-- a strike's own number -/
theorem nt_strike {w : St} {m n i : Nat} (h : ntW w m n) (hi : i < m) (h4 : w.2.1 16 i = 4) : ∃ s, s < i ∧ w.2.1 18 i = nI s := by
  have := (h.2.2 i hi).2
  unfold noteD at this
  rw [h4] at this
  rcases this with ⟨a | a, _⟩ | ⟨a, _⟩ | ⟨a, _⟩ | ⟨_, s, hs, e⟩
  · exact absurd a (by decide)
  · exact absurd a (by decide)
  · exact absurd a (by decide)
  · exact absurd a (by decide)
  · exact ⟨s, hs, e⟩
theorem p_sift {z w : St} {m n : Nat} (hz : ntZ z w m) (hw : ntW w m n) (x : Int32) : ∃ g, f_X5_sift z x = some (sA z 17 g) ∧ ∀ i, i < m → g i = b2 (kn w x m i) := by
  obtain ⟨e29, e11, e12, -, -, -, e16⟩ := hz
  have hm := hw.1
  unfold f_X5_sift F_X5_sift_0
  rw [oL_s]
  refine loop_i (fun n i (s : St) => ∃ g, F_X5_sift_2 n s x (nI i) = some (sA z 17 g) ∧ ∀ i, i < m → g i = b2 (kn w x m i)) (fun i s => ∃ g, s = sA z 17 g ∧ ∀ j, j < i → g j = b2 (kT w x j)) m ?_ ?_ 100000 0 z (Nat.zero_le _) (by omega) ⟨z.2.1 17, (sA_same z 17).symm, fun j hj => absurd hj (Nat.not_lt_zero j)⟩
  · rintro n' s ⟨g, rfl, hg⟩
    show ∃ g', F_X5_sift_2_b _ (sA z 17 g) x (nI m) = _ ∧ _
    unfold F_X5_sift_2_b
    simp only [sA_1, e29, oL_s]
    rw [if_pos (Int32.le_refl _)]
    refine loop_d (fun n j (s : St) => ∃ g, F_X5_sift_44 n s (nI j - 1) = some (sA z 17 g) ∧ ∀ i, i < m → g i = b2 (kn w x m i)) (fun j s => j ≤ m ∧ ∃ g S, s = sA z 17 g ∧ (∀ i, i < m → g i = b2 (kT w x i && !S i)) ∧ sk w x j S = sk w x m (fun _ => false)) ?_ ?_ 100000 m _ (by omega) ⟨Nat.le_refl _, g, fun _ => false, rfl, fun i hi => by rw [hg i hi, Bool.not_false, Bool.and_true], rfl⟩
    · rintro k s ⟨_, g, S, rfl, hg, hS⟩
      refine ⟨g, ?_, ?_⟩
      · show F_X5_sift_44_b _ (sA z 17 g) (nI 0 - 1) = _
        unfold F_X5_sift_44_b
        have q : nI 0 - (1 : Int32) < 0 := by decide
        rw [if_pos q]
      · intro i hi
        rw [hg i hi]
        unfold kn
        rw [← hS]
        rfl
    · rintro k j s ⟨hj, g, S, rfl, hg, hS⟩ K
      show ∃ g', F_X5_sift_44_b (F_X5_sift_44 k) (sA z 17 g) (nI (j + 1) - 1) = _ ∧ _
      rw [nI_pred]
      have hin : vp_in (nI j) 80 := vp_in_nI (by omega) (by omega)
      unfold F_X5_sift_44_b F_X5_sift_82
      rw [if_neg (nI_pos (by omega)), p_isKnown _ _ (show j < 80 by omega)]
      simp only [oC_s, oL_s, sA_1, sA_a, ↓reduceIte, Nat.reduceEqDiff, e11, e12, hg j (by omega), b2_0, p_has, e29, oA_in _ hin, nI_clamp (show j < 2 ^ 31 by omega)]
      have back : nI j + (-1 : Int32) = nI j - 1 := by rw [Int32.sub_eq_add_neg]
      rw [back]
      have stay : ¬ (kT w x j = true ∧ S j = false ∧ w.2.1 16 j = 4) → ∃ g', F_X5_sift_44 k (sA z 17 g) (nI j - 1) = some (sA z 17 g') ∧ ∀ i, i < m → g' i = b2 (kn w x m i) := by
        intro q
        refine K _ ⟨by omega, g, S, rfl, hg, ?_⟩
        rw [← hS]
        show _ = sk w x j (skS w x j S)
        unfold skS
        rw [if_neg q]
      by_cases a : (kT w x j && !S j) = false
      · rw [if_pos a, if_pos rfl]
        refine stay (fun q => ?_)
        rw [q.1, q.2.1] at a
        exact absurd a (by decide)
      · rw [if_neg a]
        have a2 : kT w x j = true ∧ S j = false := by
          cases h1 : kT w x j <;> cases h2 : S j <;> simp [h1, h2] at a ⊢
        by_cases b : w.2.1 16 j = (4 : Int32)
        · obtain ⟨s, hs, es⟩ := nt_strike hw (show j < m by omega) b
          have i4 : ¬ (nI s < 0 ∨ nI m ≤ nI s) := fun q => q.elim (nI_pos (by omega)) (nI_ge (by omega) (by omega))
          have hin2 : vp_in (nI s) 80 := vp_in_nI (by omega) (by omega)
          rw [if_pos b, if_neg (by decide), es, if_neg i4, if_neg (by decide), oA_in _ hin2, vb0, sA_sA, nI_clamp (by omega)]
          refine K _ ⟨by omega, _, skS w x j S, rfl, ?_, hS⟩
          intro i hi
          unfold skS
          rw [if_pos ⟨a2.1, a2.2, b⟩, es, nI_clamp (by omega), upd_i]
          by_cases e : i = s
          · rw [if_pos e, decide_eq_true e, Bool.or_true, Bool.not_true, Bool.and_false]; rfl
          · rw [if_neg e, decide_eq_false e, Bool.or_false]; exact hg i hi
        · rw [if_neg b, if_pos rfl]
          exact stay (fun q => b q.2.2)
  · rintro n' i s hi ⟨g, rfl, hg⟩ K
    show ∃ g', F_X5_sift_2_b (F_X5_sift_2 n') (sA z 17 g) x (nI i) = _ ∧ _
    have hin : vp_in (nI i) 80 := vp_in_nI (by omega) (by omega)
    unfold F_X5_sift_2_b F_X5_sift_30
    simp only [sA_1, e29, oL_s, oA_in _ hin, nI_clamp (show i < 2 ^ 31 by omega), sA_a, ↓reduceIte, Nat.reduceEqDiff, e16, nI_1, sA_sA, vb0, vb1]
    rw [if_neg (nI_ge hi (by omega))]
    have go : ∀ v, v = b2 (kT w x i) → ∃ g', F_X5_sift_2 n' (sA z 17 (upd g i v)) x (nI (i + 1)) = some (sA z 17 g') ∧ ∀ i, i < m → g' i = b2 (kn w x m i) := by
      intro v hv
      refine K _ ⟨_, rfl, ?_⟩
      intro j hj
      rw [upd_i]
      by_cases e : j = i
      · rw [if_pos e, e]; exact hv
      · rw [if_neg e]; exact hg j (by omega)
    by_cases a : x < w.2.1 17 i
    · rw [if_pos a]; exact go 0 (by unfold kT; rw [decide_eq_false (fun q => q a)]; rfl)
    · rw [if_neg a]; exact go 1 (by unfold kT; rw [decide_eq_true a]; rfl)
theorem p_knows {w : St} {m n : Nat} (hw : ntW w m n) (x : Int32) : ∃ g h, f_X12_knowsNotes w x = some (sA (sA w 22 g) 23 h) ∧ ∀ i, i < m → h i = b2 (kn w x m i) := by
  obtain ⟨hm, e27, hok⟩ := id hw
  unfold f_X12_knowsNotes F_X12_knowsNotes_0
  rw [oL_s]
  refine loop_i (fun n i (s : St) => ∃ g h, F_X12_knowsNotes_2 n s x (nI i) = some (sA (sA w 22 g) 23 h) ∧ ∀ i, i < m → h i = b2 (kn w x m i)) (fun i s => ∃ g, s = sA w 22 g ∧ ∀ j, j < i → g j = 0) m ?_ ?_ 100000 0 w (Nat.zero_le _) (by omega) ⟨w.2.1 22, (sA_same w 22).symm, fun j hj => absurd hj (Nat.not_lt_zero j)⟩
  · rintro n' s ⟨g, rfl, hg⟩
    show ∃ g' h', F_X12_knowsNotes_2_b _ (sA w 22 g) x (nI m) = _ ∧ _
    unfold F_X12_knowsNotes_2_b
    simp only [sA_1, e27, oL_s]
    rw [if_pos (Int32.le_refl _)]
    refine loop_d (fun n j (s : St) => ∃ g h, F_X12_knowsNotes_30 n s x (nI j - 1) = some (sA (sA w 22 g) 23 h) ∧ ∀ i, i < m → h i = b2 (kn w x m i)) (fun j s => j ≤ m ∧ ∃ g S, s = sA w 22 g ∧ (∀ i, i < m → g i = b2 (S i)) ∧ sk w x j S = sk w x m (fun _ => false)) ?_ ?_ 100000 m _ (by omega) ⟨Nat.le_refl _, g, fun _ => false, rfl, fun i hi => by rw [hg i hi]; rfl, rfl⟩
    · rintro k s ⟨_, g, S, rfl, hg, hS⟩
      show ∃ g' h', F_X12_knowsNotes_30_b _ (sA w 22 g) x (nI 0 - 1) = _ ∧ _
      unfold F_X12_knowsNotes_30_b
      have q : nI 0 - (1 : Int32) < 0 := by decide
      rw [if_pos q, oL_s]
      refine loop_i (fun n i (s : St) => ∃ g' h', F_X12_knowsNotes_83 n s x (nI i) = some (sA (sA w 22 g') 23 h') ∧ ∀ i, i < m → h' i = b2 (kn w x m i)) (fun i s => ∃ h, s = sA (sA w 22 g) 23 h ∧ ∀ j, j < i → h j = b2 (kn w x m j)) m ?_ ?_ 100000 0 _ (Nat.zero_le _) (by omega) ⟨(sA w 22 g).2.1 23, (sA_same _ 23).symm, fun j hj => absurd hj (Nat.not_lt_zero j)⟩
      · rintro n2 s ⟨h, rfl, hh⟩
        refine ⟨g, h, ?_, hh⟩
        show F_X12_knowsNotes_83_b _ (sA (sA w 22 g) 23 h) x (nI m) = _
        unfold F_X12_knowsNotes_83_b
        simp only [sA_1, e27]
        rw [if_pos (Int32.le_refl _)]
      · rintro n2 i s hi ⟨h, rfl, hh⟩ K
        show ∃ g' h', F_X12_knowsNotes_83_b (F_X12_knowsNotes_83 n2) (sA (sA w 22 g) 23 h) x (nI i) = _ ∧ _
        have hin : vp_in (nI i) 80 := vp_in_nI (by omega) (by omega)
        unfold F_X12_knowsNotes_83_b F_X12_knowsNotes_119 F_X12_knowsNotes_120
        simp only [sA_1, e27, oL_s, oA_in _ hin, nI_clamp (show i < 2 ^ 31 by omega), sA_a, ↓reduceIte, Nat.reduceEqDiff, nI_1, sA_sA, vb0, vb1, hg i hi, b2_0]
        rw [if_neg (nI_ge hi (by omega))]
        have go : ∀ v, v = b2 (kn w x m i) → ∃ g' h', F_X12_knowsNotes_83 n2 (sA (sA w 22 g) 23 (upd h i v)) x (nI (i + 1)) = some (sA (sA w 22 g') 23 h') ∧ ∀ i, i < m → h' i = b2 (kn w x m i) := by
          intro v hv
          refine K _ ⟨_, rfl, ?_⟩
          intro j hj
          rw [upd_i]
          by_cases e : j = i
          · rw [if_pos e, e]; exact hv
          · rw [if_neg e]; exact hh j (by omega)
        have ekn : kn w x m i = (kT w x i && !S i) := by unfold kn; rw [← hS]; rfl
        rw [ekn] at go
        by_cases a : x < w.2.1 17 i
        · rw [if_pos a]; exact go 0 (by unfold kT; rw [decide_eq_false (fun q => q a)]; rfl)
        · have kt : kT w x i = true := by unfold kT; exact decide_eq_true a
          rw [if_neg a]
          by_cases b : S i = false
          · rw [if_pos b]; exact go 1 (by rw [kt, b]; rfl)
          · have b' : S i = true := by simpa using b
            rw [if_neg b]; exact go 0 (by rw [kt, b']; rfl)
    · rintro k j s ⟨hj, g, S, rfl, hg, hS⟩ K
      show ∃ g' h', F_X12_knowsNotes_30_b (F_X12_knowsNotes_30 k) (sA w 22 g) x (nI (j + 1) - 1) = _ ∧ _
      rw [nI_pred]
      have hin : vp_in (nI j) 80 := vp_in_nI (by omega) (by omega)
      unfold F_X12_knowsNotes_30_b F_X12_knowsNotes_75
      rw [if_neg (nI_pos (by omega))]
      have back : nI j + (-1 : Int32) = nI j - 1 := by rw [Int32.sub_eq_add_neg]
      simp only [oL_s, sA_a, ↓reduceIte, Nat.reduceEqDiff, hg j (by omega), b2_0, oA_in _ hin, nI_clamp (show j < 2 ^ 31 by omega), back]
      have stay : ¬ (kT w x j = true ∧ S j = false ∧ w.2.1 16 j = 4) → ∃ g' h', F_X12_knowsNotes_30 k (sA w 22 g) x (nI j - 1) = some (sA (sA w 22 g') 23 h') ∧ ∀ i, i < m → h' i = b2 (kn w x m i) := by
        intro q
        refine K _ ⟨by omega, g, S, rfl, hg, ?_⟩
        rw [← hS]
        show _ = sk w x j (skS w x j S)
        unfold skS
        rw [if_neg q]
      by_cases a : x < w.2.1 17 j
      · rw [if_pos a]
        refine stay (fun q => ?_)
        have := q.1
        unfold kT at this
        exact absurd a (of_decide_eq_true this)
      · have kt : kT w x j = true := by unfold kT; exact decide_eq_true a
        rw [if_neg a]
        by_cases b : S j = false
        · rw [if_pos b]
          by_cases c : w.2.1 16 j = (4 : Int32)
          · obtain ⟨s, hs, es⟩ := nt_strike hw (show j < m by omega) c
            have hin2 : vp_in (nI s) 80 := vp_in_nI (by omega) (by omega)
            rw [if_pos c, es, oA_in _ hin2, vb1, sA_sA, nI_clamp (by omega)]
            refine K _ ⟨by omega, _, skS w x j S, rfl, ?_, hS⟩
            intro i hi
            unfold skS
            rw [if_pos ⟨kt, b, c⟩, es, nI_clamp (by omega), upd_i]
            by_cases e : i = s
            · rw [if_pos e, decide_eq_true e, Bool.or_true]; rfl
            · rw [if_neg e, decide_eq_false e, Bool.or_false]; exact hg i hi
          · rw [if_neg c]
            exact stay (fun q => c q.2.2)
        · rw [if_neg b]
          exact stay (fun q => b q.2.1)
  · rintro n' i s hi ⟨g, rfl, hg⟩ K
    show ∃ g' h', F_X12_knowsNotes_2_b (F_X12_knowsNotes_2 n') (sA w 22 g) x (nI i) = _ ∧ _
    have hin : vp_in (nI i) 80 := vp_in_nI (by omega) (by omega)
    unfold F_X12_knowsNotes_2_b
    simp only [sA_1, e27, oL_s, oA_in _ hin, nI_clamp (show i < 2 ^ 31 by omega), sA_a, ↓reduceIte, nI_1, sA_sA, vb0]
    rw [if_neg (nI_ge hi (by omega))]
    refine K _ ⟨_, rfl, ?_⟩
    intro j hj
    rw [upd_i]
    by_cases e : j = i
    · rw [if_pos e]
    · rw [if_neg e]; exact hg j (by omega)
