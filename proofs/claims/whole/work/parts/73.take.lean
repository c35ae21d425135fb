/-! PURE: Census.take and the reference's spans and reckons -/
theorem sp_no {w : St} {x : Int32} {m v s : Nat} : ∀ i, (spF w x m v s i).1 = false → (spF w x m v s i).2.2 = 999 := by
  intro i
  induction i with
  | zero => intro _; rfl
  | succ i ih =>
    show (if cIs w x m v i then _ else _ : Bool × Nat × Nat).1 = false → (if cIs w x m v i then _ else _ : Bool × Nat × Nat).2.2 = 999
    by_cases q : cIs w x m v i = true
    · rw [if_pos q]; intro h; cases h
    · rw [if_neg q]; exact ih
theorem p_close (z : St) {s v lo hi : Nat} (hs : s < 2) (hv : v < 25) (hl : lo ≤ 999) (hh : hi ≤ 1499) (e0 : z.2.1 (20 + s) v = nI lo) (e1 : z.2.1 (23 + s) v = nI hi ∨ (hi = 999 ∧ z.2.1 (23 + s) v = 1000000)) : f_X0_close z (nI s) (nI v) = some (sA (sA z (23 + s) (upd (z.2.1 (23 + s)) v (nI hi))) (26 + s) (upd (z.2.1 (26 + s)) v (nI (if lo ≤ hi then (lo + hi) / 2 else 0)))) := by
  have hin : vp_in (nI s) 2 := vp_in_nI hs (by omega)
  have fin : ∀ q : St, q.2.1 (20 + s) v = nI lo → q.2.1 (23 + s) v = nI hi → F_X0_close_24 q (nI s) (nI v) = some (sA q (26 + s) (upd (q.2.1 (26 + s)) v (nI (if lo ≤ hi then (lo + hi) / 2 else 0)))) := by
    intro q h0 h1
    unfold F_X0_close_24 F_X0_close_66
    simp only [oL_s, oA_in _ hin, nI_clamp (show s < 2 ^ 31 by omega), nI_clamp (show v < 2 ^ 31 by omega), row20 hs hv, row23 hs hv, row26 hs hv, h0, h1, oD2]
    by_cases c : lo ≤ hi
    · rw [if_pos (nI_le c (by omega)), if_pos c, nI_add, show (2 : Int32) = nI 2 from rfl, divN (by omega) (by omega)]
    · rw [if_neg (nI_ge (by omega) (by omega)), if_neg c]; rfl
  unfold f_X0_close F_X0_close_0
  simp only [oL_s, oA_in _ hin, nI_clamp (show s < 2 ^ 31 by omega), nI_clamp (show v < 2 ^ 31 by omega), row23 hs hv]
  rcases e1 with e1 | ⟨rfl, e1⟩
  · have n : ¬ nI hi = (1000000 : Int32) := fun q => by have := (nI_eq (b := 1000000) (by omega) (by omega)).mp q; omega
    rw [e1, if_neg n, fin z e0 e1]
    rw [fa_upd_same e1, sA_same]
  · rw [if_pos e1]
    have e2 : (sA z (23 + s) (upd (z.2.1 (23 + s)) v (999 : Int32))).2.1 (20 + s) v = nI lo := by rw [sA_ne _ _ _ _ (by omega)]; exact e0
    have e3 : (sA z (23 + s) (upd (z.2.1 (23 + s)) v (999 : Int32))).2.1 (23 + s) v = nI 999 := by rw [sA_eq, pk_us]; rfl
    rw [fin _ e2 e3, sA_ne _ _ (26 + s) _ (by omega)]
    rfl
def takeP (z w : St) (x : Int32) (m n : Nat) (z' : St) : Prop := fr [] [17, 20, 21, 23, 24, 26, 27] z z' ∧ (∀ i, i < m → z'.2.1 17 i = b2 (kn w x m i)) ∧ ∀ s, s < 2 → ∀ v, v < n → z'.2.1 (26 + s) v = nI (ppl w x m v s) ∧ z'.2.1 (20 + s) v = nI (spF w x m v s m).2.1 ∧ z'.2.1 (23 + s) v = nI (spF w x m v s m).2.2
theorem mem2 {s a b : Nat} (hs : s < 2) {L : List Nat} (h0 : a ∈ L) (h1 : a + 1 ∈ L) : a + s ∈ L := by
  rcases (show s = 0 ∨ s = 1 by omega) with rfl | rfl
  · exact h0
  · exact h1
theorem p_take {z w : St} {m n : Nat} (hz : ntZ z w m) (hw : ntW w m n) (hE : erW w) (e18 : z.2.1 18 = w.2.1 10) (hn : n ≤ 25) (e21 : z.1 21 = nI n) (x : Int32) : ∃ z', f_X0_take z x = some z' ∧ takeP z w x m n z' := by
  obtain ⟨g, g1, hg⟩ := p_sift hz hw x
  obtain ⟨e29, e11, e12, e13, e14, e15, e16⟩ := hz
  have hm := hw.1
  unfold f_X0_take F_X0_take_0
  simp only [g1, oC_s, oL_s]
  have f17 : fr [] [17, 20, 21, 23, 24, 26, 27] z (sA z 17 g) := fr_A fr_0 (by decide)
  refine loop_i (fun k i (s : St) => ∃ z', F_X0_take_10 k s (nI i) = some z' ∧ takeP z w x m n z') (fun i s => fr [] [20, 21, 23, 24] (sA z 17 g) s ∧ ∀ t, t < i → ∀ v, v < 25 → s.2.1 (20 + t) v = 0 ∧ s.2.1 (23 + t) v = 1000000) 2 ?_ ?_ 100000 0 _ (Nat.zero_le _) (by omega) ⟨fr_0, fun t ht => absurd ht (Nat.not_lt_zero t)⟩
  · rintro k s ⟨f, hf⟩
    show ∃ z', F_X0_take_10_b _ s (nI 2) = some z' ∧ _
    unfold F_X0_take_10_b
    have q : (2 : Int32) ≤ nI 2 := Int32.le_refl _
    rw [if_pos q, oL_s]
    refine loop_i (fun k i (s' : St) => ∃ z', F_X0_take_44 k s' (nI i) = some z' ∧ takeP z w x m n z') (fun i s' => fr [] [20, 21, 23, 24] (sA z 17 g) s' ∧ ∀ t, t < 2 → ∀ v, v < n → s'.2.1 (20 + t) v = nI (spF w x m v t i).2.1 ∧ s'.2.1 (23 + t) v = if (spF w x m v t i).1 then nI (spF w x m v t i).2.2 else 1000000) m ?_ ?_ 100000 0 _ (Nat.zero_le _) (by omega) ⟨f, fun t ht v hv => hf t ht v (by omega)⟩
    · rintro k s' ⟨f', hf'⟩
      show ∃ z', F_X0_take_44_b _ s' (nI m) = some z' ∧ _
      unfold F_X0_take_44_b
      have e29' : s'.1 29 = nI m := (f'.1 29 (by decide)).trans e29
      rw [e29', if_pos (Int32.le_refl _), oL_s]
      refine loop_i (fun k i (q : St) => ∃ z', F_X0_take_157 k q (nI i) = some z' ∧ takeP z w x m n z') (fun i q => fr [] [23, 24, 26, 27] s' q ∧ (∀ t, t < 2 → ∀ v, v < i → q.2.1 (26 + t) v = nI (ppl w x m v t) ∧ q.2.1 (23 + t) v = nI (spF w x m v t m).2.2) ∧ ∀ t, t < 2 → ∀ v, i ≤ v → q.2.1 (23 + t) v = s'.2.1 (23 + t) v) n ?_ ?_ 100000 0 _ (Nat.zero_le _) (by omega) ⟨fr_0, fun t ht v hv => absurd hv (Nat.not_lt_zero v), fun _ _ _ _ => rfl⟩
      · rintro k q ⟨fq, hq, _⟩
        refine ⟨q, ?_, ?_, ?_, ?_⟩
        · show F_X0_take_157_b _ q (nI n) = _
          unfold F_X0_take_157_b
          have : q.1 21 = nI n := (fq.1 21 (by decide)).trans ((f'.1 21 (by decide)).trans e21)
          rw [this, if_pos (Int32.le_refl _)]
        · exact fr_t f17 (fr_t (fr_m f' (by decide) (by decide)) (fr_m fq (by decide) (by decide)))
        · intro i hi
          rw [fq.2 17 (by decide), f'.2 17 (by decide), sA_eq]
          exact hg i hi
        · intro t ht v hv
          refine ⟨(hq t ht v hv).1, ?_, (hq t ht v hv).2⟩
          have : q.2.1 (20 + t) = s'.2.1 (20 + t) := fq.2 _ (by rcases (show t = 0 ∨ t = 1 by omega) with rfl | rfl <;> decide)
          rw [this]
          exact (hf' t ht v hv).1
      · rintro k i q hi ⟨fq, hq, hr⟩ K
        show ∃ z', F_X0_take_157_b (F_X0_take_157 k) q (nI i) = some z' ∧ _
        unfold F_X0_take_157_b
        have e21' : q.1 21 = nI n := (fq.1 21 (by decide)).trans ((f'.1 21 (by decide)).trans e21)
        have r20 : ∀ t, t < 2 → q.2.1 (20 + t) = s'.2.1 (20 + t) := fun t ht => fq.2 _ (by rcases (show t = 0 ∨ t = 1 by omega) with rfl | rfl <;> decide)
        have bd0 := sp_bd (x := x) (v := i) hw hE (show 0 < 2 by omega) m (Nat.le_refl _)
        have bd1 := sp_bd (x := x) (v := i) hw hE (show 1 < 2 by omega) m (Nat.le_refl _)
        have g23 : ∀ t, t < 2 → s'.2.1 (23 + t) i = nI (spF w x m i t m).2.2 ∨ ((spF w x m i t m).2.2 = 999 ∧ s'.2.1 (23 + t) i = 1000000) := by
          intro t ht
          have := (hf' t ht i hi).2
          by_cases c : (spF w x m i t m).1 = true
          · rw [if_pos c] at this; exact Or.inl this
          · rw [if_neg c] at this; exact Or.inr ⟨sp_no m (by simpa using c), this⟩
        rw [e21', if_neg (nI_ge hi (by omega)), show (0 : Int32) = nI 0 from rfl, show (1 : Int32) = nI 1 from rfl]
        have c0 := p_close q (s := 0) (v := i) (by omega) (by omega) bd0.1 bd0.2 (by rw [r20 0 (by omega)]; exact (hf' 0 (by omega) i hi).1) (by rw [hr 0 (by omega) i (Nat.le_refl _)]; exact g23 0 (by omega))
        rw [c0, oC_s, oL_s]
        have c1 := p_close (sA (sA q (23 + 0) (upd (q.2.1 (23 + 0)) i (nI (spF w x m i 0 m).2.2))) (26 + 0) (upd (q.2.1 (26 + 0)) i (nI (if (spF w x m i 0 m).2.1 ≤ (spF w x m i 0 m).2.2 then ((spF w x m i 0 m).2.1 + (spF w x m i 0 m).2.2) / 2 else 0)))) (s := 1) (v := i) (by omega) (by omega) bd1.1 bd1.2 (by show q.2.1 (20 + 1) i = _; rw [r20 1 (by omega)]; exact (hf' 1 (by omega) i hi).1) (by show q.2.1 (23 + 1) i = _ ∨ (_ ∧ q.2.1 (23 + 1) i = _); rw [hr 1 (by omega) i (Nat.le_refl _)]; exact g23 1 (by omega))
        rw [c1, oC_s, oL_s, oL_s, show nI i + nI 1 = nI (i + 1) from nI_1 i]
        refine K _ ⟨fr_A (fr_A (fr_A (fr_A fq (by decide)) (by decide)) (by decide)) (by decide), ?_, ?_⟩
        · intro t ht v hv
          rcases (show t = 0 ∨ t = 1 by omega) with rfl | rfl
          · show upd (q.2.1 26) i _ v = _ ∧ upd (q.2.1 23) i _ v = _
            by_cases e : v = i
            · subst e; rw [pk_us, pk_us]; exact ⟨rfl, rfl⟩
            · rw [pk_un e, pk_un e]; exact hq 0 (by omega) v (by omega)
          · show upd (q.2.1 27) i _ v = _ ∧ upd (q.2.1 24) i _ v = _
            by_cases e : v = i
            · subst e; rw [pk_us, pk_us]; exact ⟨rfl, rfl⟩
            · rw [pk_un e, pk_un e]; exact hq 1 (by omega) v (by omega)
        · intro t ht v hv
          rcases (show t = 0 ∨ t = 1 by omega) with rfl | rfl
          · show upd (q.2.1 23) i _ v = _
            rw [pk_un (by omega)]; exact hr 0 (by omega) v (by omega)
          · show upd (q.2.1 24) i _ v = _
            rw [pk_un (by omega)]; exact hr 1 (by omega) v (by omega)
    · rintro k i s' hi ⟨f', hf'⟩ K
      show ∃ z', F_X0_take_44_b (F_X0_take_44 k) s' (nI i) = some z' ∧ _
      have hin : vp_in (nI i) 80 := vp_in_nI (by omega) (by omega)
      have e29' : s'.1 29 = nI m := (f'.1 29 (by decide)).trans e29
      have e21' : s'.1 21 = nI n := (f'.1 21 (by decide)).trans e21
      have e17' : s'.2.1 17 i = b2 (kn w x m i) := by rw [f'.2 17 (by decide), sA_eq]; exact hg i hi
      have e11' : s'.2.1 11 = w.2.1 16 := (f'.2 11 (by decide)).trans e11
      have e12' : s'.2.1 12 = w.2.1 18 := (f'.2 12 (by decide)).trans e12
      have e13' : s'.2.1 13 = w.2.1 19 := (f'.2 13 (by decide)).trans e13
      have e14' : s'.2.1 14 = w.2.1 20 := (f'.2 14 (by decide)).trans e14
      have e15' : s'.2.1 15 = w.2.1 21 := (f'.2 15 (by decide)).trans e15
      have e18' : s'.2.1 18 = w.2.1 10 := (f'.2 18 (by decide)).trans e18
      unfold F_X0_take_44_b F_X0_take_149
      rw [e29', if_neg (nI_ge hi (by omega)), p_isKnown _ _ (show i < 80 by omega)]
      simp only [oC_s, oL_s, e17', e11', e12', e13', e14', e18', b2_0, p_has4, e21', nI_1, oA_in _ hin, nI_clamp (show i < 2 ^ 31 by omega)]
      have stay : (∀ v, cIs w x m v i = false) → ∃ z', F_X0_take_44 k s' (nI (i + 1)) = some z' ∧ takeP z w x m n z' := by
        intro hc
        refine K _ ⟨f', fun t ht v hv => ?_⟩
        have : spF w x m v t (i + 1) = spF w x m v t i := by
          show (if cIs w x m v i then _ else _ : Bool × Nat × Nat) = _
          rw [hc v, if_neg (by decide)]
        rw [this]
        exact hf' t ht v hv
      by_cases a : kn w x m i = false
      · rw [if_pos a, if_pos rfl]
        exact stay (fun v => by unfold cIs; rw [a]; rfl)
      · rw [if_neg a]
        by_cases b : w.2.1 16 i = (3 : Int32)
        · obtain ⟨hd, u, h1, h2, h3, h4, h5, h6, h7⟩ := nt_count hw hE hi b
          have i4 : ¬ (nI u < 0 ∨ nI n ≤ nI u) := fun q => q.elim (nI_pos (by omega)) (nI_ge (by omega) (by omega))
          have hin2 : vp_in (nI hd) 4 := vp_in_nI (by omega) (by omega)
          have a0 : w.2.1 20 i = nI (cA0 w i 0) := (h5 0 (by omega)).2
          have a1 : w.2.1 21 i = nI (cA0 w i 1) := (h5 1 (by omega)).2
          rw [if_pos b, if_neg (by decide), h4, if_neg i4, if_neg (by decide), h3, oA_in _ hin2, nI_clamp (by omega), h7, a0, show (0 : Int32) = nI 0 from rfl, p_narrow s' (by omega) (by omega) (h5 0 (by omega)).1 h6, oC_s]
          have n0 := p_narrow (sA (sA s' (20 + 0) (upd (s'.2.1 (20 + 0)) u (jmax (s'.2.1 (20 + 0) u) (nI (cA0 w i 0 * (100 - cE0 w i) / 100))))) (23 + 0) (upd (s'.2.1 (23 + 0)) u (jmin (s'.2.1 (23 + 0) u) (nI ((cA0 w i 0 * (100 + cE0 w i) + 99) / 100))))) (s := 1) (v := u) (by omega) (by omega) (h5 1 (by omega)).1 h6
          have x13 : (sA (sA s' (20 + 0) (upd (s'.2.1 (20 + 0)) u (jmax (s'.2.1 (20 + 0) u) (nI (cA0 w i 0 * (100 - cE0 w i) / 100))))) (23 + 0) (upd (s'.2.1 (23 + 0)) u (jmin (s'.2.1 (23 + 0) u) (nI ((cA0 w i 0 * (100 + cE0 w i) + 99) / 100))))).2.1 13 i = nI u := by
            show s'.2.1 13 i = _
            rw [e13']; exact h4
          have x15 : (sA (sA s' (20 + 0) (upd (s'.2.1 (20 + 0)) u (jmax (s'.2.1 (20 + 0) u) (nI (cA0 w i 0 * (100 - cE0 w i) / 100))))) (23 + 0) (upd (s'.2.1 (23 + 0)) u (jmin (s'.2.1 (23 + 0) u) (nI ((cA0 w i 0 * (100 + cE0 w i) + 99) / 100))))).2.1 15 i = nI (cA0 w i 1) := by
            show s'.2.1 15 i = _
            rw [e15']; exact a1
          rw [x13, x15, show (1 : Int32) = nI 1 from rfl, n0, oC_s]
          refine K _ ⟨fr_A (fr_A (fr_A (fr_A f' (by decide)) (by decide)) (by decide)) (by decide), ?_⟩
          have yes : ∀ v, v < n → (cIs w x m v i = true ↔ v = u) := by
            intro v hv
            unfold cIs
            rw [Bool.and_eq_true, decide_eq_true_iff, h4]
            constructor
            · rintro ⟨_, _, q⟩; exact ((nI_eq (by omega) (by omega)).mp q).symm
            · rintro rfl; exact ⟨by simpa using a, b, rfl⟩
          have lh := fun t (ht : t < 2) => lohi hw hE hi b ht
          have bd := fun t (ht : t < 2) => sp_bd (x := x) (v := u) hw hE ht i (by omega)
          have new : ∀ t, t < 2 → jmax (s'.2.1 (20 + t) u) (nI (cLo w i t)) = nI (spF w x m u t (i + 1)).2.1 ∧ jmin (s'.2.1 (23 + t) u) (nI (cHi w i t)) = if (spF w x m u t (i + 1)).1 then nI (spF w x m u t (i + 1)).2.2 else 1000000 := by
            intro t ht
            have l := lh t ht
            have d := bd t ht
            obtain ⟨p0, p1⟩ := hf' t ht u h2
            have : spF w x m u t (i + 1) = (true, max (spF w x m u t i).2.1 (cLo w i t), if (spF w x m u t i).1 then min (spF w x m u t i).2.2 (cHi w i t) else cHi w i t) := by
              show (if cIs w x m u i then _ else _ : Bool × Nat × Nat) = _
              rw [if_pos ((yes u h2).mpr rfl)]
            rw [this, p0, p1, if_pos rfl, jmaxN (by omega) (by omega)]
            refine ⟨rfl, ?_⟩
            by_cases c : (spF w x m u t i).1 = true
            · rw [if_pos c, if_pos c, jminN (by omega) (by omega)]
            · rw [if_neg c, if_neg c, show (1000000 : Int32) = nI 1000000 from rfl, jminN (by omega) (by omega), Nat.min_eq_right (by omega)]
          intro t ht v hv
          by_cases e : v = u
          · subst e
            obtain ⟨p0, p1⟩ := new t ht
            rcases (show t = 0 ∨ t = 1 by omega) with rfl | rfl
            · rw [← p0, ← p1]
              show upd (s'.2.1 20) v _ v = _ ∧ upd (s'.2.1 23) v _ v = _
              rw [pk_us, pk_us]; exact ⟨rfl, rfl⟩
            · rw [← p0, ← p1]
              show upd (s'.2.1 21) v _ v = _ ∧ upd (s'.2.1 24) v _ v = _
              rw [pk_us, pk_us]; exact ⟨rfl, rfl⟩
          · have : spF w x m v t (i + 1) = spF w x m v t i := by
              show (if cIs w x m v i then _ else _ : Bool × Nat × Nat) = _
              rw [if_neg (fun q => e ((yes v hv).mp q))]
            rw [this]
            rcases (show t = 0 ∨ t = 1 by omega) with rfl | rfl
            · show upd (s'.2.1 20) u _ v = _ ∧ upd (s'.2.1 23) u _ v = _
              rw [pk_un e, pk_un e]; exact hf' 0 (by omega) v hv
            · show upd (s'.2.1 21) u _ v = _ ∧ upd (s'.2.1 24) u _ v = _
              rw [pk_un e, pk_un e]; exact hf' 1 (by omega) v hv
        · rw [if_neg b, if_pos rfl]
          exact stay (fun v => by unfold cIs; rw [decide_eq_false (fun q => b q.1), Bool.and_false])
  · rintro k i s hi ⟨f, hf⟩ K
    show ∃ z', F_X0_take_10_b (F_X0_take_10 k) s (nI i) = some z' ∧ _
    have hin : vp_in (nI i) 2 := vp_in_nI hi (by omega)
    have q : ¬ (2 : Int32) ≤ nI i := nI_ge (b := 2) hi (by omega)
    have rk := rowK i hi
    unfold F_X0_take_10_b
    rw [if_neg q]
    simp only [oL_s, oA_in _ hin, nI_clamp (show i < 2 ^ 31 by omega), p_fill _ rk.1.1 rk.1.2.1 (by omega), p_fill _ rk.2.1.1 rk.2.1.2.1 (by omega), oC_s, nI_1]
    refine K _ ⟨fr_A (fr_A f (mem2 hi (b := 0) (by decide) (by decide))) (mem2 hi (b := 0) (by decide) (by decide)), ?_⟩
    intro t ht v hv
    by_cases e : t = i
    · subst e
      rw [sA_eq, sA_ne _ _ _ _ (by omega), sA_eq]
      exact ⟨if_pos (by omega), if_pos (by omega)⟩
    · rw [sA_ne _ _ _ _ (by omega), sA_ne _ _ _ _ (by omega), sA_ne _ _ _ _ (by omega), sA_ne _ _ _ _ (by omega)]
      exact hf t (by omega) v hv
