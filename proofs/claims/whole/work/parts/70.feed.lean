/-! PURE: the tape is fed -/
def byt (x : Int32) (s : Nat) : Int32 := ushr x (nI s) &&& (255 : Int32)
theorem byt_sh (x : Int32) {s : Nat} (hs : s ≤ 24) : (x >>> (nI s &&& 31)) &&& (255 : Int32) = byt x s := by
  apply b_ext
  intro i hi
  unfold byt
  rw [b_and, b_and, b_sshr s (by omega) x hi, b_ush _ (by omega), b_255]
  by_cases h : i < 8
  · rw [if_pos (by omega)]
  · rw [decide_eq_false h, Bool.and_false, Bool.and_false]
theorem byt_lt (x : Int32) (s : Nat) : ∃ b, b < 256 ∧ byt x s = nI b := by
  have : bl (byt x s) 8 := by
    intro i hi
    unfold byt
    rw [b_and, b_255, decide_eq_false (by omega), Bool.and_false]
  obtain ⟨k, hk, e⟩ := bl_nI (by omega) this
  exact ⟨k, hk, e⟩
theorem store_1 (n : Nat) (s : St) (x : Int32) {t sh : Nat} (ht : t < 400) (hs : sh ≤ 24) (e : s.1 1 = nI t) : F_X6_store_3 (n + 1) s x (nI sh) = F_X6_store_3 n (sI (sA s 0 (upd (s.2.1 0) t (byt x sh))) 1 (nI (t + 1))) x (nI sh + (-8 : Int32)) := by
  show F_X6_store_3_b _ s x (nI sh) = _
  unfold F_X6_store_3_b
  have q : ¬ (400 : Int32) ≤ nI t := nI_ge (b := 400) ht (by omega)
  rw [if_neg (nI_pos (by omega)), e, if_neg q, oA_in _ (vp_in_nI ht (by omega)), oL_s, oL_s, oL_s, sA_1, e, nI_clamp (by omega), nI_1]
  rfl
theorem store_0 (n : Nat) (s : St) (x : Int32) : F_X6_store_3 (n + 1) s x (-8 : Int32) = some s := by
  show F_X6_store_3_b _ s x (-8 : Int32) = _
  unfold F_X6_store_3_b F_X6_store_49
  have q : (-8 : Int32) < 0 := by decide
  rw [if_pos q]
def st4 (f : Nat → Int32) (t : Nat) (x : Int32) : Nat → Int32 := upd (upd (upd (upd f t (byt x 24)) (t + 1) (byt x 16)) (t + 2) (byt x 8)) (t + 3) (byt x 0)
theorem sI_sA (z : St) (j k : Nat) (v : Int32) (g : Nat → Int32) : sA (sI z j v) k g = sI (sA z k g) j v := rfl
theorem sI_sI (z : St) (k : Nat) (a b : Int32) : sI (sI z k a) k b = sI z k b := by
  have e : va_up (va_up z.1 k a) k b = va_up z.1 k b := by
    funext j
    unfold va_up
    by_cases h : j = k
    · rw [if_pos h, if_pos h]
    · rw [if_neg h, if_neg h, if_neg h]
  show (va_up (va_up z.1 k a) k b, z.2.1, z.2.2) = _
  rw [e]
  rfl
theorem p_store (s : St) (x : Int32) {t : Nat} (ht : t + 4 ≤ 400) (e : s.1 1 = nI t) : f_X6_store s x = some (sI (sA s 0 (st4 (s.2.1 0) t x)) 1 (nI (t + 4))) := by
  unfold f_X6_store F_X6_store_0
  rw [oL_s]
  have k : ∀ n, F_X6_store_3 (n + 5) s x (nI 24) = some (sI (sA s 0 (st4 (s.2.1 0) t x)) 1 (nI (t + 4))) := by
    intro n
    rw [store_1 (n + 4) s x (show t < 400 by omega) (by omega) e, show nI 24 + (-8 : Int32) = nI 16 from by decide,
      store_1 (n + 3) _ x (show t + 1 < 400 by omega) (by omega) (sI_eq _ _ _), show nI 16 + (-8 : Int32) = nI 8 from by decide,
      store_1 (n + 2) _ x (show t + 2 < 400 by omega) (by omega) (sI_eq _ _ _), show nI 8 + (-8 : Int32) = nI 0 from by decide,
      store_1 (n + 1) _ x (show t + 3 < 400 by omega) (by omega) (sI_eq _ _ _), show nI 0 + (-8 : Int32) = -8 from by decide, store_0]
    simp only [sI_sA, sI_sI, sA_sA, sI_a, sA_eq]
    rfl
  exact k 99995
def argF (x1 x2 x3 x4 x5 : Int32) (i : Nat) : Int32 := if i < 4 then x1 else if i < 8 then x2 else if i < 12 then x3 else if i < 16 then x4 else x5
theorem k_feed : ∀ i, i < 20 → (24 : Int32) - (8 : Int32) * (nI i - nI i / (4 : Int32) * (4 : Int32)) = nI (24 - 8 * (i % 4)) := by decide +kernel
theorem feed_R (s : St) (x1 x2 x3 x4 x5 : Int32) {t : Nat} (ht : t + 20 ≤ 400) (e : s.1 1 = nI t) : F_X12_feed_20 100000 s x1 x2 x3 x4 x5 0 = some (nI (t + 20), sI (sA s 0 (foldN (fun i f => upd f (t + i) (byt (argF x1 x2 x3 x4 x5 i) (24 - 8 * (i % 4)))) 20 (s.2.1 0))) 1 (nI (t + 20))) := by
  have cl : ∀ k, foldN (fun i (q : St) => sA q 0 (upd (q.2.1 0) (t + i) (byt (argF x1 x2 x3 x4 x5 i) (24 - 8 * (i % 4))))) k s = sA s 0 (foldN (fun i f => upd f (t + i) (byt (argF x1 x2 x3 x4 x5 i) (24 - 8 * (i % 4)))) k (s.2.1 0)) := by
    intro k
    induction k with
    | zero => exact (sA_same s 0).symm
    | succ k ih =>
      show sA (foldN _ k s) 0 (upd ((foldN _ k s).2.1 0) _ _) = _
      rw [ih, sA_sA, sA_eq]
      rfl
  have key : ∀ k, foldN (fun i (q : St × Nat) => (sA q.1 0 (upd (q.1.2.1 0) (t + i) (byt (argF x1 x2 x3 x4 x5 i) (24 - 8 * (i % 4)))), q.2 + 1)) k (s, 0) = (foldN (fun i (q : St) => sA q 0 (upd (q.2.1 0) (t + i) (byt (argF x1 x2 x3 x4 x5 i) (24 - 8 * (i % 4))))) k s, k) := by
    intro k
    induction k with
    | zero => rfl
    | succ k ih =>
      show ((sA (foldN _ k (s, 0)).1 0 _ , _) : St × Nat) = _
      rw [ih]
      rfl
  have := loop_i (fun n i (q : St) => q.1 1 = nI t → F_X12_feed_20 n q x1 x2 x3 x4 x5 (nI i) = some (nI (t + 20), sI (sA s 0 (foldN (fun i f => upd f (t + i) (byt (argF x1 x2 x3 x4 x5 i) (24 - 8 * (i % 4)))) 20 (s.2.1 0))) 1 (nI (t + 20)))) (fun i q => q = sA s 0 (foldN (fun i f => upd f (t + i) (byt (argF x1 x2 x3 x4 x5 i) (24 - 8 * (i % 4)))) i (s.2.1 0))) 20 ?_ ?_ 100000 0 s (Nat.zero_le _) (by omega) (sA_same s 0).symm
  · exact this e
  · intro n q hq e1
    show F_X12_feed_20_b _ q x1 x2 x3 x4 x5 (nI 20) = _
    unfold F_X12_feed_20_b
    have q20 : (20 : Int32) ≤ nI 20 := Int32.le_refl _
    rw [if_pos q20, oL_s, e1, sI_eq, show (20 : Int32) = nI 20 from rfl, nI_add, hq]
  · intro n i q hi hq K e1
    show F_X12_feed_20_b (F_X12_feed_20 n) q x1 x2 x3 x4 x5 (nI i) = _
    have q20 : ¬ (20 : Int32) ≤ nI i := nI_ge (b := 20) hi (by omega)
    have go : F_X12_feed_73 (F_X12_feed_20 n) q x1 x2 x3 x4 x5 (nI i) (argF x1 x2 x3 x4 x5 i) = some (nI (t + 20), sI (sA s 0 (foldN (fun i f => upd f (t + i) (byt (argF x1 x2 x3 x4 x5 i) (24 - 8 * (i % 4)))) 20 (s.2.1 0))) 1 (nI (t + 20))) := by
      unfold F_X12_feed_73
      have d4 : ∀ c : Option (Int32 × St), oD (4 : Int32) c = c := fun c => if_neg (by decide)
      rw [d4, e1, nI_add, oA_in _ (vp_in_nI (show t + i < 400 by omega) (by omega)), oL_s, oL_s, k_feed i hi, byt_sh _ (by omega), nI_clamp (by omega), nI_1]
      refine K _ ?_ e1
      rw [hq, sA_sA, sA_eq]
      rfl
    unfold F_X12_feed_20_b
    rw [if_neg q20]
    by_cases h4 : i < 4
    · have a : ¬ (4 : Int32) ≤ nI i := nI_ge (b := 4) h4 (by omega)
      rw [if_neg a]; unfold argF at go; rw [if_pos h4] at go; exact go
    have a4 : (4 : Int32) ≤ nI i := nI_le (a := 4) (by omega) (by omega)
    rw [if_pos a4]
    by_cases h8 : i < 8
    · have a : ¬ (8 : Int32) ≤ nI i := nI_ge (b := 8) h8 (by omega)
      rw [if_neg a]; unfold argF at go; rw [if_neg h4, if_pos h8] at go; exact go
    have a8 : (8 : Int32) ≤ nI i := nI_le (a := 8) (by omega) (by omega)
    rw [if_pos a8]
    by_cases h12 : i < 12
    · have a : ¬ (12 : Int32) ≤ nI i := nI_ge (b := 12) h12 (by omega)
      rw [if_neg a]; unfold argF at go; rw [if_neg h4, if_neg h8, if_pos h12] at go; exact go
    have a12 : (12 : Int32) ≤ nI i := nI_le (a := 12) (by omega) (by omega)
    rw [if_pos a12]
    by_cases h16 : i < 16
    · have a : ¬ (16 : Int32) ≤ nI i := nI_ge (b := 16) h16 (by omega)
      rw [if_neg a]; unfold argF at go; rw [if_neg h4, if_neg h8, if_neg h12, if_pos h16] at go; exact go
    have a16 : (16 : Int32) ≤ nI i := nI_le (a := 16) (by omega) (by omega)
    rw [if_pos a16]; unfold argF at go; rw [if_neg h4, if_neg h8, if_neg h12, if_neg h16] at go; exact go
theorem q_feed {z w : St} (h : Inv z w) (x1 x2 x3 x4 x5 : Int32) : Ok (f_X11_feed z x1 x2 x3 x4 x5) (f_X12_feed w x1 x2 x3 x4 x5) := by
  have h' := h
  obtain ⟨W, H, hDy, hL, hV, hC, hN, hE, hD, hK, ⟨t, ht, t1, t2, t3, t4⟩, hF, hR⟩ := h
  have k2 : (sI w 0 0).1 1 = nI t := t2
  have hr : f_X6_hasRoom z = some (if 380 < t then 0 else 1, z) := by
    unfold f_X6_hasRoom F_X6_hasRoom_0 F_X6_hasRoom_18
    rw [t1, show (20 : Int32) = nI 20 from rfl, nI_add]
    by_cases q : 380 < t
    · have a : (400 : Int32) < nI (t + 20) := nI_lt (a := 400) (by omega) (by omega)
      rw [if_pos a, if_pos q, oC_s]; exact oZ_0 _
    · have a : ¬ (400 : Int32) < nI (t + 20) := nI_nlt (a := 400) (by omega) (by omega)
      rw [if_neg a, if_neg q, oC_s]; exact oZ_1 _
  unfold f_X11_feed F_X11_feed_0 f_X12_feed F_X12_feed_0
  simp only [hr, oC_s, oL_s, k2]
  by_cases q : 380 < t
  · have a : ¬ nI t ≤ (380 : Int32) := nI_ge (a := 380) q (by omega)
    rw [if_pos q, if_pos rfl, if_neg a]
    exact ⟨-1, _, _, rfl, rfl, Inv_0 h'⟩
  · have a : nI t ≤ (380 : Int32) := nI_le (b := 380) (by omega) (by omega)
    rw [if_neg q, if_neg (by decide), if_pos a, feed_R _ x1 x2 x3 x4 x5 (by omega) k2]
    rw [p_store z x1 (by omega) t1, oC_s, p_store _ x2 (t := t + 4) (by omega) (sI_eq _ _ _), oC_s, p_store _ x3 (t := t + 4 + 4) (by omega) (sI_eq _ _ _), oC_s, p_store _ x4 (t := t + 4 + 4 + 4) (by omega) (sI_eq _ _ _), oC_s, p_store _ x5 (t := t + 4 + 4 + 4 + 4) (by omega) (sI_eq _ _ _), oC_s]
    simp only [sI_sA, sI_sI, sA_sA, sI_a, sA_eq, sI_eq]
    have et : st4 (st4 (st4 (st4 (st4 (z.2.1 0) t x1) (t + 4) x2) (t + 4 + 4) x3) (t + 4 + 4 + 4) x4) (t + 4 + 4 + 4 + 4) x5 = foldN (fun i f => upd f (t + i) (byt (argF x1 x2 x3 x4 x5 i) (24 - 8 * (i % 4)))) 20 ((sI w 0 0).2.1 0) := by
      rw [t3]; rfl
    rw [et]
    refine ⟨nI (t + 20), _, _, rfl, rfl, W, H, hDy, hL, hV, hC, hN, hE, hD, hK, ⟨t + 20, by omega, rfl, rfl, rfl, ?_⟩, hF, hR⟩
    have bt20 : ∀ k, k ≤ 20 → ∀ i, i < t + k → ∃ b, b < 256 ∧ foldN (fun i f => upd f (t + i) (byt (argF x1 x2 x3 x4 x5 i) (24 - 8 * (i % 4)))) k (w.2.1 0) i = nI b := by
      intro k
      induction k with
      | zero => intro _ i hi; exact t4 i (by omega)
      | succ k ih =>
        intro hk i hi
        show ∃ b, b < 256 ∧ upd (foldN _ k (w.2.1 0)) (t + k) _ i = nI b
        by_cases e : i = t + k
        · rw [e, pk_us]; exact byt_lt _ _
        · rw [pk_un e]; exact ih (by omega) i (by omega)
    exact bt20 20 (by omega)
