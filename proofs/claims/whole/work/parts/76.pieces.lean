/-! PURE: pieces -/
def sub (x y : Int32) : Prop := ∀ v, bt x v = true → bt y v = true
def grow (W n : Nat) (S p : Int32) : Int32 := p ||| (arnd W n p &&& S)
def itg (W n : Nat) (S : Int32) : Nat → Int32 → Int32
  | 0, p => p
  | k + 1, p => itg W n S k (grow W n S p)
def clo (W n : Nat) (S p : Int32) : Int32 := itg W n S 25 p
theorem bt_neg (x : Int32) {v : Nat} (hv : v < 32) : bt (-x) v = (bt x v ^^ decide (∃ j, j < v ∧ bt x j = true)) := by
  unfold bt
  rw [Int32.toBitVec_neg, BitVec.getLsbD_neg]
  simp [hv]
theorem bt_low (x : Int32) {v : Nat} (hv : v < 32) : bt (x &&& (-x)) v = true ↔ bt x v = true ∧ ∀ j, j < v → bt x j = false := by
  rw [b_and, bt_neg x hv]
  by_cases h : ∃ j, j < v ∧ bt x j = true
  · rw [decide_eq_true h, Bool.xor_true]
    constructor
    · intro q; cases hb : bt x v <;> rw [hb] at q <;> cases q
    · rintro ⟨_, q⟩
      obtain ⟨j, hj, e⟩ := h
      rw [q j hj] at e; cases e
  · rw [decide_eq_false h, Bool.xor_false, Bool.and_self]
    constructor
    · intro q
      refine ⟨q, fun j hj => ?_⟩
      cases hb : bt x j with
      | false => rfl
      | true => exact absurd ⟨j, hj, hb⟩ h
    · exact fun q => q.1
theorem low_ex {x : Int32} (h : x ≠ 0) : ∃ v, v < 32 ∧ bt x v = true ∧ bt (x &&& (-x)) v = true := by
  have : ∃ i, i < 32 ∧ bt x i = true := by
    rcases Classical.em (∃ i, i < 32 ∧ bt x i = true) with q | q
    · exact q
    · exfalso
      apply h
      apply b_ext
      intro i hi
      rw [b_0]
      cases hb : bt x i with
      | false => rfl
      | true => exact absurd ⟨i, hi, hb⟩ q
  obtain ⟨i, hi, h1, h2⟩ := fb_first this
  exact ⟨i, hi, h1, (bt_low x hi).mpr ⟨h1, fun j hj => by simpa using h2 j hj⟩⟩
theorem low_sub (x : Int32) : sub (x &&& (-x)) x := fun v h => by rw [b_and, Bool.and_eq_true] at h; exact h.1
theorem bl_sub {x y : Int32} {n : Nat} (h : sub x y) (hy : bl y n) : bl x n := by
  intro i hi
  cases hb : bt x i with
  | false => rfl
  | true => have := h i hb; rw [hy i hi] at this; cases this
theorem bl_lt {x : Int32} {n v : Nat} (h : bl x n) (hv : bt x v = true) : v < n := by
  rcases Nat.lt_or_ge v n with q | q
  · exact q
  · rw [h v q] at hv; cases hv
theorem sub_ext {x y : Int32} (h1 : sub x y) (h2 : sub y x) : x = y := by
  apply b_ext
  intro i _
  rw [Bool.eq_iff_iff]
  exact ⟨h1 i, h2 i⟩
theorem pc_sub {x y : Int32} (h : sub x y) : pc x ≤ pc y := fb_ct_sub (fun k _ hk => h k hk)
theorem pc_less {x y : Int32} (h : sub x y) {v : Nat} (hv : v < 32) (hy : bt y v = true) (hx : bt x v = false) : pc x + 1 ≤ pc y := by
  rw [← pc_set hv hx]
  refine pc_sub (fun i hi => ?_)
  rw [bt_set hv, Bool.or_eq_true, decide_eq_true_iff] at hi
  rcases hi with q | q
  · exact h i q
  · rw [q]; exact hy
theorem pc_eq {x y : Int32} (h : sub x y) (hp : pc y ≤ pc x) : x = y := by
  refine sub_ext h (fun v hv => ?_)
  rcases Nat.lt_or_ge v 32 with q | q
  · cases hb : bt x v with
    | true => rfl
    | false => have := pc_less h q hv hb; omega
  · rw [b_big q] at hv; cases hv
theorem ct_lt (n : Nat) : ∀ N, fb_ct (fun i => decide (i < n)) N = min n N := by
  intro N
  induction N with
  | zero => exact (Nat.min_zero n).symm
  | succ N ih =>
    rw [fb_ct_succ, ih]
    by_cases q : N < n
    · rw [decide_eq_true q, if_pos rfl]; omega
    · rw [decide_eq_false q, if_neg (by decide)]; omega
theorem pc_bl {x : Int32} {n : Nat} (h : bl x n) : pc x ≤ n := by
  have h1 : pc x ≤ fb_ct (fun i => decide (i < n)) 32 := fb_ct_sub (fun k _ hk => decide_eq_true (bl_lt h hk))
  rw [ct_lt] at h1
  omega
section PCS
variable {W H : Nat} (hg : 2 ≤ W ∧ W ≤ 5 ∧ 2 ≤ H ∧ H ≤ 5)
theorem grow_sup (W n : Nat) (S p : Int32) : sub p (grow W n S p) := fun v h => by unfold grow; rw [b_or, h, Bool.true_or]
theorem grow_bl (hg : 2 ≤ W ∧ W ≤ 5 ∧ 2 ≤ H ∧ H ≤ 5) {S p : Int32} (h : bl p (W * H)) : bl (grow W (W * H) S p) (W * H) := by
  intro i hi
  unfold grow
  rw [b_or, b_and, h i hi, bl_arnd hg i hi]
  rfl
theorem itg_st {W n : Nat} {S p : Int32} (h : grow W n S p = p) : ∀ k, itg W n S k p = p := by
  intro k
  induction k with
  | zero => rfl
  | succ k ih => show itg W n S k (grow W n S p) = p; rw [h]; exact ih
theorem itg_cm (W n : Nat) (S : Int32) : ∀ k p, itg W n S k (grow W n S p) = grow W n S (itg W n S k p)
  | 0, _ => rfl
  | k + 1, p => itg_cm W n S k (grow W n S p)
theorem grow_ne (hg : 2 ≤ W ∧ W ≤ 5 ∧ 2 ≤ H ∧ H ≤ 5) {S p : Int32} (h : grow W (W * H) S p ≠ p) : pc p + 1 ≤ pc (grow W (W * H) S p) := by
  rcases Nat.lt_or_ge (pc p) (pc (grow W (W * H) S p)) with q | q
  · omega
  · exact absurd (pc_eq (grow_sup W (W * H) S p) q).symm h
theorem itg_fix (hg : 2 ≤ W ∧ W ≤ 5 ∧ 2 ≤ H ∧ H ≤ 5) {S : Int32} : ∀ k p, bl p (W * H) → W * H ≤ pc p + k → grow W (W * H) S (itg W (W * H) S k p) = itg W (W * H) S k p
  | 0, p, hp, h => (pc_eq (grow_sup W (W * H) S p) (Nat.le_trans (pc_bl (grow_bl hg hp)) (by omega))).symm
  | k + 1, p, hp, h => by
    by_cases q : grow W (W * H) S p = p
    · rw [itg_st q (k + 1)]; exact q
    · exact itg_fix hg k (grow W (W * H) S p) (grow_bl hg hp) (by have := grow_ne hg q; omega)
theorem clo_st (hg : 2 ≤ W ∧ W ≤ 5 ∧ 2 ≤ H ∧ H ≤ 5) {S p : Int32} (hp : bl p (W * H)) : grow W (W * H) S (clo W (W * H) S p) = clo W (W * H) S p := itg_fix hg 25 p hp (by have := sz25 hg; omega)
theorem clo_gr (hg : 2 ≤ W ∧ W ≤ 5 ∧ 2 ≤ H ∧ H ≤ 5) {S p : Int32} (hp : bl p (W * H)) : clo W (W * H) S (grow W (W * H) S p) = clo W (W * H) S p := (itg_cm W (W * H) S 25 p).trans (clo_st hg hp)
theorem itg_sup (W n : Nat) (S : Int32) : ∀ k p, sub p (itg W n S k p)
  | 0, _ => fun _ h => h
  | k + 1, p => fun v h => itg_sup W n S k (grow W n S p) v (grow_sup W n S p v h)
/-- L is a union of pieces of S -/
def closed (W n : Nat) (S L : Int32) : Prop := ∀ u v, bt L u = true → bt S v = true → adj W n u v = true → bt L v = true
theorem grow_cl (hg : 2 ≤ W ∧ W ≤ 5 ∧ 2 ≤ H ∧ H ≤ 5) {S L p : Int32} (hL : sub L S) (hc : closed W (W * H) S L) (hp : sub p L) : grow W (W * H) S p = grow W (W * H) L p ∧ sub (grow W (W * H) L p) L := by
  refine ⟨?_, ?_⟩
  · unfold grow
    congr 1
    apply b_ext
    intro v hv
    rw [b_and, b_and]
    cases ha : bt (arnd W (W * H) p) v with
    | false => rfl
    | true =>
      rw [Bool.true_and, Bool.true_and, Bool.eq_iff_iff]
      refine ⟨fun hs => ?_, hL v⟩
      obtain ⟨u, hu, h1, h2⟩ := (bt_arnd hg v).mp ha
      exact hc u v (hp u h1) hs h2
  · intro v h
    unfold grow at h
    rw [b_or, b_and, Bool.or_eq_true, Bool.and_eq_true] at h
    rcases h with h | h
    · exact hp v h
    · exact h.2
theorem itg_cl (hg : 2 ≤ W ∧ W ≤ 5 ∧ 2 ≤ H ∧ H ≤ 5) {S L : Int32} (hL : sub L S) (hc : closed W (W * H) S L) : ∀ k p, sub p L → itg W (W * H) S k p = itg W (W * H) L k p ∧ sub (itg W (W * H) L k p) L
  | 0, _, hp => ⟨rfl, hp⟩
  | k + 1, p, hp => by
    obtain ⟨e, s⟩ := grow_cl hg hL hc hp
    have := itg_cl hg hL hc k (grow W (W * H) L p) s
    exact ⟨by show itg W (W * H) S k (grow W (W * H) S p) = _; rw [e]; exact this.1, this.2⟩
theorem p_firstPiece (hg : 2 ≤ W ∧ W ≤ 5 ∧ 2 ≤ H ∧ H ≤ 5) {z : St} (h : geoC z W H) {x : Int32} (hx : bl x (W * H)) : f_X4_firstPiece z x = some (clo W (W * H) x (x &&& (-x)), z) := by
  unfold f_X4_firstPiece F_X4_firstPiece_0
  simp only [oL_s]
  refine loop_i (fun k i (p : Int32) => F_X4_firstPiece_7 k z x p (nI i) = some (itg W (W * H) x (25 - i) p, z)) (fun _ p => bl p (W * H)) 25 ?_ ?_ 100000 0 (x &&& (-x)) (Nat.zero_le _) (by omega) (bl_sub (low_sub x) hx)
  · intro k p hp
    show F_X4_firstPiece_7_b _ z x p (nI 25) = _
    unfold F_X4_firstPiece_7_b F_X4_firstPiece_42
    have q : (25 : Int32) ≤ nI 25 := Int32.le_refl _
    rw [if_pos q]; rfl
  · intro k i p hi hp K
    show F_X4_firstPiece_7_b (F_X4_firstPiece_7 k) z x p (nI i) = _
    unfold F_X4_firstPiece_7_b F_X4_firstPiece_42
    have q : ¬ (25 : Int32) ≤ nI i := nI_ge (b := 25) hi (by omega)
    rw [if_neg q, p_beside h hp]
    simp only [oC_s, oL_s]
    have eg : p ||| (arnd W (W * H) p &&& x) = grow W (W * H) x p := rfl
    rw [eg, show 25 - i = (25 - (i + 1)) + 1 by omega]
    by_cases c : grow W (W * H) x p = p
    · rw [if_pos c, itg_st c]
    · rw [if_neg c, nI_1]; exact K _ (grow_bl hg hp)
/-- how many pieces -/
def pcsF (W n : Nat) : Nat → Int32 → Nat
  | 0, _ => 0
  | k + 1, L => if L = 0 then 0 else 1 + pcsF W n k (L &&& (clo W n L (L &&& (-L)) ^^^ (-1 : Int32)))
def pcs (W n : Nat) (L : Int32) : Nat := pcsF W n 25 L
theorem clr_sub (x y : Int32) : sub (x &&& (y ^^^ (-1 : Int32))) x := fun v h => by rw [b_and, Bool.and_eq_true] at h; exact h.1
theorem p_pieces (hg : 2 ≤ W ∧ W ≤ 5 ∧ 2 ≤ H ∧ H ≤ 5) {z : St} (h : geoC z W H) {x : Int32} (hx : bl x (W * H)) : f_X4_pieces z x = some (nI (pcs W (W * H) x), z) := by
  unfold f_X4_pieces F_X4_pieces_0
  simp only [oL_s]
  have key := loop_i (fun k i (p : Int32 × Nat) => F_X4_pieces_7 k z p.1 (nI p.2) (nI i) = some (nI (p.2 + pcsF W (W * H) (25 - i) p.1), z)) (fun _ p => bl p.1 (W * H)) 25 ?_ ?_ 100000 0 (x, 0) (Nat.zero_le _) (by omega) hx
  · have k2 : F_X4_pieces_7 100000 z x 0 0 = some (nI (0 + pcsF W (W * H) 25 x), z) := key
    rw [k2, Nat.zero_add]; rfl
  · rintro k ⟨L, c⟩ hL
    show F_X4_pieces_7_b _ z L (nI c) (nI 25) = _
    unfold F_X4_pieces_7_b F_X4_pieces_37
    have q : (25 : Int32) ≤ nI 25 := Int32.le_refl _
    rw [if_pos q]; rfl
  · rintro k i ⟨L, c⟩ hi hL K
    show F_X4_pieces_7_b (F_X4_pieces_7 k) z L (nI c) (nI i) = some (nI (c + pcsF W (W * H) (25 - i) L), z)
    unfold F_X4_pieces_7_b F_X4_pieces_37
    have q : ¬ (25 : Int32) ≤ nI i := nI_ge (b := 25) hi (by omega)
    rw [if_neg q, show 25 - i = (25 - (i + 1)) + 1 by omega]
    show _ = some (nI (c + (if L = 0 then 0 else 1 + pcsF W (W * H) (25 - (i + 1)) (L &&& (clo W (W * H) L (L &&& (-L)) ^^^ (-1 : Int32))))), z)
    by_cases e : L = 0
    · rw [if_pos e, if_pos e, Nat.add_zero]
    · rw [if_neg e, if_neg e, p_firstPiece hg h hL]
      simp only [oC_s, oL_s, nI_1]
      rw [← Nat.add_assoc]
      exact K (_, c + 1) (bl_sub (clr_sub _ _) hL)
theorem piece_R (hg : 2 ≤ W ∧ W ≤ 5 ∧ 2 ≤ H ∧ H ≤ 5) {w : St} (h : geoR w W H) (k4 : St → Int32 → Int32 → Int32 → Option (Int32 × St)) (S L : Int32) (c : Nat) : ∀ j p was fuel, bl p (W * H) → W * H ≤ pc p + j → (was = p → grow W (W * H) S p = p) → F_X12_pieces_17 k4 (fuel + j + 2) w S L (nI c) p was = k4 w S (L &&& (clo W (W * H) S p ^^^ (-1 : Int32))) (nI (c + 1)) := by
  have stop : ∀ fuel p, grow W (W * H) S p = p → F_X12_pieces_17 k4 (fuel + 1) w S L (nI c) p p = k4 w S (L &&& (clo W (W * H) S p ^^^ (-1 : Int32))) (nI (c + 1)) := by
    intro fuel p e
    show F_X12_pieces_17_b k4 _ w S L (nI c) p p = _
    unfold F_X12_pieces_17_b
    rw [if_pos rfl, oL_s, oL_s, nI_1]
    unfold clo
    rw [itg_st e]
  have step : ∀ fuel p was, was ≠ p → F_X12_pieces_17 k4 (fuel + 1) w S L (nI c) p was = F_X12_pieces_17 k4 fuel w S L (nI c) (grow W (W * H) S p) p := by
    intro fuel p was e
    show F_X12_pieces_17_b k4 _ w S L (nI c) p was = _
    unfold F_X12_pieces_17_b
    rw [if_neg e, p_around h]
    simp only [oC_s, oL_s]
    rfl
  intro j
  induction j with
  | zero =>
    intro p was fuel hp hn hw
    have e : grow W (W * H) S p = p := itg_fix hg 0 p hp hn
    by_cases q : was = p
    · subst q; exact stop _ _ e
    · rw [step _ _ _ q, e]; exact stop _ _ e
  | succ j ih =>
    intro p was fuel hp hn hw
    by_cases q : was = p
    · subst q; exact stop _ _ (hw rfl)
    · rw [show fuel + (j + 1) + 2 = (fuel + j + 2) + 1 by omega, step _ _ _ q]
      by_cases e : grow W (W * H) S p = p
      · rw [e]; exact stop _ _ e
      · rw [ih (grow W (W * H) S p) p fuel (grow_bl hg hp) (by have := grow_ne hg e; omega) (fun r => absurd r.symm e), clo_gr hg hp]
theorem pieces_R (hg : 2 ≤ W ∧ W ≤ 5 ∧ 2 ≤ H ∧ H ≤ 5) {w : St} (h : geoR w W H) {S : Int32} (hS : bl S (W * H)) : ∀ j L c fuel, pc L ≤ j → sub L S → closed W (W * H) S L → F_X12_pieces_4 (fuel + j + 1) w S L (nI c) = some (nI (c + pcsF W (W * H) j L), w) := by
  have done : ∀ fuel c, F_X12_pieces_4 (fuel + 1) w S 0 (nI c) = some (nI c, w) := by
    intro fuel c
    show F_X12_pieces_4_b _ w S 0 (nI c) = _
    unfold F_X12_pieces_4_b
    rw [if_pos rfl]
  intro j
  induction j with
  | zero =>
    intro L c fuel hp hL hc
    have e : L = 0 := by
      rcases Classical.em (L = 0) with q | q
      · exact q
      · obtain ⟨v, hv, h1, h2⟩ := low_ex q
        have := pc_less (x := 0) (y := L) (fun v hv => by rw [b_0] at hv; cases hv) hv h1 (b_0 v)
        omega
    subst e
    exact done _ _
  | succ j ih =>
    intro L c fuel hp hL hc
    show F_X12_pieces_4_b (F_X12_pieces_4 (fuel + j + 1)) w S L (nI c) = some (nI (c + (if L = 0 then 0 else 1 + pcsF W (W * H) j (L &&& (clo W (W * H) L (L &&& (-L)) ^^^ (-1 : Int32))))), w)
    unfold F_X12_pieces_4_b
    by_cases e : L = 0
    · rw [if_pos e, if_pos e, Nat.add_zero]
    · rw [if_neg e, if_neg e, oL_s, oL_s]
      have hbl : bl (L &&& (-L)) (W * H) := bl_sub (low_sub L) (bl_sub hL hS)
      have hs := sz25 hg
      obtain ⟨v, hv, h1, h2⟩ := low_ex e
      have ne : (0 : Int32) ≠ L &&& (-L) := by
        intro q
        rw [← q, b_0] at h2; cases h2
      have := piece_R hg h (F_X12_pieces_4 (fuel + j + 1)) S L c (W * H) (L &&& (-L)) 0 (100000 - W * H - 2) hbl (by omega) (fun q => absurd q ne)
      rw [show 100000 - W * H - 2 + W * H + 2 = 100000 by omega] at this
      have cl := itg_cl hg hL hc 25 (L &&& (-L)) (low_sub L)
      have e2 : clo W (W * H) S (L &&& (-L)) = clo W (W * H) L (L &&& (-L)) := cl.1
      rw [this, e2, ← Nat.add_assoc]
      have hC : sub (clo W (W * H) L (L &&& (-L))) L := cl.2
      have fx : grow W (W * H) L (clo W (W * H) L (L &&& (-L))) = clo W (W * H) L (L &&& (-L)) := clo_st hg hbl
      have up : bt (clo W (W * H) L (L &&& (-L))) v = true := itg_sup W (W * H) L 25 _ v h2
      generalize clo W (W * H) L (L &&& (-L)) = C at *
      refine ih _ (c + 1) fuel ?_ (fun u hu => hL u (clr_sub _ _ u hu)) ?_
      · have := pc_less (clr_sub L C) hv h1 (by rw [b_and, b_not _ hv, up]; simp)
        omega
      · intro u u' hu hu' ha
        have hL' : bt L u' = true := hc u u' (clr_sub _ _ u hu) hu' ha
        have l1 := bl_lt (bl_sub hL hS) (clr_sub _ _ u hu)
        have l2 := bl_lt (bl_sub hL hS) hL'
        rw [b_and, hL', b_not _ (by omega), Bool.true_and, Bool.not_eq_true']
        cases hb : bt C u' with
        | false => rfl
        | true =>
          exfalso
          have : bt (grow W (W * H) L C) u = true := by
            unfold grow
            rw [b_or, b_and, Bool.or_eq_true, Bool.and_eq_true]
            refine Or.inr ⟨(bt_arnd hg u).mpr ⟨u', l2, hb, ?_⟩, clr_sub _ _ u hu⟩
            rw [k_sym W (by omega) (by omega) (W * H) (by omega) u' l2 u l1]
            exact ha
          rw [fx] at this
          rw [b_and, b_not _ (by omega), this, Bool.not_true, Bool.and_false] at hu
          cases hu
theorem p_piecesR (hg : 2 ≤ W ∧ W ≤ 5 ∧ 2 ≤ H ∧ H ≤ 5) {w : St} (h : geoR w W H) {x : Int32} (hx : bl x (W * H)) : f_X12_pieces w x = some (nI (pcs W (W * H) x), w) := by
  have hs := sz25 hg
  unfold f_X12_pieces F_X12_pieces_0
  simp only [oL_s]
  have := pieces_R hg h hx 25 x 0 99974 (Nat.le_trans (pc_bl hx) (by omega)) (fun _ q => q) (fun u v _ q _ => q)
  rw [Nat.zero_add] at this
  exact this
end PCS
