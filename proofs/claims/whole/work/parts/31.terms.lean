section TM
variable {p : Program} {l : Launch} {e : Env} {R : Room} {s : State} {m : MethodId} {args : Array Value} {below : List Frame} {meth : Method} {c : Code} {Q : State → Prop} {D : va_G} {A : Nat → Prop} {nL : Nat} {pc : Nat} {lv : List (Nat × Value)} {st : List Value}
theorem aw_perm {w1 w2 : va_W} (π : Nat → Nat) (hπ : ∀ i j, π i = π j → i = j) (h : ∀ (k : Nat) (q : Nat × va_E), w2[k]? = some q → w1[π k]? = some q) (K : Aw p l e R s m args below meth c Q D A nL w2 pc lv st) : Aw p l e R s m args below meth c Q D A nL w1 pc lv st :=
  fun H locs ls hP hD hS hv => K H locs ls (fun k q hq => hP (π k) q (h k q hq)) ⟨fun i j p q hp hq e => hπ i j (hD.1 _ _ p q (h i p hp) (h j q hq) e), fun k q hq => hD.2 _ q (h k q hq)⟩ hS hv
end TM
/-- the two Terms exchanged: objects, arrays, int fields by number -/
def swO (k : Nat) : Nat := if k = 2 then 3 else if k = 3 then 2 else k
def swA (k : Nat) : Nat := if k = 0 ∨ 7 ≤ k then k else if k ≤ 3 then k + 3 else k - 3
def swF (k : Nat) : Nat := if 13 ≤ k ∧ k < 17 then k + 4 else if 17 ≤ k ∧ k < 21 then k - 4 else k
def swN (N : Nm) : Nm := (fun k => N.1 (swO k), fun k => N.2.1 (swA k), N.2.2)
def swI (k : Int32) : Int32 := if k = 1 then 2 else if k = 0 then 0 else 1
def swS (z : St) : St := (fun k => if k = 12 then swI (z.1 12) else z.1 (swF k), fun k => z.2.1 (swA k), z.2.2)
def swB (b : Bool) (N : Nm) : Nm := if b = true then swN N else N
def swP (k : Nat) : Nat := if k < 12 then swO k else 12 + swA (k - 12)
theorem swA_two (k : Nat) : swA (swA k) = k := by
  by_cases h : k = 0 ∨ 7 ≤ k
  · have e : swA k = k := if_pos h
    rw [e, e]
  · by_cases g : k ≤ 3
    · have e : swA k = k + 3 := by unfold swA; rw [if_neg h, if_pos g]
      rw [e]; unfold swA; rw [if_neg (by omega), if_neg (by omega)]; omega
    · have e : swA k = k - 3 := by unfold swA; rw [if_neg h, if_neg g]
      rw [e]; unfold swA; rw [if_neg (by omega), if_pos (by omega)]; omega
theorem swO_two (k : Nat) : swO (swO k) = k := by unfold swO; split <;> split <;> (try split) <;> (try split) <;> omega
theorem swO_lt {k : Nat} (h : k < 12) : swO k < 12 := by unfold swO; split <;> (try split) <;> omega
theorem swP_two (k : Nat) : swP (swP k) = k := by
  by_cases h : k < 12
  · have e : swP k = swO k := if_pos h
    rw [e, show swP (swO k) = swO (swO k) from if_pos (swO_lt h), swO_two]
  · have e : swP k = 12 + swA (k - 12) := if_neg h
    rw [e, show swP (12 + swA (k - 12)) = 12 + swA (12 + swA (k - 12) - 12) from if_neg (by omega), Nat.add_sub_cancel_left, swA_two]
    omega
theorem swP_inj (i j : Nat) (h : swP i = swP j) : i = j := by rw [← swP_two i, h, swP_two]
theorem swA_big {k : Nat} (h : 7 ≤ k) : swA k = k := if_pos (Or.inr h)
theorem swA_lt {k : Nat} (h : k < 54) : swA k < 54 := by unfold swA; split <;> (try split) <;> omega
theorem sw_kd : ∀ j, j < 54 → kdC (swA j) = kdC j ∧ lnC (swA j) = lnC j ∧ (kdC j = 1 → swA j = j) ∧ (kdC j = 0 ∨ kdC j = 1 ∨ kdC j = 2 ∨ (swA j = j ∧ 7 ≤ bsC j)) := by decide
theorem sw_ar (N : Nm) (z : St) {j : Nat} (hj : j < 54) : arW kdC lnC bsC (swN N) (swS z) j = arW kdC lnC bsC N z (swA j) := by
  obtain ⟨h1, h2, h3, h4⟩ := sw_kd j hj
  unfold arW
  rw [h1, h2]
  by_cases a0 : kdC j = 0
  · rw [if_pos a0, if_pos a0]; rfl
  · rw [if_neg a0, if_neg a0]
    by_cases a1 : kdC j = 1
    · rw [if_pos a1, if_pos a1, h3 a1]; rfl
    · rw [if_neg a1, if_neg a1]
      by_cases a2 : kdC j = 2
      · rw [if_pos a2, if_pos a2]; rfl
      · rw [if_neg a2, if_neg a2]
        rcases h4 with h | h | h | ⟨h5, h6⟩
        · exact absurd h a0
        · exact absurd h a1
        · exact absurd h a2
        · rw [h5]
          have e : (fun i => some ((swN N).2.1 (bsC j + i))) = (fun i => some (N.2.1 (bsC j + i))) := by
            funext i
            show some (N.2.1 (swA (bsC j + i))) = _
            rw [swA_big (by omega)]
          rw [e]; rfl
theorem sw_into (N : Nm) (z : St) : vInto (swN N) ((swS z).1 12) = vInto N (z.1 12) := by
  show vInto (swN N) (swI (z.1 12)) = vInto N (z.1 12)
  unfold swI vInto
  by_cases a : z.1 12 = 1
  · rw [a]; rfl
  · by_cases b : z.1 12 = 0
    · rw [b]; rfl
    · rw [if_neg a, if_neg b, if_neg b, if_neg a]; rfl
/-- the class's world with terms and spare exchanged in the object alone -/
def wCs (N : Nm) (z : St) : va_W := wG ((N.1 0, .inr (10, [.int (z.1 0), .ref (N.1 1), .ref (N.1 3), .ref (N.1 2), .ref (N.1 4), .ref (N.1 5), .ref (N.1 6), .ref (N.1 7), .ref (N.1 8), .ref (N.1 9), .ref (N.1 10), .ref (N.1 11)])) :: (obC N z.1).tail) 54 kdC lnC bsC N z
set_option maxRecDepth 100000 in
theorem sw_get (N : Nm) (z : St) : ∀ (k : Nat) (q : Nat × va_E), (wC (swN N) (swS z))[k]? = some q → (wCs N z)[swP k]? = some q := by
  intro k q h
  by_cases hk : k < 12
  · match k, hk, h with
    | 0, _, h => exact h
    | 1, _, h => exact Eq.trans (congrArg (fun v => some ((N.1 1, Sum.inr (6, [.int (z.1 1), .int (z.1 2), .int (z.1 3), .ref (N.2.1 0), .int (z.1 4), .int (z.1 5), .int (z.1 6), .int (z.1 7), .int (z.1 8), .int (z.1 9), .int (z.1 10), .int (z.1 11), v])) : Nat × va_E)) (sw_into N z).symm) h
    | 2, _, h => exact h
    | 3, _, h => exact h
    | 4, _, h => exact h
    | 5, _, h => exact h
    | 6, _, h => exact h
    | 7, _, h => exact h
    | 8, _, h => exact h
    | 9, _, h => exact h
    | 10, _, h => exact h
    | 11, _, h => exact h
    | k + 12, hk, _ => exact absurd hk (by omega)
  · obtain ⟨j, rfl⟩ : ∃ j, k = 12 + j := ⟨k - 12, by omega⟩
    have e : swP (12 + j) = 12 + swA j := by
      rw [show swP (12 + j) = 12 + swA (12 + j - 12) from if_neg hk, Nat.add_sub_cancel_left]
    rw [e]
    by_cases hj : j < 54
    · have g1 : (wC (swN N) (swS z))[12 + j]? = some ((swN N).2.1 j, arW kdC lnC bsC (swN N) (swS z) j) := wG_get (ob := obC (swN N) (swS z).1) hj
      have g2 : (wCs N z)[12 + swA j]? = some (N.2.1 (swA j), arW kdC lnC bsC N z (swA j)) := wG_get (ob := (N.1 0, .inr (10, [.int (z.1 0), .ref (N.1 1), .ref (N.1 3), .ref (N.1 2), .ref (N.1 4), .ref (N.1 5), .ref (N.1 6), .ref (N.1 7), .ref (N.1 8), .ref (N.1 9), .ref (N.1 10), .ref (N.1 11)])) :: (obC N z.1).tail) (swA_lt hj)
      rw [g2, ← sw_ar N z hj]
      exact g1.symm.trans h
    · exfalso
      rw [List.getElem?_eq_none (by show (wG (obC (swN N) (swS z).1) 54 kdC lnC bsC (swN N) (swS z)).length ≤ 12 + j; unfold wG; rw [List.length_append, List.length_map, List.length_range]; show 12 + 54 ≤ 12 + j; omega)] at h
      cases h
def rm_X11_terms : Room := { frames := 343, cells := 0, slots := 0, locals := 33068 }
/-- AwardLine.terms: the answer, the state, and whether the two Terms were exchanged -/
def f_X11_terms (s0 : St) (x1 : Int32) : Option (Int32 × St × Bool) :=
  if x1 < 0 then some ((-2 : Int32), s0, false)
  else if x1 ≤ s0.1 1 then oC (f_X6_read s0 x1) fun w => if w.1 = (-1 : Int32) then some ((-1 : Int32), w.2, false) else some (w.1, swS w.2, true)
  else some ((-2 : Int32), s0, false)
set_option maxHeartbeats 4000000 in
set_option maxRecDepth 100000 in
theorem c_X11_terms (l : Launch) (D : va_G) (N : Nm) (s0 z1 : St) (x1 : Int32) (r : Int32) (b : Bool) (h : f_X11_terms s0 x1 = some (r, z1, b)) : Meti l yX11_terms (tsU yX11_terms cX11_terms 4 (some .int)) rm_X11_terms D N [.ref (N.1 0), .int x1] (wC N s0) r (wC (swB b N) z1) :=
  met_i (cc := cX11_terms) (nL := 4) (own := RX11) (by decide) rfl (Nat.le_of_ble_eq_true rfl) (fun p e s m args below meth c Q A C hE => by
    show Aw p l e rm_X11_terms s m args below meth c Q D A 4 (wC N s0) 0 [(0, .ref (N.1 0)), (1, .int x1)] []
    unfold f_X11_terms at h
    refine aw_iload_n C 1 dX11_terms_0 rfl ?_
    refine aw_if_lt (tgt := 15) C dX11_terms_1 (by decide) (fun q => ?_) (fun q => ?_)
    · have h := bq_t q h
      refine aw_bipush (v := -2) C dX11_terms_15 (by decide) ?_
      cases h
      exact aw_ret hE dX11_terms_17
    · have h := bq_f q h
      refine aw_iload_n C 1 dX11_terms_4 rfl ?_
      refine aw_aload_n C 0 dX11_terms_5 rfl ?_
      refine cg_aw_reader C lw_2_2 dX11_terms_6 ?_
      refine cg_rd_held C lw_9_21 dX11_terms_9 ?_
      refine aw_icmp_le (tgt := 18) C dX11_terms_12 (by decide) (fun q => ?_) (fun q => ?_)
      · have h := bq_t q h
        refine aw_aload_n C 0 dX11_terms_18 rfl ?_
        refine cg_aw_reader C lw_2_2 dX11_terms_19 ?_
        refine aw_iload_n C 1 dX11_terms_22 rfl ?_
        refine aw_aload_n C 0 dX11_terms_23 rfl ?_
        refine cg_aw_spare C lw_2_7 dX11_terms_24 ?_
        obtain ⟨⟨v, s1⟩, cw, h⟩ := oC_e h
        refine aw_callVi (n := 2) (As := [.int x1, .ref (N.1 3)]) (rest := []) (q0 := 1) C (c_X6_read l D N s0 s1 x1 v cw) lw_10_17 lw_10_18 lw_10_19 lw_2_1 lw_10_20 rfl rfl (by decide +kernel) ⟨Nat.le_of_ble_eq_true rfl, Nat.le_of_ble_eq_true rfl⟩ rfl rfl rfl rfl rfl (Nat.le_of_ble_eq_true rfl) dX11_terms_27 ?_
        refine aw_istore_n (lv' := [(0, .ref (N.1 0)), (1, .int x1), (2, .int v)]) C [1, 2, 0] dX11_terms_30 rfl (by decide) rfl ?_
        refine aw_iload_n C 2 dX11_terms_31 rfl ?_
        refine aw_iconst (v := -1) C dX11_terms_32 (by decide) ?_
        refine aw_icmp_ne (tgt := 38) C dX11_terms_33 (by decide) (fun q => ?_) (fun q => ?_)
        · have h := bq_f q h
          cases h
          refine aw_aload_n C 0 dX11_terms_38 rfl ?_
          refine cg_aw_terms C lw_2_6 dX11_terms_39 ?_
          refine aw_astore_n (lv' := [(0, .ref (N.1 0)), (1, .int x1), (2, .int v), (3, .ref (N.1 2))]) C [1, 2, 3, 0] dX11_terms_42 rfl (by decide) rfl ?_
          refine aw_aload_n C 0 dX11_terms_43 rfl ?_
          refine aw_aload_n C 0 dX11_terms_44 rfl ?_
          refine cg_aw_spare C lw_2_7 dX11_terms_45 ?_
          refine aw_put (Cn := RX11) (T := TX11) (nF := 12) (ci := 10) (ty := .object "AwardLine$Terms") C 0 2 tyX11 tyX11_ok nmX11 inLW_X11 rfl rfl (by decide) lw_2_6 rfl rfl rfl rfl rfl (Nat.le_of_ble_eq_true rfl) dX11_terms_48 ?_
          refine aw_aload_n C 0 dX11_terms_51 rfl ?_
          refine aw_aload_n C 3 dX11_terms_52 rfl ?_
          refine aw_put (Cn := RX11) (T := TX11) (nF := 12) (ci := 10) (ty := .object "AwardLine$Terms") C 0 3 tyX11 tyX11_ok nmX11 inLW_X11 rfl rfl (by decide) lw_2_7 rfl rfl rfl rfl rfl (Nat.le_of_ble_eq_true rfl) dX11_terms_53 ?_
          show Aw p l e rm_X11_terms s m args below meth c Q D A 4 (wCs N s1) 56 _ _
          refine aw_perm swP swP_inj (sw_get N s1) ?_
          refine aw_iload_n C 2 dX11_terms_56 rfl ?_
          exact aw_ret hE dX11_terms_57
        · have h := bq_t q h
          refine aw_iconst (v := -1) C dX11_terms_36 (by decide) ?_
          cases h
          exact aw_ret hE dX11_terms_37
      · have h := bq_f q h
        refine aw_bipush (v := -2) C dX11_terms_15 (by decide) ?_
        cases h
        exact aw_ret hE dX11_terms_17)
