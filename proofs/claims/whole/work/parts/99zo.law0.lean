/-! LAW: what its walk stands on -/
/-- the machine and the script -/
def LC (p : Program) (s : State) (m : MethodId) (args : Array Value) (c : Code) (D : va_G) (A : Nat → Prop) (N : Nm) (b L : Nat) (xs : Nat → Int32) : Prop := Cx p room_1 s m args c D A cL_law 7 RL room_1 N ∧ va_X b L xs s s.heap ∧ b < s.heap.size ∧ ¬ A b
def lvL (b ax am qo i : Nat) : List (Nat × Value) := [(0, .ref b), (1, .ref ax), (2, .ref am), (3, .ref qo), (4, .int (nI i))]
theorem meti_N {l : Launch} {y : MethodName} {Ts : List Cond} {rm : Room} {D : va_G} {N N1 : Nm} {av : List Value} {w0 w1 : va_W} {r : Int32} (h : N1.2.2 = N.2.2) (hM : Meti l y Ts rm D N1 av w0 r w1) : Meti l y Ts rm D N av w0 r w1 := by
  unfold Meti tysG at hM ⊢
  simp only [envOK_N h, h] at hM
  exact hM
section LAW0
variable {p : Program} {l : Launch} {e : Env} {R : Room} {s : State} {m : MethodId} {args : Array Value} {below : List Frame} {meth : Method} {c : Code} {Q : State → Prop} {D : va_G} {A : Nat → Prop} {cc : ByteArray} {nL nc ns : Nat} {own : String} {rm : Room} {N : Nm} {ws : va_W} {pc : Nat} {lv lv' : List (Nat × Value)} {rest : List Value}
theorem bw_rot1 {a b d : va_W} (K : Bw p l e R s m args below meth c Q D A nL nc ns (b ++ (d ++ a)) pc lv rest) : Bw p l e R s m args below meth c Q D A nL nc ns (a ++ (b ++ d)) pc lv rest := bw_swap (by rw [List.append_assoc]; exact K)
theorem bw_rot2 {a b d : va_W} (K : Bw p l e R s m args below meth c Q D A nL nc ns (a ++ (b ++ d)) pc lv rest) : Bw p l e R s m args below meth c Q D A nL nc ns (b ++ (d ++ a)) pc lv rest := by rw [← List.append_assoc]; exact bw_swap K
/-- a method is called whose cells stand in front -/
theorem bw_frontVi (C : Cx p rm s m args c D A cc nL own rm N) {y : MethodName} {bytes : ByteArray} {maxL index n : Nat} {ret : Option FieldType} {rmc : Room} {As st : List Value} {r : Int32} {wc wr w1 : va_W} {Cn : String} {ci b q0 : Nat} {q : vw_C} {fs : List Value} {N1 : Nm} (hN : N1.2.2 = N.2.2) (hM0 : Meti l y (Cond.code y bytes maxL ret :: LW) rmc D N1 (.ref b :: As) wc r w1) (h1 : Cond.methodLink own index y ∈ LW) (h2 : Cond.instanceMethod y ∈ LW) (h3 : Cond.selects Cn y y ∈ LW) (h4 : Cond.initialized Cn ∈ LW) (h5 : Cond.code y bytes maxL ret ∈ LW) (hrc : rmc.cells = 0) (hrs : rmc.slots = 0) (hd : y.cls = Cn ∧ y.cls ≠ "java/lang/invoke/MethodHandle" ∧ y.cls ≠ "java/lang/invoke/VarHandle" ∧ (parseMethodDescriptor y.desc).map (fun d => d.parameters.length) = some n) (hR : rmc.frames + 1 ≤ rm.frames ∧ 8 + (maxL + 11) + rmc.locals ≤ rm.locals) (hci : vwCl[ci]? = some q) (hq : q.1 = Cn) (he : wc[q0]? = some (b, .inr (ci, fs))) (hn : As.length = n) (hstk : st = As.reverse ++ .ref b :: rest) (hcat : (rest.map fun v => v.category).sum ≤ 8) (hcells : nc ≤ rm.cells) (hslots : ns ≤ rm.slots) (hdg : decode cc pc = .ok (.invokevirtual index, 3)) (K : Bw p l e rm s m args below meth c Q D A nL nc ns (w1 ++ wr) (pc + 3) lv (.int r :: rest)) : Bw p l e rm s m args below meth c Q D A nL nc ns (wc ++ wr) pc lv st := by
  subst hstk
  have hM := meti_N hN hM0
  intro H locs ls hP hD hS hv
  obtain ⟨hx, hb, hml, hown, hts, hK, -, hA, hnw⟩ := id C
  have hPc : va_P D vwCl wc H := fun k q hq => hP k q (by rw [List.getElem?_append_left (List.getElem?_eq_some_iff.mp hq).1]; exact hq)
  have hDc : va_D A wc := ⟨fun i j p' q' hi hj e => hD.1 i j p' q' (by rw [List.getElem?_append_left (List.getElem?_eq_some_iff.mp hi).1]; exact hi) (by rw [List.getElem?_append_left (List.getElem?_eq_some_iff.mp hj).1]; exact hj) e, fun k q hq => hD.2 k q (by rw [List.getElem?_append_left (List.getElem?_eq_some_iff.mp hq).1]; exact hq)⟩
  have hF : ∀ q, va_A wc H.size q → A q := fun q hq => by
    rcases hq with ⟨k, e, hq⟩ | hq
    · exact hDc.2 k (q, e) hq
    · exact hA q (Nat.le_trans hS.1 hq)
  refine va_calli (va_runV (As := As) (rest := rest) ⟨hx, hb, hml, hown, hts⟩ (hM H.size) (cwV n hts (gU_app (gU_four h1 h2 h3 h4) (gU_code h5)) rfl hrc hrs hd hR) ⟨fun a U g mk q => by obtain ⟨q0, q1, qP, qK, qD, qN⟩ := q; exact ⟨q0, q1, qP, va_K.moved (u := U) (U := U.calling g mk a) (Vm.Alike.refl U.vm) qK, qD, qN.frame⟩, hq ▸ va_recv hK hPc hci he, fun U hU hW => ⟨rfl, by rw [hU], by rw [hU]; exact hPc, va_K.moved hW.alike hK, hDc.weaken (fun _ _ _ _ => trivial), hnw.call hS hF hU hW⟩⟩ rfl hn hv.1 rfl (lv_room hcat) hdg ⟨hcells, hslots⟩) hS (fun q _ h => hF q h) hF (fun r' u t H1 locs1 ht hvm hw1 hB hz1 hk1 hS1 => ?_)
  obtain ⟨hP1, hD1⟩ := hB
  rw [ht] at hP1
  obtain ⟨hP2, hD2⟩ := join_front hP hD hk1 hF hP1 hD1
  rw [hw1]
  exact K H1 locs1 ls hP2 hD2 hS1 hv
end LAW0
section LAW1
variable {p : Program} {l : Launch} {e : Env} {s : State} {m : MethodId} {args : Array Value} {below : List Frame} {meth : Method} {c : Code} {Q : State → Prop} {D : va_G} {A : Nat → Prop} {nc ns : Nat} {N : Nm} {ws : va_W} {pc : Nat} {rest : List Value} {b L : Nat} {xs : Nat → Int32} {ax am qo i : Nat}
/-- script[i + k] -/
theorem bw_arg (C : LC p s m args c D A N b L xs) (hL : L ≤ 3072) {k : Nat} (hk : i + k < L) (hk5 : k < 6) (d0 : decode cL_law pc = .ok (.aload_n 0, 1)) (d1 : decode cL_law (pc + 1) = .ok (.iload 4, 2)) (d3 : decode cL_law (pc + 3) = .ok (.iconst (k : Int), 1)) (d4 : decode cL_law (pc + 4) = .ok (.iadd, 1)) (d5 : decode cL_law (pc + 5) = .ok (.iaload, 1)) (K : Bw p l e room_1 s m args below meth c Q D A 7 nc ns ws (pc + 6) (lvL b ax am qo i) (.int (xs (i + k)) :: rest)) : Bw p l e room_1 s m args below meth c Q D A 7 nc ns ws pc (lvL b ax am qo i) rest := by
  refine bw_aload_n C.1 0 d0 rfl ?_
  refine bw_iload C.1 4 d1 rfl ?_
  refine bw_iconst (v := nI k) C.1 d3 (by rcases (show k = 0 ∨ k = 1 ∨ k = 2 ∨ k = 3 ∨ k = 4 ∨ k = 5 by omega) with e | e | e | e | e | e <;> subst e <;> decide) ?_
  refine bw_iadd C.1 d4 ?_
  rw [nI_add]
  intro H locs ls hP hD hS hv
  refine va_sld C.1.1 C.1.2.1 C.2.1 C.2.2.1 C.2.2.2 hS (vp_in_nI hk (by omega)) d5 ?_
  rw [nI_clamp (by omega)]
  exact K H locs ls hP hD hS hv
theorem bw_arg0 (C : LC p s m args c D A N b L xs) (hL : L ≤ 3072) (hk : i < L) (d0 : decode cL_law pc = .ok (.aload_n 0, 1)) (d1 : decode cL_law (pc + 1) = .ok (.iload 4, 2)) (d3 : decode cL_law (pc + 3) = .ok (.iaload, 1)) (K : Bw p l e room_1 s m args below meth c Q D A 7 nc ns ws (pc + 4) (lvL b ax am qo i) (.int (xs i) :: rest)) : Bw p l e room_1 s m args below meth c Q D A 7 nc ns ws pc (lvL b ax am qo i) rest := by
  refine bw_aload_n C.1 0 d0 rfl ?_
  refine bw_iload C.1 4 d1 rfl ?_
  intro H locs ls hP hD hS hv
  refine va_sld C.1.1 C.1.2.1 C.2.1 C.2.2.1 C.2.2.2 hS (vp_in_nI hk (by omega)) d3 ?_
  rw [nI_clamp (by omega)]
  exact K H locs ls hP hD hS hv
theorem bw_slen (C : LC p s m args c D A N b L xs) {lv : List (Nat × Value)} (hdg : decode cL_law pc = .ok (.arraylength, 1)) (K : Bw p l e room_1 s m args below meth c Q D A 7 nc ns ws (pc + 1) lv (.int (Int32.ofNat L) :: rest)) : Bw p l e room_1 s m args below meth c Q D A 7 nc ns ws pc lv (.ref b :: rest) := fun H locs ls hP hD hS hv => va_slen C.1.1 C.1.2.1 C.2.1 C.2.2.1 C.2.2.2 hS hdg (K H locs ls hP hD hS hv)
def bz (x : Int32) : Int32 := if x = 0 then 0 else 1
theorem bz_01 (x : Int32) : bz x = 0 ∨ bz x = 1 := by
  unfold bz
  split
  · exact Or.inl rfl
  · exact Or.inr rfl
/-- x != 0 -/
theorem bw_bool (C : LC p s m args c D A N b L xs) {lv : List (Nat × Value)} {x : Int32} {t7 t8 : Nat} (e7 : pc + 7 = t7) (e8 : pc + 8 = t8) (d0 : decode cL_law pc = .ok (.ifCond .eq 7, 3)) (d3 : decode cL_law (pc + 3) = .ok (.iconst 1, 1)) (d4 : decode cL_law (pc + 4) = .ok (.goto 4, 3)) (d7 : decode cL_law t7 = .ok (.iconst 0, 1)) (K : Bw p l e room_1 s m args below meth c Q D A 7 nc ns ws t8 lv (.int (bz x) :: rest)) : Bw p l e room_1 s m args below meth c Q D A 7 nc ns ws pc lv (.int x :: rest) := by
  subst e7 e8
  refine bw_if_eq (tgt := pc + 7) C.1 d0 (by omega) (fun q => ?_) (fun q => ?_)
  · refine bw_iconst (v := 0) C.1 d7 (by decide) ?_
    have e : bz x = 0 := if_pos q
    rw [e] at K
    exact K
  · refine bw_iconst (v := 1) C.1 d3 (by decide) ?_
    refine bw_goto (tgt := pc + 8) C.1 d4 (by omega) ?_
    have e : bz x = 1 := if_neg q
    rw [e] at K
    exact K
end LAW1
