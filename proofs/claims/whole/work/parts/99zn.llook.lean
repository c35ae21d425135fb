theorem dL_look_0 : decode cL_look 0 = .ok (.aload_n 3, 1) := by decide +kernel
theorem dL_look_1 : decode cL_look 1 = .ok (.iconst 0, 1) := by decide +kernel
theorem dL_look_2 : decode cL_look 2 = .ok (.aload_n 0, 1) := by decide +kernel
theorem dL_look_3 : decode cL_look 3 = .ok (.iload_n 1, 1) := by decide +kernel
theorem dL_look_4 : decode cL_look 4 = .ok (.iload_n 2, 1) := by decide +kernel
theorem dL_look_5 : decode cL_look 5 = .ok (.invokevirtual 7, 3) := by decide +kernel
theorem dL_look_8 : decode cL_look 8 = .ok (.i2l, 1) := by decide +kernel
theorem dL_look_9 : decode cL_look 9 = .ok (.lastore, 1) := by decide +kernel
theorem dL_look_10 : decode cL_look 10 = .ok (.goto 11, 3) := by decide +kernel
theorem dL_look_13 : decode cL_look 13 = .ok (.astore 4, 2) := by decide +kernel
theorem dL_look_15 : decode cL_look 15 = .ok (.iconst 1, 1) := by decide +kernel
theorem dL_look_16 : decode cL_look 16 = .ok (.ireturn, 1) := by decide +kernel
theorem dL_look_17 : decode cL_look 17 = .ok (.astore 4, 2) := by decide +kernel
theorem dL_look_19 : decode cL_look 19 = .ok (.iconst 2, 1) := by decide +kernel
theorem dL_look_20 : decode cL_look 20 = .ok (.ireturn, 1) := by decide +kernel
theorem dL_look_21 : decode cL_look 21 = .ok (.iconst 0, 1) := by decide +kernel
theorem dL_look_22 : decode cL_look 22 = .ok (.ireturn, 1) := by decide +kernel
/-! LOOK: the law's own look, which catches what AwardLine.look throws -/
def rm_L_look : Room := { frames := 40, cells := 1, slots := 6, locals := 2000 }
/-- the law's row of one long -/
def oCell (N : Nm) (qo : Nat) (fo : Nat → Int64) : va_W := [(qo, .inl (N.2.2.2.1, 1, .inr (.inl fo)))]
def lkS (z : St) (hb a b r : Int32) (fo' : Nat → Int64) : Prop := (hb = 0 ∧ r = 1) ∨ (hb = 1 ∧ ¬ b = 0 ∧ ¬ b = 1 ∧ r = 2) ∨ (r = 0 ∧ ∃ v, lkR z hb a b v ∧ fo' 0 = v.toInt64)
def hhL : List (Nat × Nat × Nat × Nat) := [(0, 10, 13, 13), (0, 10, 17, 15)]
theorem gL_code : GoodIn (LW ++ LV) ([Cond.methodLink RL 7 yX11_look, Cond.instanceMethod yX11_look, Cond.selects RX11 yX11_look yX11_look, Cond.initialized RX11] ++ (Cond.code yX11_look cX11_look 3 (some .int) :: (LW ++ LV))) := by
  have hL : ∀ w ∈ LW, w ∈ LW ++ LV ∧ ((w.onTables && w.keeps) = true ∨ ∃ ty, w = .arrayClass ty) := fun w h => ⟨List.mem_append_left _ h, LW_good w h⟩
  intro w hw
  rcases List.mem_append.mp hw with h | h
  · simp only [List.mem_cons, List.not_mem_nil, or_false] at h
    rcases h with rfl | rfl | rfl | rfl
    · exact hL _ lw_36_19
    · exact hL _ lw_36_20
    · exact hL _ lw_36_21
    · exact hL _ lw_1_2
  · rcases List.mem_cons.mp h with rfl | h
    · exact hL _ lw_36_22
    · rcases List.mem_append.mp h with h | h
      · exact hL w h
      · exact ⟨List.mem_append_right _ h, LV_good w h⟩
set_option maxHeartbeats 4000000 in
set_option maxRecDepth 100000 in
theorem n_L_look (l : Launch) (hl : l.stackTraces = false) (D : va_G) (N : Nm) (z : St) (a b hb : Int32) (hh : f_X1_has z a = some (hb, z)) (h01 : hb = 0 ∨ hb = 1) (hia : hb = 1 → vp_in a 12) (sa sb qo : Nat) (fo : Nat → Int64) (sz : Nat) : vx_Met l yL_look (Cond.codeWith yL_look cL_look 5 (some .int) hhL :: (LW ++ LV)) rm_L_look (va_Pc [.ref (N.1 0), .int a, .int b, .ref qo] (fun U => U.heap.size = sz ∧ va_P D vwCl (oCell N qo fo ++ wC N z) U.heap ∧ va_K D vwCl (tysG N) U ∧ va_D (fun _ => True) (oCell N qo fo ++ wC N z) ∧ envOK N (va_A (oCell N qo fo ++ wC N z) sz) U ∧ lkOK sa sb (va_A (oCell N qo fo ++ wC N z) sz) U)) (va_Qi (fun r (fo' : Nat → Int64) => lkS z hb a b r fo') (fun fo' t => va_P D vwCl (oCell N qo fo' ++ wC N z) t.heap ∧ va_D (va_A (oCell N qo fo ++ wC N z) sz) (oCell N qo fo' ++ wC N z)) (va_A (oCell N qo fo ++ wC N z) sz)) (vx_X (fun (_ : Unit) => False) (fun _ _ _ => True) (fun _ => False)) 1 6 (va_A (oCell N qo fo ++ wC N z) sz) := by
  refine vx_ofWH (cc := cL_look) (maxL := 5) (ret := some .int) (hh := hhL) (by decide) rfl ?_
  intro p e s m args below meth c s₁ B hml hv
  obtain ⟨rfl, hsz, hP, hK, hD0, hnw, hlk⟩ := hv
  have hown : s.vm.findClass RL = some m.cls := findClass_of_methodNamed B.named
  have hlocks := B.notSynchronized
  have hx := B.exec
  have hbb := B.bytes
  have hr := B.returns
  subst hsz
  have hD := hD0.self (sz := s.heap.size)
  have hls := lv_entry [.ref (N.1 0), .int a, .int b, .ref qo] (n := 5) (Nat.le_of_ble_eq_true rfl)
  rw [lg_entry_eq]
  have hts0 := atoms_spec (ws := Cond.codeWith yL_look cL_look 5 (some .int) hhL :: (LW ++ LV)) B.pre
  have hts : ∀ w ∈ LW ++ LV, w.before [Value.ref (N.1 0), .int a, .int b, .ref qo].toArray s = true := fun w h => hts0 w (List.mem_cons_of_mem _ h)
  have htab := vx_table (l := l) (x := yL_look) B (hts0 _ List.mem_cons_self)
  have C : Cx p rm_L_look s m [Value.ref (N.1 0), .int a, .int b, .ref qo].toArray c D (va_A (oCell N qo fo ++ wC N z) s.heap.size) cL_look 5 RL rm_L_look N := ⟨hx, hbb, hml, hown, fun w h => hts w (List.mem_append_left _ h), hK, rfl, fun q h => Or.inr h, hnw⟩
  have hcI : (Cond.castable xI xI).before [Value.ref (N.1 0), .int a, .int b, .ref qo].toArray s = true := va_tabs rfl rfl (hlk.2.2.2.2.1 _ (by decide +kernel))
  have hcN : (Cond.castable xN xN).before [Value.ref (N.1 0), .int a, .int b, .ref qo].toArray s = true := va_tabs rfl rfl (hlk.2.2.2.2.1 _ (by decide +kernel))
  have hnc := hlk.2.2.2.2.2
  generalize hA : va_A (oCell N qo fo ++ wC N z) s.heap.size = A at *
  generalize hQ : vx_MQ below (va_Qi (fun r (fo' : Nat → Int64) => lkS z hb a b r fo') (fun fo' t => va_P D vwCl (oCell N qo fo' ++ wC N z) t.heap ∧ va_D A (oCell N qo fo' ++ wC N z)) A) (vx_X (fun (_ : Unit) => False) (fun _ _ _ => True) (fun _ => False)) [Value.ref (N.1 0), .int a, .int b, .ref qo].toArray s 1 6 A = Q
  have hE : ∀ (r : Int32) (fo' : Nat → Int64) (pc : Nat) (lv : List (Nat × Value)), lkS z hb a b r fo' → decode cL_look pc = .ok (.ireturn, 1) → Bw p l e rm_L_look s m [Value.ref (N.1 0), .int a, .int b, .ref qo].toArray below meth c Q D A 5 1 6 (oCell N qo fo' ++ wC N z) pc lv [.int r] := by
    intro r fo' pc lv hrr hdg H locs ls hP9 hD9 hS9 _
    rw [← hQ]
    exact vx_ret (W.iret (v := r) hx hbb hr (fun t ht hW => ⟨⟨r, fo', rfl, hrr, by rw [ht]; exact hP9, hD9⟩, hS9.F ht⟩) hS9.2.2 hdg)
  have K : Aw p l e rm_L_look s m [Value.ref (N.1 0), .int a, .int b, .ref qo].toArray below meth c Q D A 5 (oCell N qo fo ++ wC N z) 0 [(0, .ref (N.1 0)), (1, .int a), (2, .int b), (3, .ref qo)] [] := by
    refine aw_aload_n C 3 dL_look_0 rfl ?_
    refine aw_iconst (v := 0) C dL_look_1 (by decide) ?_
    refine aw_aload_n C 0 dL_look_2 rfl ?_
    refine aw_iload_n C 1 dL_look_3 rfl ?_
    refine aw_iload_n C 2 dL_look_4 rfl ?_
    intro H locs ls hP9 hD9 hS9 hv9
    have hPs : va_P D vwCl (wC N z ++ oCell N qo fo) H := va_P.swap (a := []) hP9
    have hDs : va_D A (wC N z ++ oCell N qo fo) := va_D.swap (a := []) hD9
    have hPc : va_P D vwCl (wC N z) H := fun k q hq => hPs k q (by rw [List.getElem?_append_left (List.getElem?_eq_some_iff.mp hq).1]; exact hq)
    have hDc : va_D A (wC N z) := ⟨fun i j p' q' hi hj e => hDs.1 i j p' q' (by rw [List.getElem?_append_left (List.getElem?_eq_some_iff.mp hi).1]; exact hi) (by rw [List.getElem?_append_left (List.getElem?_eq_some_iff.mp hj).1]; exact hj) e, fun k q hq => hDs.2 k q (by rw [List.getElem?_append_left (List.getElem?_eq_some_iff.mp hq).1]; exact hq)⟩
    have hF : ∀ q, va_A (wC N z) H.size q → A q := fun q hq => by
      rcases hq with ⟨k, e, hq⟩ | hq
      · exact hDc.2 k (q, e) hq
      · exact C.2.2.2.2.2.2.2.1 q (Nat.le_trans hS9.1 hq)
    refine vx_calli (vx_runV (As := [.int a, .int b]) (rest := [.int 0, .ref qo]) (cc := cL_look) (nL := 5) (Ts := LW ++ LV) (own := RL) (C := RX11) ⟨hx, hbb, hml, hown, hts⟩ (n_X11_look l hl D N z a b hb hh h01 hia sa sb H.size) (cwV 2 hts gL_code rfl rfl rfl (by decide +kernel) ⟨Nat.le_of_ble_eq_true rfl, Nat.le_of_ble_eq_true rfl⟩) ⟨fun a U g mk q => by obtain ⟨q0, q1, qP, qK, qD, qN, qO⟩ := q; exact ⟨q0, q1, qP, va_K.moved (u := U) (U := U.calling g mk a) (Vm.Alike.refl U.vm) qK, qD, qN.frame, qO.frame⟩, va_recv (ci := 10) (q := (RX11, TX11, 12)) (q0 := 0) hK hPc rfl rfl, fun U hU hW => ⟨rfl, by rw [hU], by rw [hU]; exact hPc, va_K.moved hW.alike hK, hDc.weaken (fun _ _ _ _ => trivial), hnw.call hS9 hF hU hW, hlk.call hS9 hF hU hW⟩⟩ rfl rfl hv9.1 rfl (lv_room (Nat.le_of_ble_eq_true rfl)) dL_look_5 ⟨Nat.le_of_ble_eq_true rfl, Nat.le_of_ble_eq_true rfl⟩) hS9 (fun q _ h => hF q h) hF (fun q _ h => hF q h) (fun E ce q9 u t H1 locs1 ht hvm hpx hBX hz1 hk1 hS1 hcell hcv hcl => ?_) (fun r u t H1 locs1 ht hvm hpo hB hz1 hk1 hS1 => ?_)
    · obtain ⟨hEE, hP1, hD1⟩ := hBX
      rw [ht] at hP1
      obtain ⟨hP2, hD2⟩ := join_front hPs hDs hk1 hF hP1 hD1
      have hP3 : va_P D vwCl (oCell N qo fo ++ wC N z) H1 := va_P.swap (a := []) hP2
      have hD3 : va_D A (oCell N qo fo ++ wC N z) := va_D.swap (a := []) hD2
      rcases hEE with ⟨h0, rfl⟩ | ⟨h1, n0, n1, rfl⟩
      · refine vx_catch (own := RL) (name := xI) hown [] _ _ htab (fun z hz => by cases hz) rfl (by decide) (hts _ (List.mem_append_left _ lw_36_17)) hcI hcell hcv hcl ?_
        have K2 : Bw p l e rm_L_look s m [Value.ref (N.1 0), .int a, .int b, .ref qo].toArray below meth c Q D A 5 1 6 (oCell N qo fo ++ wC N z) 13 [(0, .ref (N.1 0)), (1, .int a), (2, .int b), (3, .ref qo)] [.ref q9] := by
          refine bw_astore (lv' := [(0, .ref (N.1 0)), (1, .int a), (2, .int b), (3, .ref qo)]) C [1, 2, 3, 4] dL_look_13 (by decide) rfl ?_
          refine bw_iconst (v := 1) C dL_look_15 (by decide) ?_
          exact hE 1 fo 16 _ (Or.inl ⟨h0, rfl⟩) dL_look_16
        exact K2 H1 locs1 ls hP3 hD3 hS1 hv9
      · refine vx_catch (own := RL) (name := xN) hown [_] _ _ htab (fun z hz => ?_) rfl (by decide) (hts _ (List.mem_append_left _ lw_36_18)) hcN hcell hcv hcl ?_
        · rw [List.mem_singleton.mp hz]
          exact Or.inr ⟨by decide, xI, hts _ (List.mem_append_left _ lw_36_17), hnc⟩
        have K2 : Bw p l e rm_L_look s m [Value.ref (N.1 0), .int a, .int b, .ref qo].toArray below meth c Q D A 5 1 6 (oCell N qo fo ++ wC N z) 17 [(0, .ref (N.1 0)), (1, .int a), (2, .int b), (3, .ref qo)] [.ref q9] := by
          refine bw_astore (lv' := [(0, .ref (N.1 0)), (1, .int a), (2, .int b), (3, .ref qo)]) C [1, 2, 3, 4] dL_look_17 (by decide) rfl ?_
          refine bw_iconst (v := 2) C dL_look_19 (by decide) ?_
          exact hE 2 fo 20 _ (Or.inr (Or.inl ⟨h1, n0, n1, rfl⟩)) dL_look_20
        exact K2 H1 locs1 ls hP3 hD3 hS1 hv9
    · obtain ⟨hP1, hD1⟩ := hB
      rw [ht] at hP1
      obtain ⟨hP2, hD2⟩ := join_front hPs hDs hk1 hF hP1 hD1
      have hP3 : va_P D vwCl (oCell N qo fo ++ wC N z) H1 := va_P.swap (a := []) hP2
      have hD3 : va_D A (oCell N qo fo ++ wC N z) := va_D.swap (a := []) hD2
      have K2 : Bw p l e rm_L_look s m [Value.ref (N.1 0), .int a, .int b, .ref qo].toArray below meth c Q D A 5 1 6 (oCell N qo fo ++ wC N z) 8 [(0, .ref (N.1 0)), (1, .int a), (2, .int b), (3, .ref qo)] [.int r, .int 0, .ref qo] := by
        refine bw_i2l C dL_look_8 ?_
        refine bw_last (f := fo) C 0 1 rfl rfl (by unfold vp_in; decide) dL_look_9 ?_
        refine bw_eq (ws' := oCell N qo (vp_updL fo 0 r.toInt64) ++ wC N z) rfl ?_
        refine bw_goto (tgt := 21) C dL_look_10 (by decide) ?_
        refine bw_iconst (v := 0) C dL_look_21 (by decide) ?_
        exact hE 0 _ 22 _ (Or.inr (Or.inr ⟨rfl, r, hpo, rfl⟩)) dL_look_22
      exact K2 H1 locs1 ls hP3 hD3 hS1 hv9
  exact K s.heap [] _ hP hD va_S.rf hls
