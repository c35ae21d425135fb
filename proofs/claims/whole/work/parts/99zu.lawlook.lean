theorem gS_code : GoodIn (LW ++ LV) (va_wsS RL 90 yL_look (Cond.codeWith yL_look cL_look 5 (some .int) hhL :: (LW ++ LV))) := by
  have hL : ∀ w ∈ LW, w ∈ LW ++ LV ∧ ((w.onTables && w.keeps) = true ∨ ∃ ty, w = .arrayClass ty) := fun w h => ⟨List.mem_append_left _ h, LW_good w h⟩
  intro w hw
  unfold va_wsS at hw
  rcases List.mem_append.mp hw with h | h
  · simp only [List.mem_cons, List.not_mem_nil, or_false] at h
    rcases h with rfl | rfl | rfl
    · exact hL _ lw_36_13
    · exact hL _ lw_36_14
    · exact hL _ lw_36_15
  · rcases List.mem_cons.mp h with rfl | h
    · exact hL _ lw_36_16
    · rcases List.mem_append.mp h with h | h
      · exact hL _ h
      · exact ⟨List.mem_append_right _ h, LV_good w h⟩
section LAWL
variable {p : Program} {l : Launch} {e : Env} {s : State} {m : MethodId} {args : Array Value} {below : List Frame} {meth : Method} {c : Code} {Q : State → Prop} {D : va_G} {A : Nat → Prop} {nc ns : Nat} {N : Nm} {ws : va_W} {pc : Nat} {rest : List Value} {b L : Nat} {xs : Nat → Int32} {ax am qo i : Nat} {N1 N2 : Nm} {z w : St} {fo : Nat → Int64}
/-- script[i + k], the locals anything -/
theorem bw_argg (C : LC p s m args c D A N b L xs) (hL : L ≤ 3072) {lv : List (Nat × Value)} (j0 j4 : Nat) {k : Nat} (hk : i + k < L) (hk5 : k < 6) (l0 : lv[j0]? = some (0, .ref b)) (l4 : lv[j4]? = some (4, .int (nI i))) (d0 : decode cL_law pc = .ok (.aload_n 0, 1)) (d1 : decode cL_law (pc + 1) = .ok (.iload 4, 2)) (d3 : decode cL_law (pc + 3) = .ok (.iconst (k : Int), 1)) (d4 : decode cL_law (pc + 4) = .ok (.iadd, 1)) (d5 : decode cL_law (pc + 5) = .ok (.iaload, 1)) (K : Bw p l e room_1 s m args below meth c Q D A 7 nc ns ws (pc + 6) lv (.int (xs (i + k)) :: rest)) : Bw p l e room_1 s m args below meth c Q D A 7 nc ns ws pc lv rest := by
  refine bw_aload_n C.1 j0 d0 l0 ?_
  refine bw_iload C.1 j4 d1 l4 ?_
  refine bw_iconst (v := nI k) C.1 d3 (by rcases (show k = 0 ∨ k = 1 ∨ k = 2 ∨ k = 3 ∨ k = 4 ∨ k = 5 by omega) with e | e | e | e | e | e <;> subst e <;> decide) ?_
  refine bw_iadd C.1 d4 ?_
  rw [nI_add]
  intro H locs ls hP hD hS hv
  refine va_sld C.1.1 C.1.2.1 C.2.1 C.2.2.1 C.2.2.2 hS (vp_in_nI hk (by omega)) d5 ?_
  rw [nI_clamp (by omega)]
  exact K H locs ls hP hD hS hv
/-- look(a, m, n, out) -/
theorem bw_llook (C : LC p s m args c D A N b L xs) (hl : l.stackTraces = false) (hlv : ∀ w ∈ LV, w.before args s = true) {sa sb : Nat} (hlk : lkOK sa sb A s) {a b0 hb : Int32} (hh : f_X1_has z a = some (hb, z)) (h01 : hb = 0 ∨ hb = 1) (hia : hb = 1 → vp_in a 12) (e1 : N1.2.2 = N.2.2) (hc : nc ≤ 3600) (hs : ns ≤ 8000) {wr : va_W} {lv : List (Nat × Value)} (K : ∀ (r : Int32) (fo' : Nat → Int64), lkS z hb a b0 r fo' → Bw p l e room_1 s m args below meth c Q D A 7 (nc + 1) (ns + 6) ((oCell N1 qo fo' ++ wC N1 z) ++ wr) 837 lv [.int r]) : Bw p l e room_1 s m args below meth c Q D A 7 nc ns ((oCell N1 qo fo ++ wC N1 z) ++ wr) 834 lv [.ref qo, .int b0, .int a, .ref (N1.1 0)] := by
  intro H locs ls hP hD hS hv
  obtain ⟨hx, hbb, hml, hown, hts, hK, -, hA, hnw⟩ := id C.1
  have hts2 : ∀ w ∈ LW ++ LV, w.before args s = true := fun w h => (List.mem_append.mp h).elim (hts w) (hlv w)
  have hK1 : va_K D vwCl (tysG N1) s := by unfold tysG at hK ⊢; rw [e1]; exact hK
  have hnw1 : envOK N1 A s := by rw [envOK_N e1]; exact hnw
  generalize hwc : oCell N1 qo fo ++ wC N1 z = wc at hP hD
  have hPc : va_P D vwCl wc H := fun k q hq => hP k q (by rw [List.getElem?_append_left (List.getElem?_eq_some_iff.mp hq).1]; exact hq)
  have hDc : va_D A wc := ⟨fun i j p' q' hi hj e => hD.1 i j p' q' (by rw [List.getElem?_append_left (List.getElem?_eq_some_iff.mp hi).1]; exact hi) (by rw [List.getElem?_append_left (List.getElem?_eq_some_iff.mp hj).1]; exact hj) e, fun k q hq => hD.2 k q (by rw [List.getElem?_append_left (List.getElem?_eq_some_iff.mp hq).1]; exact hq)⟩
  have hF : ∀ q, va_A wc H.size q → A q := fun q hq => by
    rcases hq with ⟨k, e, hq⟩ | hq
    · exact hDc.2 k (q, e) hq
    · exact hA q (Nat.le_trans hS.1 hq)
  have hM := n_L_look l hl D N1 z a b0 hb hh h01 hia sa sb qo fo H.size
  rw [hwc] at hM
  refine vx_calli (vx_runSX (As := [.ref (N1.1 0), .int a, .int b0, .ref qo]) (rest := []) (cc := cL_law) (nL := 7) (Ts := LW ++ LV) (own := RL) ⟨hx, hbb, hml, hown, hts2⟩ hM (vx_cwSW 4 hts2 gS_code rfl rfl rfl (by decide +kernel) ⟨Nat.le_of_ble_eq_true rfl, Nat.le_of_ble_eq_true rfl⟩) ⟨fun a U g mk q => by obtain ⟨q0, q1, qP, qK, qD, qN, qO⟩ := q; exact ⟨q0, q1, qP, va_K.moved (u := U) (U := U.calling g mk a) (Vm.Alike.refl U.vm) qK, qD, qN.frame, qO.frame⟩, fun U hU hW => ⟨rfl, by rw [hU], by rw [hU]; exact hPc, va_K.moved hW.alike hK1, hDc.weaken (fun _ _ _ _ => trivial), hnw1.call hS hF hU hW, hlk.call hS hF hU hW⟩⟩ rfl rfl hv.1 rfl (lv_room (Nat.le_of_ble_eq_true rfl)) dL_law_834 ⟨Nat.le_trans (Nat.add_le_add_right hc 1) (Nat.le_of_ble_eq_true rfl), Nat.le_trans (Nat.add_le_add_right hs 6) (Nat.le_of_ble_eq_true rfl)⟩) hS (fun q _ h => hF q h) hF (fun q _ h => h.elim) (fun E ce q9 u t H1 locs1 ht hvm hpx hBX hz1 hk1 hS1 hcell hcv hcl => hpx.elim) (fun r u t H1 locs1 ht hvm hpo hB hz1 hk1 hS1 => ?_)
  obtain ⟨hP1, hD1⟩ := hB
  rw [ht] at hP1
  obtain ⟨hP2, hD2⟩ := join_front hP hD hk1 hF hP1 hD1
  exact K r u hpo H1 locs1 ls hP2 hD2 hS1 hv
end LAWL
section LAWK
variable {p : Program} {l : Launch} {e : Env} {s : State} {m : MethodId} {args : Array Value} {below : List Frame} {meth : Method} {c : Code} {Q : State → Prop} {D : va_G} {A : Nat → Prop} {nc ns : Nat} {N : Nm} {b L : Nat} {xs : Nat → Int32} {ax am qo i : Nat} {N1 N2 : Nm} {z w : St} {fo : Nat → Int64}
theorem L_look (C : LC p s m args c D A N b L xs) (hl : l.stackTraces = false) (hlv : ∀ w ∈ LV, w.before args s = true) {sa sb : Nat} (hlk : lkOK sa sb A s) (hL : L ≤ 3072) (hi : i + 6 ≤ L) (e1 : N1.2.2 = N.2.2) (e2 : N2.2.2 = N.2.2) (a1 : N1.1 0 = ax) (a2 : N2.1 0 = am) (hI : Inv z w) (hc : nc ≤ 3600) (hs : ns ≤ 8000) (K : ∀ (fo' : Nat → Int64) (w' : St), Inv z w' → Bw p l e room_1 s m args below meth c Q D A 7 (nc + 1) (ns + 6) (wC N1 z ++ (wR N2 w' ++ oCell N qo fo')) 1318 (lvL b ax am qo i) []) : Bw p l e room_1 s m args below meth c Q D A 7 nc ns (wC N1 z ++ (wR N2 w ++ oCell N qo fo)) 820 (lvL b ax am qo i) [] := by
  subst a1 a2
  obtain ⟨hb, t, r2, hh, h01, hia, h2, hI1, hR⟩ := q_look hI (xs (i + 1)) (xs (i + 2))
  have eo : ∀ f, oCell N qo f = oCell N1 qo f := fun f => by unfold oCell; rw [e1]
  have hc1 : nc + 1 ≤ room_1.cells := Nat.le_trans (Nat.add_le_add_right hc 1) (Nat.le_of_ble_eq_true rfl)
  have hs1 : ns + 6 ≤ room_1.slots := Nat.le_trans (Nat.add_le_add_right hs 6) (Nat.le_of_ble_eq_true rfl)
  rw [eo]
  refine bw_rot1 ?_
  refine bw_rot1 ?_
  rw [← List.append_assoc]
  refine bw_aload_n C.1 1 dL_law_820 rfl ?_
  refine bw_arg (k := 1) C hL (by omega) (by decide) dL_law_821 dL_law_822 dL_law_824 dL_law_825 dL_law_826 ?_
  refine bw_arg (k := 2) C hL (by omega) (by decide) dL_law_827 dL_law_828 dL_law_830 dL_law_831 dL_law_832 ?_
  refine bw_aload_n C.1 3 dL_law_833 rfl ?_
  refine bw_llook C hl hlv hlk hh h01 hia e1 hc hs (fun r fo' hS => ?_)
  obtain ⟨rfl, hr0⟩ := hR r fo' hS
  rw [List.append_assoc]
  refine bw_rot1 ?_
  refine bw_rot1 ?_
  refine bw_istore (lv' := [(0, .ref b), (1, .ref (N1.1 0)), (2, .ref (N2.1 0)), (3, .ref qo), (4, .int (nI i)), (5, .int t)]) C.1 [1, 2, 3, 4, 5, 0] dL_law_837 (by decide) rfl ?_
  refine bw_aload_n C.1 2 dL_law_839 rfl ?_
  refine bw_argg (k := 1) C hL 0 4 (by omega) (by decide) rfl rfl dL_law_840 dL_law_841 dL_law_843 dL_law_844 dL_law_845 ?_
  refine bw_argg (k := 2) C hL 0 4 (by omega) (by decide) rfl rfl dL_law_846 dL_law_847 dL_law_849 dL_law_850 dL_law_851 ?_
  refine bw_frontVi (n := 2) (As := [.int (xs (i + 1)), .int (xs (i + 2))]) (rest := []) (q0 := 0) (ci := 11) (w1 := wR N2 (sI w 0 t)) C.1 e2 (c_X12_look l D N2 w (sI w 0 t) (xs (i + 1)) (xs (i + 2)) r2 h2) lw_37_4 lw_37_5 lw_37_6 lw_1_5 lw_37_7 rfl rfl (by decide +kernel) ⟨Nat.le_of_ble_eq_true rfl, Nat.le_of_ble_eq_true rfl⟩ rfl rfl rfl rfl rfl (Nat.le_of_ble_eq_true rfl) hc1 hs1 dL_law_852 ?_
  refine bw_istore (lv' := [(0, .ref b), (1, .ref (N1.1 0)), (2, .ref (N2.1 0)), (3, .ref qo), (4, .int (nI i)), (5, .int t), (6, .int r2)]) C.1 [1, 2, 3, 4, 5, 6, 0] dL_law_855 (by decide) rfl ?_
  refine bw_aload_n C.1 2 dL_law_857 rfl ?_
  refine bw_frontVi (n := 0) (As := []) (rest := []) (q0 := 0) (ci := 11) (w1 := wR N2 (sI w 0 t)) C.1 e2 (c_X12_thrown l D N2 (sI w 0 t) (sI w 0 t) t rfl) lw_37_8 lw_37_9 lw_37_10 lw_1_5 lw_37_11 rfl rfl (by decide +kernel) ⟨Nat.le_of_ble_eq_true rfl, Nat.le_of_ble_eq_true rfl⟩ rfl rfl rfl rfl rfl (Nat.le_of_ble_eq_true rfl) hc1 hs1 dL_law_858 ?_
  refine bw_iload C.1 5 dL_law_861 rfl ?_
  refine bw_icmp_eq (tgt := 868) C.1 dL_law_863 (by decide) (fun _ => ?_) (fun q => absurd rfl q)
  refine bw_iload C.1 5 dL_law_868 rfl ?_
  have KE : ∀ pc', pc' = 885 → Bw p l e room_1 s m args below meth c Q D A 7 (nc + 1) (ns + 6) (oCell N1 qo fo' ++ (wC N1 z ++ wR N2 (sI w 0 t))) pc' [(0, .ref b), (1, .ref (N1.1 0)), (2, .ref (N2.1 0)), (3, .ref qo), (4, .int (nI i)), (5, .int t), (6, .int r2)] [] := by
    intro pc' hpc
    subst hpc
    refine bw_rot1 ?_
    refine bw_goto (tgt := 1318) C.1 dL_law_885 (by decide) ?_
    refine bw_sub (lv' := lvL b (N1.1 0) (N2.1 0) qo i) [0, 1, 2, 3, 4] rfl ?_
    rw [← eo]
    exact K fo' (sI w 0 t) hI1
  refine bw_rot1 ?_
  refine bw_if_ne (tgt := 885) C.1 dL_law_870 (by decide) (fun _ => KE _ rfl) (fun q => ?_)
  refine bw_aload_n C.1 3 dL_law_873 rfl ?_
  refine bw_iconst (v := 0) C.1 dL_law_874 (by decide) ?_
  refine bw_lald (f := fo') C.1 0 1 rfl (by unfold tysG; rw [e1]; rfl) (by unfold vp_in; decide) dL_law_875 ?_
  refine bw_iload C.1 6 dL_law_876 rfl ?_
  refine bw_i2l C.1 dL_law_878 ?_
  refine bw_lcmp C.1 dL_law_879 ?_
  refine bw_if_eq (tgt := 885) C.1 dL_law_880 (by decide) (fun _ => KE _ rfl) (fun q2 => absurd ?_ q2)
  have e0 : fo' 0 = r2.toInt64 := hr0 q
  show lg_cmp (fo' 0) r2.toInt64 = 0
  rw [e0]
  unfold lg_cmp
  rw [if_neg (fun h => Int64.lt_irrefl h), if_pos rfl]
end LAWK
