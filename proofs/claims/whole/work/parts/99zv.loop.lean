/-! LAW: its loop (by program: wip/gen/law.py) -/
theorem L_goes {L i : Nat} (hL : L ≤ 3072) (hi : i ≤ L) (h : ¬ (Int32.ofNat L - 6 < nI i)) : i + 6 ≤ L := by
  have e1 : (Int32.ofNat L).toInt = (L : Int) := Int32.toInt_ofNat_of_lt (by omega)
  have e2 : (nI i).toInt = (i : Int) := Int32.toInt_ofNat_of_lt (by omega)
  have e3 : ((6 : Int32)).toInt = 6 := by decide
  rw [i_lt, i_sub (by rw [e1, e3]; omega) (by rw [e1, e3]; omega), e1, e2, e3] at h
  omega
section LAWP
variable {p : Program} {l : Launch} {e : Env} {s : State} {m : MethodId} {args : Array Value} {below : List Frame} {meth : Method} {c : Code} {Q : State → Prop} {D : va_G} {A : Nat → Prop} {N : Nm} {b L : Nat} {xs : Nat → Int32} {ax am qo : Nat} {N2 : Nm}
theorem L_loop (C : LC p s m args c D A N b L xs) (hl : l.stackTraces = false) (hlv : ∀ w ∈ LV, w.before args s = true) {sa sb : Nat} (hlk : lkOK sa sb A s) (hL : L ≤ 3072) (e2 : N2.2.2 = N.2.2) (a2 : N2.1 0 = am) (KX : ∀ (i nc ns : Nat) (N1 : Nm) (z w : St) (fo : Nat → Int64), nc ≤ 3600 → ns ≤ 8000 → Bw p l e room_1 s m args below meth c Q D A 7 nc ns (wC N1 z ++ (wR N2 w ++ oCell N qo fo)) 1324 (lvL b ax am qo i) []) : ∀ (k i nc ns : Nat) (N1 : Nm) (z w : St) (fo : Nat → Int64), L ≤ i + k → i ≤ L → N1.2.2 = N.2.2 → N1.1 0 = ax → Inv z w → nc ≤ 200 + i → ns ≤ 4200 + i → Bw p l e room_1 s m args below meth c Q D A 7 nc ns (wC N1 z ++ (wR N2 w ++ oCell N qo fo)) 23 (lvL b ax am qo i) [] := by
  intro k
  induction k with
  | zero =>
    intro i nc ns N1 z w fo hk hi0 e1 a1 hI hc hs
    refine bw_iload C.1 4 dL_law_23 rfl ?_
    refine bw_aload_n C.1 0 dL_law_25 rfl ?_
    refine bw_slen C dL_law_26 ?_
    refine bw_bipush (v := 6) C.1 dL_law_27 (by decide) ?_
    refine bw_isub C.1 dL_law_29 ?_
    refine bw_icmp_gt (tgt := 1324) C.1 dL_law_30 (by decide) (fun _ => KX i nc ns N1 z w fo (by omega) (by omega)) (fun q => ?_)
    have := L_goes hL hi0 q
    exact absurd this (by omega)
  | succ k ih =>
    intro i nc ns N1 z w fo hk hi0 e1 a1 hI hc hs
    have hcc : nc ≤ 3600 := by omega
    have hss : ns ≤ 8000 := by omega
    refine bw_iload C.1 4 dL_law_23 rfl ?_
    refine bw_aload_n C.1 0 dL_law_25 rfl ?_
    refine bw_slen C dL_law_26 ?_
    refine bw_bipush (v := 6) C.1 dL_law_27 (by decide) ?_
    refine bw_isub C.1 dL_law_29 ?_
    refine bw_icmp_gt (tgt := 1324) C.1 dL_law_30 (by decide) (fun _ => KX i nc ns N1 z w fo hcc hss) (fun q => ?_)
    have hi : i + 6 ≤ L := L_goes hL hi0 q
    have KN : ∀ (nc' ns' : Nat) (N1' : Nm) (z' w' : St) (fo' : Nat → Int64), N1'.2.2 = N.2.2 → N1'.1 0 = ax → Inv z' w' → nc' ≤ 200 + (i + 6) → ns' ≤ 4200 + (i + 6) → Bw p l e room_1 s m args below meth c Q D A 7 nc' ns' (wC N1' z' ++ (wR N2 w' ++ oCell N qo fo')) 1318 (lvL b ax am qo i) [] := by
      intro nc' ns' N1' z' w' fo' u1 u2 u3 u4 u5
      refine bw_iinc (v := nI (i + 6)) (k := 4) (lv' := lvL b ax am qo (i + 6)) C.1 [1, 2, 3, 4, 0] dL_law_1318 rfl (nI_add i 6) (by decide) rfl ?_
      refine bw_goto (tgt := 23) C.1 dL_law_1321 (by decide) ?_
      exact ih (i + 6) nc' ns' N1' z' w' fo' (by omega) hi u1 u2 u3 u4 u5
    have K1 : ∀ (N1' : Nm) (z' w' : St), N1'.2.2 = N1.2.2 → N1'.1 0 = N1.1 0 → Inv z' w' → Bw p l e room_1 s m args below meth c Q D A 7 nc ns (wC N1' z' ++ (wR N2 w' ++ oCell N qo fo)) 1318 (lvL b ax am qo i) [] := fun N1' z' w' u1 u2 u3 => KN nc ns N1' z' w' fo (u1.trans e1) (u2.trans a1) u3 (by omega) (by omega)
    refine bw_arg0 C hL (by omega) dL_law_33 dL_law_34 dL_law_36 ?_
    refine bw_bipush (v := 31) C.1 dL_law_37 (by decide) ?_
    refine bw_iand C.1 dL_law_39 ?_
    generalize xs i &&& 31 = x
    by_cases q0 : x.toInt < 0
    · exact bw_tableO (tgt := 1318) C.1 dL_law_40 (Or.inl q0) (by decide) (KN nc ns N1 z w fo e1 a1 hI (by omega) (by omega))
    by_cases q1 : 26 < x.toInt
    · exact bw_tableO (tgt := 1318) C.1 dL_law_40 (Or.inr q1) (by decide) (KN nc ns N1 z w fo e1 a1 hI (by omega) (by omega))
    obtain ⟨j, hj, rfl⟩ := nI_mk (x := x) (n := 26) (by omega) (by omega) (by decide)
    rcases (show j = 0 ∨ j = 1 ∨ j = 2 ∨ j = 3 ∨ j = 4 ∨ j = 5 ∨ j = 6 ∨ j = 7 ∨ j = 8 ∨ j = 9 ∨ j = 10 ∨ j = 11 ∨ j = 12 ∨ j = 13 ∨ j = 14 ∨ j = 15 ∨ j = 16 ∨ j = 17 ∨ j = 18 ∨ j = 19 ∨ j = 20 ∨ j = 21 ∨ j = 22 ∨ j = 23 ∨ j = 24 ∨ j = 25 ∨ j = 26 by omega) with rfl | rfl | rfl | rfl | rfl | rfl | rfl | rfl | rfl | rfl | rfl | rfl | rfl | rfl | rfl | rfl | rfl | rfl | rfl | rfl | rfl | rfl | rfl | rfl | rfl | rfl | rfl
    · refine bw_table (tgt := 164) C.1 124 dL_law_40 (by decide) (by decide) rfl (by decide) ?_
      exact L_feed C hL hi e1 e2 a1 a2 hI hcc hss K1
    · refine bw_table (tgt := 237) C.1 197 dL_law_40 (by decide) (by decide) rfl (by decide) ?_
      exact L_terms C hL hi e1 e2 a1 a2 hI hcc hss K1
    · refine bw_table (tgt := 262) C.1 222 dL_law_40 (by decide) (by decide) rfl (by decide) ?_
      exact L_fault C hL hi e1 e2 a1 a2 hI hcc hss K1
    · refine bw_table (tgt := 287) C.1 247 dL_law_40 (by decide) (by decide) rfl (by decide) ?_
      exact L_land C hL hi e1 e2 a1 a2 hI hcc hss K1
    · refine bw_table (tgt := 324) C.1 284 dL_law_40 (by decide) (by decide) rfl (by decide) ?_
      exact L_days C hL hi e1 e2 a1 a2 hI hcc hss K1
    · refine bw_table (tgt := 349) C.1 309 dL_law_40 (by decide) (by decide) rfl (by decide) ?_
      exact L_village C hL hi e1 e2 a1 a2 hI hcc hss K1
    · refine bw_table (tgt := 426) C.1 386 dL_law_40 (by decide) (by decide) rfl (by decide) ?_
      exact L_errs C hL hi e1 e2 a1 a2 hI hcc hss K1
    · refine bw_table (tgt := 463) C.1 423 dL_law_40 (by decide) (by decide) rfl (by decide) ?_
      exact L_count C hL hi e1 e2 a1 a2 hI hcc hss K1
    · refine bw_table (tgt := 524) C.1 484 dL_law_40 (by decide) (by decide) rfl (by decide) ?_
      exact L_note C hL hi e1 e2 a1 a2 hI hcc hss K1
    · refine bw_table (tgt := 585) C.1 545 dL_law_40 (by decide) (by decide) rfl (by decide) ?_
      exact L_strike C hL hi e1 e2 a1 a2 hI hcc hss K1
    · refine bw_table (tgt := 610) C.1 570 dL_law_40 (by decide) (by decide) rfl (by decide) ?_
      exact L_span C hL hi e1 e2 a1 a2 hI hcc hss K1
    · refine bw_table (tgt := 671) C.1 631 dL_law_40 (by decide) (by decide) rfl (by decide) ?_
      exact L_canal C hL hi e1 e2 a1 a2 hI hcc hss K1
    · refine bw_table (tgt := 696) C.1 656 dL_law_40 (by decide) (by decide) rfl (by decide) ?_
      exact L_drinks C hL hi e1 e2 a1 a2 hI hcc hss K1
    · refine bw_table (tgt := 733) C.1 693 dL_law_40 (by decide) (by decide) rfl (by decide) ?_
      exact L_given C hL hi e1 e2 a1 a2 hI hcc hss K1
    · refine bw_table (tgt := 758) C.1 718 dL_law_40 (by decide) (by decide) rfl (by decide) ?_
      exact L_turned C hL hi e1 e2 a1 a2 hI hcc hss K1
    · refine bw_table (tgt := 795) C.1 755 dL_law_40 (by decide) (by decide) rfl (by decide) ?_
      exact L_draft C hL hi e1 e2 a1 a2 hI hcc hss K1
    · refine bw_table (tgt := 820) C.1 780 dL_law_40 (by decide) (by decide) rfl (by decide) ?_
      exact L_look C hl hlv hlk hL hi e1 e2 a1 a2 hI hcc hss (fun fo' w' u => KN (nc + 1) (ns + 6) N1 z w' fo' e1 a1 u (by omega) (by omega))
    · refine bw_table (tgt := 888) C.1 848 dL_law_40 (by decide) (by decide) rfl (by decide) ?_
      exact L_does C hL hi e1 e2 a1 a2 hI hcc hss K1
    · refine bw_table (tgt := 937) C.1 897 dL_law_40 (by decide) (by decide) rfl (by decide) ?_
      exact L_best C hL hi e1 e2 a1 a2 hI hcc hss K1
    · refine bw_table (tgt := 974) C.1 934 dL_law_40 (by decide) (by decide) rfl (by decide) ?_
      exact L_weights C hL hi e1 e2 a1 a2 hI hcc hss K1
    · refine bw_table (tgt := 1011) C.1 971 dL_law_40 (by decide) (by decide) rfl (by decide) ?_
      exact L_knows C hL hi e1 e2 a1 a2 hI hcc hss K1
    · refine bw_table (tgt := 1060) C.1 1020 dL_law_40 (by decide) (by decide) rfl (by decide) ?_
      exact L_explained C hL hi e1 e2 a1 a2 hI hcc hss K1
    · refine bw_table (tgt := 1097) C.1 1057 dL_law_40 (by decide) (by decide) rfl (by decide) ?_
      exact L_through C hL hi e1 e2 a1 a2 hI hcc hss K1
    · refine bw_table (tgt := 1122) C.1 1082 dL_law_40 (by decide) (by decide) rfl (by decide) ?_
      exact L_candidate C hL hi e1 e2 a1 a2 hI hcc hss K1
    · refine bw_table (tgt := 1147) C.1 1107 dL_law_40 (by decide) (by decide) rfl (by decide) ?_
      exact L_flight C hL hi e1 e2 a1 a2 hI hcc hss K1
    · refine bw_table (tgt := 1220) C.1 1180 dL_law_40 (by decide) (by decide) rfl (by decide) ?_
      exact L_guards C hL hi e1 e2 a1 a2 hI hcc hss K1
    · refine bw_table (tgt := 1293) C.1 1253 dL_law_40 (by decide) (by decide) rfl (by decide) ?_
      exact L_counted C hL hi e1 e2 a1 a2 hI hcc hss K1
end LAWP
