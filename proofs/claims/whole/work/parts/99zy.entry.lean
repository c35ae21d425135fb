theorem LW_tbl : ∀ w ∈ LW, w ∈ lw_tbl := by
  intro w hw
  unfold LW wsL_law0 at hw
  refine (List.mem_append.mp hw).elim (fun hw => ?_) (fun h => by cases h)
  refine (List.mem_append.mp hw).elim (fun hw => ?_) (fun h => kw_wsX20 w h)
  refine (List.mem_append.mp hw).elim (fun hw => ?_) (fun h => kw_wsX70 w h)
  refine (List.mem_append.mp hw).elim (fun hw => ?_) (fun h => kw_wsX100 w h)
  refine (List.mem_append.mp hw).elim (fun hw => ?_) (fun h => kw_wsX30 w h)
  refine (List.mem_append.mp hw).elim (fun hw => ?_) (fun h => kw_wsX10 w h)
  refine (List.mem_append.mp hw).elim (fun hw => ?_) (fun h => kw_wsX80 w h)
  refine (List.mem_append.mp hw).elim (fun hw => ?_) (fun h => kw_wsX60 w h)
  refine (List.mem_append.mp hw).elim (fun hw => ?_) (fun h => kw_wsX00 w h)
  refine (List.mem_append.mp hw).elim (fun hw => ?_) (fun h => kw_wsX50 w h)
  refine (List.mem_append.mp hw).elim (fun hw => ?_) (fun h => kw_wsX40 w h)
  refine (List.mem_append.mp hw).elim (fun hw => ?_) (fun h => kw_wsX120 w h)
  refine (List.mem_append.mp hw).elim (fun hw => ?_) (fun h => kw_wsX110 w h)
  refine (List.mem_append.mp hw).elim (fun h => kw_wsL_law0_r1 w h) (fun hw => ?_)
  refine (List.mem_append.mp hw).elim (fun h => kw_wsL_law0_r2 w h) (fun hw => ?_)
  refine (List.mem_append.mp hw).elim (fun h => kw_wsL_law0_r3 w h) (fun hw => ?_)
  refine (List.mem_append.mp hw).elim (fun h => kw_wsL_law0_r4 w h) (fun hw => ?_)
  refine (List.mem_append.mp hw).elim (fun h => kw_wsL_law0_r5 w h) (fun hw => ?_)
  refine (List.mem_append.mp hw).elim (fun h => kw_wsL_law0_r6 w h) (fun hw => ?_)
  refine (List.mem_append.mp hw).elim (fun h => kw_wsL_law0_r7 w h) (fun hw => ?_)
  refine (List.mem_append.mp hw).elim (fun h => kw_wsL_law0_r8 w h) (fun hw => ?_)
  refine (List.mem_append.mp hw).elim (fun h => kw_wsL_law0_r9 w h) (fun hw => ?_)
  refine (List.mem_append.mp hw).elim (fun h => kw_wsL_law0_r10 w h) (fun hw => ?_)
  refine (List.mem_append.mp hw).elim (fun h => kw_wsL_law0_r11 w h) (fun hw => ?_)
  refine (List.mem_append.mp hw).elim (fun h => kw_wsL_law0_r12 w h) (fun hw => ?_)
  refine (List.mem_append.mp hw).elim (fun h => kw_wsL_law0_r13 w h) (fun hw => ?_)
  refine (List.mem_append.mp hw).elim (fun h => kw_wsL_law0_r14 w h) (fun hw => ?_)
  refine (List.mem_append.mp hw).elim (fun h => kw_wsL_law0_r15 w h) (fun hw => ?_)
  refine (List.mem_append.mp hw).elim (fun h => kw_wsL_law0_r16 w h) (fun hw => ?_)
  refine (List.mem_append.mp hw).elim (fun h => kw_wsL_law0_r17 w h) (fun hw => ?_)
  refine (List.mem_append.mp hw).elim (fun h => kw_wsL_law0_r18 w h) (fun hw => ?_)
  refine (List.mem_append.mp hw).elim (fun h => kw_wsL_law0_r19 w h) (fun hw => ?_)
  refine (List.mem_append.mp hw).elim (fun h => kw_wsL_law0_r20 w h) (fun hw => ?_)
  refine (List.mem_append.mp hw).elim (fun h => kw_wsL_law0_r21 w h) (fun hw => ?_)
  refine (List.mem_append.mp hw).elim (fun h => kw_wsL_law0_r22 w h) (fun hw => ?_)
  refine (List.mem_append.mp hw).elim (fun h => kw_wsL_law0_r23 w h) (fun hw => ?_)
  refine (List.mem_append.mp hw).elim (fun h => kw_wsL_law0_r24 w h) (fun hw => ?_)
  refine (List.mem_append.mp hw).elim (fun h => kw_wsL_law0_r25 w h) (fun hw => ?_)
  refine (List.mem_append.mp hw).elim (fun h => kw_wsL_law0_r26 w h) (fun hw => ?_)
  refine (List.mem_append.mp hw).elim (fun h => kw_wsL_law0_r27 w h) (fun hw => ?_)
  refine (List.mem_append.mp hw).elim (fun h => kw_wsL_law0_r28 w h) (fun hw => ?_)
  refine (List.mem_append.mp hw).elim (fun h => kw_wsL_law0_r29 w h) (fun hw => ?_)
  refine (List.mem_append.mp hw).elim (fun h => kw_wsL_law0_r30 w h) (fun hw => ?_)
  refine (List.mem_append.mp hw).elim (fun h => kw_wsL_law0_r31 w h) (fun hw => ?_)
  refine (List.mem_append.mp hw).elim (fun h => kw_wsL_law0_r32 w h) (fun hw => ?_)
  refine (List.mem_append.mp hw).elim (fun h => kw_wsL_law0_r33 w h) (fun hw => ?_)
  refine (List.mem_append.mp hw).elim (fun h => kw_wsL_law0_r34 w h) (fun hw => ?_)
  refine (List.mem_append.mp hw).elim (fun h => kw_wsL_law0_r35 w h) (fun hw => ?_)
  refine (List.mem_append.mp hw).elim (fun h => kw_wsL_law0_r36 w h) (fun hw => ?_)
  refine (List.mem_append.mp hw).elim (fun h => kw_wsL_law0_r37 w h) (fun hw => ?_)
  refine (List.mem_append.mp hw).elim (fun h => kw_wsL_law0_r38 w h) (fun hw => ?_)
  refine (List.mem_append.mp hw).elim (fun h => kw_wsL_law0_r39 w h) (fun hw => ?_)
  refine (List.mem_append.mp hw).elim (fun h => kw_wsL_law0_r40 w h) (fun hw => ?_)
  refine (List.mem_append.mp hw).elim (fun h => kw_wsL_law0_r41 w h) (fun hw => ?_)
  refine (List.mem_append.mp hw).elim (fun h => kw_wsL_law0_r42 w h) (fun hw => ?_)
  refine (List.mem_append.mp hw).elim (fun h => kw_wsL_law0_r43 w h) (fun hw => ?_)
  refine (List.mem_append.mp hw).elim (fun h => kw_wsL_law0_r44 w h) (fun hw => ?_)
  refine (List.mem_append.mp hw).elim (fun h => kw_wsL_law0_r45 w h) (fun hw => ?_)
  refine (List.mem_append.mp hw).elim (fun h => kw_wsL_law0_r46 w h) (fun hw => ?_)
  refine (List.mem_append.mp hw).elim (fun h => kw_wsL_law0_r47 w h) (fun hw => ?_)
  refine (List.mem_append.mp hw).elim (fun h => kw_wsL_law0_r48 w h) (fun hw => ?_)
  refine (List.mem_append.mp hw).elim (fun h => kw_wsL_law0_r49 w h) (fun hw => ?_)
  refine (List.mem_append.mp hw).elim (fun h => kw_wsL_law0_r50 w h) (fun hw => ?_)
  refine (List.mem_append.mp hw).elim (fun h => kw_wsL_law0_r51 w h) (fun hw => ?_)
  refine (List.mem_append.mp hw).elim (fun h => kw_wsL_law0_r52 w h) (fun hw => ?_)
  exact kw_wsL_law0_r53 w hw
theorem LV_tbl : ∀ w ∈ LV, w ∈ lw_tbl := mem_pl [117, 1161, 1170, 1173, 1176, 1178, 1162, 1163, 129, 130, 1164, 1169, 1174, 1194, 1151, 1195, 1153, 1196, 1155, 1165, 1167, 1157, 1190, 1191, 1193, 1157, 1181, 1182, 1183, 1184, 1184, 1185, 1186, 1187, 1187, 1188, 1189, 1190, 1180, 1140, 1148, 1149, 1150, 1152, 1154, 1156, 1160, 1159, 1158, 117, 1161, 1170, 1173, 1176, 1178, 1162, 1163, 129, 130, 1164, 1169, 1174, 1194, 1151, 1195, 1153, 1196, 1155, 1165, 1167, 1157, 1190, 1191, 1193, 1157, 1216, 1217, 1218, 1184, 1184, 1185, 1186, 1187, 1187, 1188, 1189, 1190, 1215, 1206, 1208, 1172, 1209, 1210, 1211, 1212, 1160, 1159, 1213] (by decide +kernel)
/-! LAW: what holds at its entry -/
theorem st_kn {s : State} {args : Array Value} (hts : ∀ w ∈ LW, w.before args s = true) : ∃ D : va_G, ∀ (k : Nat) (q : vw_C), vwCl[k]? = some q → u_Kn s q.1 q.2.1 q.2.2 (D.1 k) (D.2 k) := by
  have h : ∀ k : Nat, ∃ (cC : ClassId) (iS : Nat → Nat), ∀ q : vw_C, vwCl[k]? = some q → u_Kn s q.1 q.2.1 q.2.2 cC iS := by
    intro k
    match k with
    | 0 => obtain ⟨a, b, h⟩ := u_known (C := RX0) (T := TX0) (N := 6) (n := 6) hts inLW_X0 (hts _ lw_1_20); exact ⟨a, b, fun q hq => by cases hq; exact h⟩
    | 1 => obtain ⟨a, b, h⟩ := u_known (C := RX1) (T := TX1) (N := 3) (n := 3) hts inLW_X1 (hts _ lw_2_12); exact ⟨a, b, fun q hq => by cases hq; exact h⟩
    | 2 => obtain ⟨a, b, h⟩ := u_known (C := RX2) (T := TX2) (N := 12) (n := 12) hts inLW_X2 (hts _ lw_3_4); exact ⟨a, b, fun q hq => by cases hq; exact h⟩
    | 3 => obtain ⟨a, b, h⟩ := u_known (C := RX3) (T := TX3) (N := 4) (n := 4) hts inLW_X3 (hts _ lw_2_16); exact ⟨a, b, fun q hq => by cases hq; exact h⟩
    | 4 => obtain ⟨a, b, h⟩ := u_known (C := RX4) (T := TX4) (N := 12) (n := 12) hts inLW_X4 (hts _ lw_1_14); exact ⟨a, b, fun q hq => by cases hq; exact h⟩
    | 5 => obtain ⟨a, b, h⟩ := u_known (C := RX5) (T := TX5) (N := 8) (n := 8) hts inLW_X5 (hts _ lw_1_17); exact ⟨a, b, fun q hq => by cases hq; exact h⟩
    | 6 => obtain ⟨a, b, h⟩ := u_known (C := RX6) (T := TX6) (N := 13) (n := 13) hts inLW_X6 (hts _ lw_2_0); exact ⟨a, b, fun q hq => by cases hq; exact h⟩
    | 7 => obtain ⟨a, b, h⟩ := u_known (C := RX7) (T := TX7) (N := 3) (n := 3) hts inLW_X7 (hts _ lw_3_0); exact ⟨a, b, fun q hq => by cases hq; exact h⟩
    | 8 => obtain ⟨a, b, h⟩ := u_known (C := RX8) (T := TX8) (N := 7) (n := 7) hts inLW_X8 (hts _ lw_2_4); exact ⟨a, b, fun q hq => by cases hq; exact h⟩
    | 9 => obtain ⟨a, b, h⟩ := u_known (C := RX10) (T := TX10) (N := 11) (n := 11) hts inLW_X10 (hts _ lw_2_20); exact ⟨a, b, fun q hq => by cases hq; exact h⟩
    | 10 => obtain ⟨a, b, h⟩ := u_known (C := RX11) (T := TX11) (N := 12) (n := 12) hts inLW_X11 (hts _ lw_1_1); exact ⟨a, b, fun q hq => by cases hq; exact h⟩
    | 11 => obtain ⟨a, b, h⟩ := u_known (C := RX12) (T := TX12) (N := 61) (n := 61) hts inLW_X12 (hts _ lw_1_4); exact ⟨a, b, fun q hq => by cases hq; exact h⟩
    | k + 12 => exact ⟨0, fun _ => 0, fun q hq => by simp [vwCl] at hq⟩
  exact ⟨(fun k => Classical.choose (h k), fun k => Classical.choose (Classical.choose_spec (h k))), fun k q hq => Classical.choose_spec (Classical.choose_spec (h k)) q hq⟩
theorem aov_spec {s : State} {args : Array Value} {ty : FieldType} (h : (Cond.arrayOver (.array ty)).before args s = true) : ∃ (c : ClassId) (k : Class) (comp : ClassId), s.vm.findClass ("[" ++ (FieldType.array ty).toString) = some c ∧ s.vm.classes[c]? = some k ∧ k.kind = .array comp (.array ty) := by
  simp only [Cond.before, Cond.holds, Cond.value] at h
  cases h1 : s.vm.findClass (FieldType.array ty).toString with
  | none => simp [h1] at h
  | some comp =>
    simp only [h1, Option.bind_some] at h
    generalize hq : s.vm.classes.findIdx? _ = o at h
    cases o with
    | none => simp at h
    | some c =>
      simp only [Option.bind_some] at h
      cases h2 : s.vm.classes[c]? with
      | none => simp [h2] at h
      | some k =>
        simp only [h2, Option.map_some] at h
        cases h3 : k.kind with
        | array cp t =>
          simp only [h3] at h
          simp at h
          exact ⟨c, k, cp, h.2, h2, by rw [h3, h.1]⟩
        | _ => simp [h3] at h
theorem arr_of {s : State} {cA : ClassId} {k : Class} {comp : ClassId} {ty : FieldType} (h1 : s.vm.classes[cA]? = some k) (h2 : k.kind = .array comp ty) : ArrOfT s cA ty := fun N z => ⟨(fun k h => by cases h), k, h1, comp, h2⟩
theorem st_arr {s : State} {args : Array Value} (hts : ∀ w ∈ LW, w.before args s = true) (hov : (Cond.arrayOver (.array .int)).before args s = true) : ∃ cI cJ cZ cII : ClassId, ∀ (k : Nat) (q : ClassId × FieldType), ([(cI, FieldType.int), (cJ, .long), (cZ, .boolean), (cII, .array .int)] : List (ClassId × FieldType))[k]? = some q → ArrOfT s q.1 q.2 ∧ va_RA s q.1 q.2 := by
  obtain ⟨a1, k1, p1, f1, g1, h1⟩ := Cond.arrayClass_spec (hts _ lw_3_11)
  obtain ⟨a2, k2, p2, f2, g2, h2⟩ := Cond.arrayClass_spec (hts _ lw_1_6)
  obtain ⟨a3, k3, p3, f3, g3, h3⟩ := Cond.arrayClass_spec (hts _ lw_4_17)
  obtain ⟨a4, k4, p4, f4, g4, h4⟩ := aov_spec hov
  refine ⟨a1, a2, a3, a4, fun k q hq => ?_⟩
  match k, hq with
  | 0, hq => cases hq; exact ⟨arr_of g1 h1, f1⟩
  | 1, hq => cases hq; exact ⟨arr_of g2 h2, f2⟩
  | 2, hq => cases hq; exact ⟨arr_of g3 h3, f3⟩
  | 3, hq => cases hq; exact ⟨arr_of g4 h4, f4⟩
  | k + 4, hq => simp at hq
/-! LAW: the texts and statics at its entry -/
def gvL : List Cond := flatC (Jvm.Cond.and given_1 narrow_1)
def tmL (i : Nat) : Term := if i = 0 then .string RX6 158 else .string RX12 145
/-- the place of a text's first word, letter by letter behind it -/
def plL (i : Nat) : Nat := if i = 0 then 37 else 196
set_option maxRecDepth 100000 in
theorem gv_el0 : (List.range 119).map (fun j => gvL[41 + j]?) = (List.range 119).map (fun j => some (Cond.eq (.elem (.field (.string RX6 158) "java/lang/String" "value" "[B") (.int (Int32.ofNat j))) (.int ((txB.getD 0 []).getD j 0)))) := rfl
set_option maxRecDepth 100000 in
theorem gv_el1 : (List.range 119).map (fun j => gvL[200 + j]?) = (List.range 119).map (fun j => some (Cond.eq (.elem (.field (.string RX12 145) "java/lang/String" "value" "[B") (.int (Int32.ofNat j))) (.int ((txB.getD 1 []).getD j 0)))) := rfl
theorem map_at {α : Type} {f g : Nat → α} {n : Nat} (h : (List.range n).map f = (List.range n).map g) {j : Nat} (hj : j < n) : f j = g j := List.map_inj_left.mp h j (List.mem_range.mpr hj)
theorem gv_in {s : State} {args : Array Value} (h : (Jvm.Cond.and given_1 narrow_1).before args s = true) (i : Nat) {c : Cond} (hi : gvL[i]? = some c) : c.before args s = true := flat_of_before _ h c (List.mem_of_getElem? hi)
theorem st_txt {s : State} {args : Array Value} {A : Nat → Prop} (hA : ∀ a : Nat, a < s.heap.size → ¬ A a) (h : (Jvm.Cond.and given_1 narrow_1).before args s = true) : ∃ adK adV : Nat → Nat, vk_S 2 txL txB adK adV A s s.heap ∧ (Term.string RX6 158).eval args s none [] s = some (.ref (adK 0)) ∧ (Term.string RX12 145).eval args s none [] s = some (.ref (adK 1)) := by
  have two : ∀ {P : Nat → Prop}, P 0 → P 1 → ∀ i, i < 2 → P i := fun h0 h1 i hi => by
    rcases (show i = 0 ∨ i = 1 by omega) with rfl | rfl
    · exact h0
    · exact h1
  obtain ⟨adK, adV, h1, h2⟩ := vk_Sof (args := args) (s := s) (N := 2) (tm := tmL) (len := txL) (byt := txB) (A := A) (two (by decide) (by decide))
    (two (gv_in h 37 rfl) (gv_in h 196 rfl)) (two (gv_in h 38 rfl) (gv_in h 197 rfl)) (two (gv_in h 39 rfl) (gv_in h 198 rfl)) (two (gv_in h 40 rfl) (gv_in h 199 rfl))
    (two (fun j hj => gv_in h (41 + j) (map_at gv_el0 hj)) (fun j hj => gv_in h (200 + j) (map_at gv_el1 hj)))
    (fun i j hi hj ne => by
      rcases (show (i = 0 ∨ i = 1) by omega) with rfl | rfl <;> rcases (show (j = 0 ∨ j = 1) by omega) with rfl | rfl
      · exact absurd rfl ne
      · exact Or.inl (gv_in h 319 rfl)
      · exact Or.inr (gv_in h 319 rfl)
      · exact absurd rfl ne) hA
  exact ⟨adK, adV, h1, h2 0 (by decide), h2 1 (by decide)⟩
/-- what a text constant's cell is -/
theorem st_str {s : State} {args : Array Value} {own tx : String} {k i : Nat} (h : (Jvm.Cond.and given_1 narrow_1).before args s = true) (hi : gvL[i]? = some (Cond.exactly (.string own k) "java/lang/String")) (hr : (Cond.stringRef own k tx).before args s = true) : ∃ a : Nat, vk_R own k tx a s := by
  obtain ⟨a, _, _, _, h1, _⟩ := Cond.exactly_spec (gv_in h i hi)
  exact ⟨a, vk_R.of hr h1⟩
set_option maxRecDepth 100000 in
theorem tb_at : [lw_tbl[246]?, lw_tbl[595]?, lw_tbl[1179]?, lw_tbl[1214]?, lw_tbl[1442]?] = [some (Cond.arrayOver (.array .int)), some (Cond.stringRef RX6 158 "unit first fear lose weigh village district land shrine rail water ones others shrines rails heads villages not and or "), some (Cond.stringRef RX11 201 "no such draft"), some (Cond.stringRef RX11 211 "no such what"), some (Cond.stringRef RX12 145 "unit first weigh fear lose village district land shrine rail water or and not ones others shrines rails heads villages ")] := rfl
def wkL : List Cond := [.methodLinkNest RX0 84 yX11_shareUp "AwardLine", .methodLinkNest RX2 79 yX11_leastOf "AwardLine", .methodLinkNest RX2 101 yX11_shareUp "AwardLine", .methodLinkNest RX11 12 yX5_init "AwardLine", .methodLinkNest RX11 26 yX6_init "AwardLine", .methodLinkNest RX11 55 yX1_init "AwardLine", .laysStatic "java/lang/String" "COMPACT_STRINGS" "Z", .initialized "java/lang/String", .laysStatic "jdk/internal/util/Preconditions" "SIOOBE_FORMATTER" "Ljava/util/function/BiFunction;", .initialized "jdk/internal/util/Preconditions", .laysStatic Bundle.tN "UNASSIGNED_STACK" Bundle.steD, .laysStatic Bundle.tN "SUPPRESSED_SENTINEL" Bundle.listD, .initialized Bundle.tN]
set_option maxRecDepth 100000 in
theorem wkL_tbl : ∀ w ∈ wkL, w ∈ lw_tbl := mem_pl [812, 1085, 1103, 199, 275, 374, 605, 112, 621, 114, 1166, 1168, 117] rfl
theorem LVn_tbl : ∀ w ∈ LVn, w ∈ lw_tbl := mem_pl [1143, 1145, 1147, 1141, 1143, 1145, 1147, 1207] (by decide +kernel)
theorem st_env {s : State} {args : Array Value} {A : Nat → Prop} (hA : ∀ a : Nat, a < s.heap.size → ¬ A a) (htb : ∀ w ∈ lw_tbl, w.before args s = true) (hgv : (Jvm.Cond.and given_1 narrow_1).before args s = true) : ∃ (D : va_G) (N : Nm) (sa sb : Nat), va_K D vwCl (tysG N) s ∧ envOK N A s ∧ lkOK sa sb A s ∧ aoa s := by
  have hts : ∀ w ∈ LW, w.before args s = true := fun w h => htb w (LW_tbl w h)
  have hwk : ∀ (i : Nat) {c : Cond}, wkL[i]? = some c → c.before args s = true := fun i c h => htb c (wkL_tbl c (List.mem_of_getElem? h))
  have t := tb_at
  simp only [List.cons.injEq, and_true] at t
  obtain ⟨t1, t2, t3, t4, t5⟩ := t
  have hov := htb _ (List.mem_of_getElem? t1)
  obtain ⟨D, hD⟩ := st_kn hts
  obtain ⟨cI, cJ, cZ, cII, hAr⟩ := st_arr hts hov
  obtain ⟨adK, adV, hS, hk0, hk1⟩ := st_txt hA hgv
  obtain ⟨sa, hsa⟩ := st_str (i := 160) hgv rfl (htb _ (List.mem_of_getElem? t3))
  obtain ⟨sb, hsb⟩ := st_str (i := 178) hgv rfl (htb _ (List.mem_of_getElem? t4))
  refine ⟨D, (fun _ => 0, fun _ => 0, cI, cJ, cZ, cII, adK, adV), sa, sb, ⟨hD, hAr⟩, ⟨fun q hq => ?_, hS, vk_R.of (htb _ (List.mem_of_getElem? t2)) hk0, vk_R.of (htb _ (List.mem_of_getElem? t5)) hk1, va_Zof (hwk 6 rfl) (hwk 7 rfl) (va_eqi (gv_in hgv 4 rfl)) hA, va_Zqof (hwk 8 rfl) (hwk 9 rfl) (gv_in hgv 5 rfl) hA⟩, ⟨hsa, hsb, vx_Zqof (hwk 10 rfl) (hwk 12 rfl) (gv_in hgv 9 rfl) hA, vx_Zqof (hwk 11 rfl) (hwk 12 rfl) (gv_in hgv 10 rfl) hA, fun w hw => va_tabs (dc_on (LVn_dc w hw)) rfl (htb w (LVn_tbl w hw)), va_Nc.of (gv_in hgv 23 rfl)⟩, ⟨hov, fun q hq => ?_⟩⟩
  · simp only [nwC, List.mem_cons, List.not_mem_nil, or_false] at hq
    rcases hq with rfl | rfl | rfl
    · exact va_tabs rfl rfl (hwk 0 rfl)
    · exact va_tabs rfl rfl (hwk 1 rfl)
    · exact va_tabs rfl rfl (hwk 2 rfl)
  · simp only [nwI, List.mem_cons, List.not_mem_nil, or_false] at hq
    rcases hq with rfl | rfl | rfl
    · exact va_tabs rfl rfl (hwk 3 rfl)
    · exact va_tabs rfl rfl (hwk 4 rfl)
    · exact va_tabs rfl rfl (hwk 5 rfl)
