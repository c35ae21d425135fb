/-! LOOK: what a throw stands on -/
def xI : String := "java/lang/IndexOutOfBoundsException"
def xN : String := "java/util/NoSuchElementException"
def xP : List String := ["java/lang/RuntimeException", "java/lang/Exception"]
/-- NoSuchElementException(String): its super by the index 13 -/
def rN : ByteArray := ⟨#[0x2a, 0x2b, 0xb7, 0x00, 0x0d, 0xb1]⟩
/-- the two throws' words that a callee takes over -/
def LV : List Cond := (vx_atS RX11 203 xI xP).filter goodWord ++ (vy_atS RX11 213 xN 13 rN xP).filter goodWord
/-- and the others -/
def LVn : List Cond := (vx_atS RX11 203 xI xP).filter (fun w => !goodWord w) ++ (vy_atS RX11 213 xN 13 rN xP).filter (fun w => !goodWord w)
theorem LV_good : ∀ w ∈ LV, (w.onTables && w.keeps) = true ∨ ∃ ty, w = .arrayClass ty := fun w h => good_of_word (List.all_eq_true.mp (by decide +kernel : LV.all goodWord = true) w h)
def isDC (w : Cond) : Bool := match w with
  | .declares _ => true
  | .castable _ _ => true
  | _ => false
theorem LVn_dc : ∀ w ∈ LVn, isDC w = true := List.all_eq_true.mp (by decide +kernel : LVn.all isDC = true)
theorem dc_on {w : Cond} (h : isDC w = true) : w.onTables = true := by
  cases w <;> first | rfl | cases h
theorem nw_warm {w : Cond} {s U : State} (hd : isDC w = true) (hW : s.WarmedH U.vm) (hZ : va_Nw w s) : va_Nw w U := by
  cases w with
  | declares x => exact va_tabs rfl (rfl : (s.setVm U.vm).vm = U.vm) (by rw [Cond.declares_setVm hW.alike]; exact hZ)
  | castable C T => exact va_Nw.warmC hW hZ
  | _ => cases hd
/-- the texts of the two exceptions, Throwable's two statics, the other words -/
def lkOK (sa sb : Nat) (A : Nat → Prop) (U : State) : Prop := vk_R RX11 201 "no such draft" sa U ∧ vk_R RX11 211 "no such what" sb U ∧ vx_Zq Bundle.tN "UNASSIGNED_STACK" Bundle.steD A U U.heap ∧ vx_Zq Bundle.tN "SUPPRESSED_SENTINEL" Bundle.listD A U U.heap ∧ (∀ w ∈ LVn, va_Nw w U) ∧ va_Nc xN xI U
theorem lkOK.frame {sa sb : Nat} {A : Nat → Prop} {U : State} {g : JFrame} {mk : MethodId} {a : Array Value} (z : lkOK sa sb A U) : lkOK sa sb A (U.calling g mk a) := by
  obtain ⟨z1, z2, z3, z4, z5, z6⟩ := z
  exact ⟨vk_R.same (u := U) (U := U.calling g mk a) rfl z1, vk_R.same (u := U) (U := U.calling g mk a) rfl z2, vx_Zq.moved (u := U) (U := U.calling g mk a) (Vm.Alike.refl U.vm) z3, vx_Zq.moved (u := U) (U := U.calling g mk a) (Vm.Alike.refl U.vm) z4, fun w hw => va_tabs (u := U) (U := U.calling g mk a) (dc_on (LVn_dc w hw)) rfl (z5 w hw), va_Nc.moved (u := U) (U := U.calling g mk a) (Vm.Alike.refl U.vm) z6⟩
theorem lkOK.call {sa sb : Nat} {A B : Nat → Prop} {s U : State} {H : Heap} {locs : List Loc} (z : lkOK sa sb A s) (hS : va_S A s.heap H locs) (hAB : ∀ q, B q → A q) (hU : U.heap = H) (hW : s.WarmedH U.vm) : lkOK sa sb B U := by
  obtain ⟨z1, z2, z3, z4, z5, z6⟩ := z
  subst hU
  exact ⟨z1.warm hW, z2.warm hW, ((z3.kept hS.2.1).narrow hAB).moved hW.alike, ((z4.kept hS.2.1).narrow hAB).moved hW.alike, fun w hw => nw_warm (LVn_dc w hw) hW (z5 w hw), va_Nc.moved hW.alike z6⟩
theorem at_of {args : Array Value} {s : State} {L : List Cond} (h1 : ∀ w ∈ L.filter goodWord, w.before args s = true) (h2 : ∀ w ∈ L.filter (fun w => !goodWord w), w.before args s = true) : ∀ w ∈ L, w.before args s = true := by
  intro w hw
  cases hg : goodWord w with
  | true => exact h1 w (List.mem_filter.mpr ⟨hw, hg⟩)
  | false => exact h2 w (List.mem_filter.mpr ⟨hw, by rw [hg]; rfl⟩)
/-- AwardLine.look -/
def rm_X11_look : Room := { frames := 20, cells := 1, slots := 6, locals := 1000 }
/-- what it answers, and what it throws -/
def lkR (z : St) (hb a b r : Int32) : Prop := hb = 1 ∧ ((b = 0 ∧ r = z.2.1 28 a.toNatClampNeg) ∨ (b = 1 ∧ r = z.2.1 29 a.toNatClampNeg))
def lkE (hb b : Int32) (E : String) : Prop := (hb = 0 ∧ E = xI) ∨ (hb = 1 ∧ ¬ b = 0 ∧ ¬ b = 1 ∧ E = xN)
set_option maxHeartbeats 4000000 in
set_option maxRecDepth 100000 in
theorem n_X11_look (l : Launch) (hl : l.stackTraces = false) (D : va_G) (N : Nm) (z : St) (a b hb : Int32) (hh : f_X1_has z a = some (hb, z)) (h01 : hb = 0 ∨ hb = 1) (hia : hb = 1 → vp_in a 12) (sa sb sz : Nat) : vx_Met l yX11_look (Cond.code yX11_look cX11_look 3 (some .int) :: (LW ++ LV)) rm_X11_look (va_Pc [.ref (N.1 0), .int a, .int b] (fun U => U.heap.size = sz ∧ va_P D vwCl (wC N z) U.heap ∧ va_K D vwCl (tysG N) U ∧ va_D (fun _ => True) (wC N z) ∧ envOK N (va_A (wC N z) sz) U ∧ lkOK sa sb (va_A (wC N z) sz) U)) (va_Qi (fun r (_ : Unit) => lkR z hb a b r) (fun (_ : Unit) t => va_P D vwCl (wC N z) t.heap ∧ va_D (va_A (wC N z) sz) (wC N z)) (va_A (wC N z) sz)) (vx_X (fun (_ : Unit) => True) (fun E _ t => lkE hb b E ∧ va_P D vwCl (wC N z) t.heap ∧ va_D (va_A (wC N z) sz) (wC N z)) (va_A (wC N z) sz)) 1 6 (va_A (wC N z) sz) := by
  refine vx_ofW (cc := cX11_look) (maxL := 3) (ret := some .int) (by decide) rfl ?_
  intro p e s m args below meth c s₁ B hml htab hv
  obtain ⟨rfl, hsz, hP, hK, hD0, hnw, hlk⟩ := hv
  have hown : s.vm.findClass RX11 = some m.cls := findClass_of_methodNamed B.named
  have hlocks := B.notSynchronized
  have hx := B.exec
  have hbb := B.bytes
  have hr := B.returns
  subst hsz
  have hD := hD0.self (sz := s.heap.size)
  have hls := lv_entry [.ref (N.1 0), .int a, .int b] (n := 3) (Nat.le_of_ble_eq_true rfl)
  rw [lg_entry_eq]
  have hts : ∀ w ∈ LW ++ LV, w.before [Value.ref (N.1 0), .int a, .int b].toArray s = true := fun w h => atoms_spec (ws := Cond.code yX11_look cX11_look 3 (some .int) :: (LW ++ LV)) B.pre w (List.mem_cons_of_mem _ h)
  have C : Cx p rm_X11_look s m [Value.ref (N.1 0), .int a, .int b].toArray c D (va_A (wC N z) s.heap.size) cX11_look 3 RX11 rm_X11_look N := ⟨hx, hbb, hml, hown, fun w h => hts w (List.mem_append_left _ h), hK, rfl, fun q h => Or.inr h, hnw⟩
  obtain ⟨k1, k2, k3, k4, k5, k6⟩ := hlk
  have hat1 : ∀ w ∈ vx_atS RX11 203 xI xP, w.before [Value.ref (N.1 0), .int a, .int b].toArray s = true := at_of (fun w h => hts w (List.mem_append_right _ (List.mem_append_left _ h))) (fun w h => va_tabs (dc_on (LVn_dc w (List.mem_append_left _ h))) rfl (k5 w (List.mem_append_left _ h)))
  have hat2 : ∀ w ∈ vy_atS RX11 213 xN 13 rN xP, w.before [Value.ref (N.1 0), .int a, .int b].toArray s = true := at_of (fun w h => hts w (List.mem_append_right _ (List.mem_append_right _ h))) (fun w h => va_tabs (dc_on (LVn_dc w (List.mem_append_right _ h))) rfl (k5 w (List.mem_append_right _ h)))
  generalize hA : va_A (wC N z) s.heap.size = A at *
  generalize hQ : vx_MQ below (va_Qi (fun r (_ : Unit) => lkR z hb a b r) (fun (_ : Unit) t => va_P D vwCl (wC N z) t.heap ∧ va_D A (wC N z)) A) (vx_X (fun (_ : Unit) => True) (fun E _ t => lkE hb b E ∧ va_P D vwCl (wC N z) t.heap ∧ va_D A (wC N z)) A) [Value.ref (N.1 0), .int a, .int b].toArray s 1 6 A = Q
  have hE : ∀ r, lkR z hb a b r → En p l e rm_X11_look s m [Value.ref (N.1 0), .int a, .int b].toArray below meth c Q D A cX11_look .ireturn (wC N z) [.int r] := by
    intro r hrr H locs ls pc hP9 hD9 hS9 hdg
    rw [← hQ]
    refine W.widen (k := 1) (n := 6) (by omega) (by omega) (vx_ret ?_)
    exact W.iret (v := r) hx hbb hr (fun t ht hW => ⟨⟨r, (), rfl, hrr, by rw [ht]; exact hP9, hD9⟩, hS9.F ht⟩) hS9.2.2 hdg
  have hT : ∀ (H : Heap) (locs : List Loc) (E : String), lkE hb b E → va_P D vwCl (wC N z) H → va_D A (wC N z) → va_S A s.heap H locs → ∀ t : State, s.vm.Alike t.vm → H.size ≤ t.heap.size → (∀ q : Nat, q < H.size → t.heap[q]? = H[q]?) → vx_X (fun (_ : Unit) => True) (fun E _ t => lkE hb b E ∧ va_P D vwCl (wC N z) t.heap ∧ va_D A (wC N z)) A E s t := by
    intro H locs E hEE hP9 hD9 hS9 t _ h2 h3
    refine ⟨(), trivial, ⟨hEE, hP9.kept (fun k x hx => h3 x.1 ((hP9 k x hx).lt)), hD9⟩, Nat.le_trans hS9.1 h2, fun q q1 q2 => (h3 q (Nat.lt_of_lt_of_le q1 hS9.1)).trans (hS9.2.1 q q1 q2)⟩
  have K : Aw p l e rm_X11_look s m [Value.ref (N.1 0), .int a, .int b].toArray below meth c Q D A 3 (wC N z) 0 [(0, .ref (N.1 0)), (1, .int a), (2, .int b)] [] := by
    refine aw_aload_n C 0 dX11_look_0 rfl ?_
    refine cg_aw_drafts C lw_2_14 dX11_look_1 ?_
    refine aw_iload_n C 1 dX11_look_4 rfl ?_
    refine aw_callVi (n := 1) (As := [.int a]) (rest := []) (q0 := 7) C (c_X1_has l D N z z a hb hh) lw_25_19 lw_25_20 lw_25_21 lw_2_13 lw_25_22 rfl rfl (by decide +kernel) ⟨Nat.le_of_ble_eq_true rfl, Nat.le_of_ble_eq_true rfl⟩ rfl rfl rfl rfl rfl (Nat.le_of_ble_eq_true rfl) dX11_look_5 ?_
    refine aw_if_ne C dX11_look_8 (by decide) (tgt := 21) (fun q => ?_) (fun q => ?_)
    · have hb1 : hb = 1 := h01.resolve_left q
      have hi := hia hb1
      refine aw_iload_n C 2 dX11_look_21 rfl ?_
      by_cases q0 : b = (0 : Int32)
      · refine aw_lookup (tgt := 48) C 26 dX11_look_22 (by decide) (by rw [q0]; decide) (by decide) ?_
        refine aw_aload_n C 0 dX11_look_48 rfl ?_
        refine cg_aw_drafts C lw_2_14 dX11_look_49 ?_
        refine cg_dr_line C lw_37_3 dX11_look_52 ?_
        refine aw_iload_n C 1 dX11_look_55 rfl ?_
        refine ca_iald C (by decide) rfl hi dX11_look_56 ?_
        exact aw_ret (hE _ ⟨hb1, Or.inl ⟨q0, rfl⟩⟩) dX11_look_57
      by_cases q1 : b = (1 : Int32)
      · refine aw_lookup (tgt := 58) C 36 dX11_look_22 (by decide) (by rw [q1]; decide) (by decide) ?_
        refine aw_aload_n C 0 dX11_look_58 rfl ?_
        refine cg_aw_drafts C lw_2_14 dX11_look_59 ?_
        refine cg_dr_day C lw_25_15 dX11_look_62 ?_
        refine aw_iload_n C 1 dX11_look_65 rfl ?_
        refine ca_iald C (by decide) rfl hi dX11_look_66 ?_
        exact aw_ret (hE _ ⟨hb1, Or.inr ⟨q1, rfl⟩⟩) dX11_look_67
      · refine aw_lookup (tgt := 68) C 46 dX11_look_22 (by decide) (by have n0 := sw_ne (k := 0) (by decide) q0; have n1 := sw_ne (k := 1) (by decide) q1; simp only [Op.lookupswitch.offset]; rw [if_neg (fun e => n0 e.symm)]; rw [if_neg (fun e => n1 e.symm)]) (by decide) ?_
        intro H locs ls hP9 hD9 hS9 hv9
        rw [← hQ]
        exact vy_throwS (ix := 13) (rx := rN) (own := RX11) (cls := xN) (text := "no such what") (names := xP) (ik := 209) (is := 211) (ic := 213) (sa := sb) (A := A) (cc := cX11_look) hx hbb hl (by decide +kernel) (by decide +kernel) (by decide +kernel) (by decide +kernel) hown (by decide +kernel) (by decide +kernel) (hts _ (List.mem_append_left _ lw_37_1)) (hts _ (List.mem_append_left _ lw_37_2)) k2 hat2 (by decide +kernel) k3 k4 hS9 (hv9.1.trans hml.symm) dX11_look_68 dX11_look_71 dX11_look_72 dX11_look_74 dX11_look_77 (fun x hx => (htab x hx).elim) (Nat.le_of_ble_eq_true rfl) (Nat.le_of_ble_eq_true rfl) (Nat.le_of_ble_eq_true rfl) (Nat.le_of_ble_eq_true rfl) hlocks (hT H locs xN (Or.inr ⟨hb1, q0, q1, rfl⟩) hP9 hD9 hS9) hS9.2.2 (Nat.le_refl _) (Nat.le_refl _)
    · intro H locs ls hP9 hD9 hS9 hv9
      rw [← hQ]
      exact vx_throwS (own := RX11) (cls := xI) (text := "no such draft") (names := xP) (ik := 199) (is := 201) (ic := 203) (sa := sa) (A := A) (cc := cX11_look) hx hbb hl hown (by decide +kernel) (by decide +kernel) (hts _ (List.mem_append_left _ lw_36_23)) (hts _ (List.mem_append_left _ lw_37_0)) k1 hat1 (by decide +kernel) k3 k4 hS9 (hv9.1.trans hml.symm) dX11_look_11 dX11_look_14 dX11_look_15 dX11_look_17 dX11_look_20 (fun x hx => (htab x hx).elim) (Nat.le_of_ble_eq_true rfl) (Nat.le_of_ble_eq_true rfl) (Nat.le_of_ble_eq_true rfl) (Nat.le_of_ble_eq_true rfl) hlocks (hT H locs xI (Or.inl ⟨q, rfl⟩) hP9 hD9 hS9) hS9.2.2 (Nat.le_refl _) (Nat.le_refl _)
  exact K s.heap [] _ hP hD va_S.rf hls
