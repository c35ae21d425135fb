/-! ===== BEGIN new T[n][m]: the outer array a place, the inner ones among the pooled ===== -/
/-- f, but v at every address of l -/
def vr_up {α : Type} (f : Nat → α) (l : List Nat) (v : α) : Nat → α := fun a => if a ∈ l then v else f a
theorem vr_up_in {α : Type} {f : Nat → α} {l : List Nat} {v : α} {a : Nat} (h : a ∈ l) : vr_up f l v a = v := if_pos h
theorem vr_up_ne {α : Type} {f : Nat → α} {l : List Nat} {v : α} {a : Nat} (h : a ∉ l) : vr_up f l v a = f a := if_neg h
theorem vr_rows {L l : List Nat} {f : Nat → va_E} {e : va_E} (h : ∀ a, a ∈ l → a ∉ L) : va_pl L f ++ l.map (fun a => (a, e)) = va_pl (L ++ l) (vr_up f l e) := by
  unfold va_pl
  rw [List.map_append]
  congr 1
  · apply List.map_congr_left
    intro a ha
    rw [vr_up_ne (fun q => h a q ha)]
  · apply List.map_congr_left
    intro a ha
    rw [vr_up_in ha]
theorem vr_lay {X rows : va_W} {x : Nat × va_E} {pl : va_W} {D : va_G} {cl : List vw_C} {H : Heap} (hP : va_P D cl (((X ++ pl) ++ [x]) ++ rows) H) : va_P D cl ((X ++ [x]) ++ (pl ++ rows)) H := by
  rw [List.append_assoc (X ++ pl)] at hP
  have h := va_P.swap hP
  rw [← List.append_assoc X] at h
  have h2 := va_P.swap h
  rw [List.append_assoc (X ++ [x])] at h2
  exact h2
theorem vr_layD {X rows : va_W} {x : Nat × va_E} {pl : va_W} {A : Nat → Prop} (hD : va_D A (((X ++ pl) ++ [x]) ++ rows)) : va_D A ((X ++ [x]) ++ (pl ++ rows)) := by
  rw [List.append_assoc (X ++ pl)] at hD
  have h := va_D.swap hD
  rw [← List.append_assoc X] at h
  have h2 := va_D.swap h
  rw [List.append_assoc (X ++ [x])] at h2
  exact h2
theorem vr_outer (c : ClassId) (N h0 : Nat) : ∀ i : Nat, Jvm.Free.Multi.outerC c N h0 i = arrV c N (fun j => va_rf (if j < i then some (h0 + 1 + j) else none))
  | 0 => by
    show ({ cls := c, slots := Array.replicate N .null, vm := .none } : Cell) = _
    rw [arrV_new]
    refine congrArg (arrV c N) (funext fun j => ?_)
    simp [va_rf]
  | i + 1 => by
    show (Jvm.Free.Multi.outerC c N h0 i).setSlot i (.ref (h0 + 1 + i)) = _
    rw [vr_outer c N h0 i, arrV_store]
    refine congrArg (arrV c N) (funext fun j => ?_)
    by_cases e : j = i
    · subst e
      simp [updV, va_rf]
    · by_cases h : j < i
      · simp [updV, e, h, Nat.lt_succ_of_lt h]
      · simp [updV, e, h, show ¬ j < i + 1 by omega]
section VGM
variable {p : Program} {l : Launch} {e : Env} {R : Room} {s : State} {m : MethodId} {args : Array Value} {below : List Frame} {meth : Method} {c : Code} {H : Heap} {locs : List Loc} {cells slots : Nat} {Q : State → Prop}
variable {cc : ByteArray} {pc : Nat} {ls : Array Slot} {rest : List Value} {D : va_G} {cl : List vw_C} {A : Nat → Prop} {a : Nat} {tys : List (ClassId × FieldType)} {ws : va_W} {H0 : Heap}
theorem va_mna {X : va_W} {L : List Nat} {f : Nat → va_E} {cc : ByteArray} (hexec : p.tables.exec = Jvm.exec) (hb : c.code = cc) {own : String} {index : Nat} {ty : FieldType} {cy : ClassId} (hown : s.vm.findClass own = some m.cls) (hclink : (Cond.classLink own index ("[" ++ (FieldType.array ty).toString)).before args s = true) (hover : (Cond.arrayOver (.array ty)).before args s = true) (harr : (Cond.arrayClass ty).before args s = true) (hcy : s.vm.findClass (FieldType.array ty).toString = some cy)
    (hK : va_K D cl tys s) (hP : va_P D cl (X ++ va_pl L f) H) (hD : va_D A (X ++ va_pl L f)) (hS : va_S A H0 H locs) (hA : ∀ q, H0.size ≤ q → A q) {n k : Int32} {N' K' : Nat} {z : vp_A} (hn : ¬ n < 0) (hk : ¬ k < 0) (hN : n.toNatClampNeg = N') (hM : k.toNatClampNeg = K')
    (hb1 : N' * 4 ≤ 536870912) (hb2 : K' * componentBytes ty ≤ 536870912) (hb3 : K' ≤ 536870912) (hdf : fits ty (defaultValue ty) = true) (hdd : (defaultValue ty).isDefault = true) (hcells : cells + (1 + N') ≤ R.cells) (hslots : slots + (N' + N' * K') ≤ R.slots) (hz : ∀ c : ClassId, Jvm.Free.Multi.innerC c K' (defaultValue ty) = vp_cell c z) (hdg : decode cc pc = .ok (.multianewarray index 2, 4))
    (kk : ∀ (q : Nat) (r : Nat → Nat) (cA : ClassId) (H1 : Heap), (∀ i j : Nat, i < N' → j < N' → r i = r j → i = j) → (∀ i : Nat, i < N' → r i ∉ L) → va_K D cl (tys ++ [(cA, .array ty)]) s →
      va_P D cl ((X ++ [(q, .inl (cA, N', .inr (.inr (.inr (.inr (fun i => if i < N' then some (r i) else none))))))]) ++ va_pl (L ++ (List.range N').map r) (vr_up f ((List.range N').map r) (.inl (cy, z)))) H1 → va_D A ((X ++ [(q, .inl (cA, N', .inr (.inr (.inr (.inr (fun i => if i < N' then some (r i) else none))))))]) ++ va_pl (L ++ (List.range N').map r) (vr_up f ((List.range N').map r) (.inl (cy, z)))) → va_S A H0 H1 locs →
      W p l e R s m args below meth c H1 locs (cells + 1 + N') (slots + N' + N' * K') Q (F0 m (pc + 4) ls (.ref q :: rest))) : W p l e R s m args below meth c H locs cells slots Q (F0 m pc ls (.int k :: .int n :: rest)) := by
  subst hN
  subst hM
  intro T hT Xs
  obtain ⟨vm₁, cA, comp, -, fA, fC, hO, -, X', step⟩ := Xs.multianewarray2F hexec hown hclink hover harr (g := F0 m pc ls (.int k :: .int n :: rest)) rfl (by rw [hb]; exact hdg) rfl hn hk hb1 hb2 hb3 hdf hdd hcells hslots
  have ec : some cy = some comp := hcy.symm.trans fC
  cases ec
  generalize hF : Jvm.Free.Multi.fill (T.setVm vm₁) cA cy n.toNatClampNeg k.toNatClampNeg (defaultValue ty) n.toNatClampNeg = F at X' step
  have hTh : (T.setVm vm₁).heap = H := hT
  obtain ⟨f1, f2, -, -⟩ := Jvm.Free.Multi.fill_facts (T.setVm vm₁) cA cy n.toNatClampNeg k.toNatClampNeg (defaultValue ty) n.toNatClampNeg
  rw [hF, hTh] at f1 f2
  have hold : ∀ x : Nat, x < H.size → F.heap[x]? = H[x]? := fun x hx => by
    have := Jvm.Free.Multi.fill_old (T.setVm vm₁) cA cy n.toNatClampNeg k.toNatClampNeg (defaultValue ty) (a := x) (by rw [hTh]; exact hx) n.toNatClampNeg
    rw [hF, hTh] at this
    exact this
  have hrow : ∀ j : Nat, j < n.toNatClampNeg → F.heap[H.size + 1 + j]? = some (vp_cell cy z) := fun j hj => by
    have := Jvm.Free.Multi.fill_inner (T.setVm vm₁) cA cy n.toNatClampNeg k.toNatClampNeg (defaultValue ty) n.toNatClampNeg j hj
    rw [hF, hTh, hz] at this
    exact this
  have hout : Jvm.Free.Multi.outerC cA n.toNatClampNeg H.size n.toNatClampNeg = vp_cell cA (n.toNatClampNeg, .inr (.inr (.inr (.inr (fun i => if i < n.toNatClampNeg then some (H.size + 1 + i) else none))))) := by
    rw [vp_cell_q]
    exact vr_outer cA n.toNatClampNeg H.size n.toNatClampNeg
  rw [hout] at f2
  have hlt : ∀ a, a ∈ L → a < H.size := fun a ha => by
    obtain ⟨k9, hk9⟩ := va_pl_get (X := X) (f := f) ha
    exact (hP k9 _ hk9).lt
  have hnl : ∀ i : Nat, i < n.toNatClampNeg → H.size + 1 + i ∉ L := fun i _ h => by
    have := hlt _ h
    omega
  have hnm : ∀ a, a ∈ (List.range n.toNatClampNeg).map (fun i => H.size + 1 + i) → a ∉ L := fun a ha h => by
    obtain ⟨i, -, rfl⟩ := List.mem_map.mp ha
    have := hlt _ h
    omega
  have hP0 : va_P D cl (X ++ va_pl L f) F.heap := hP.kept (fun k9 x hx => hold x.1 ((hP k9 x hx).lt))
  have hP1 : va_P D cl ((X ++ va_pl L f) ++ [(H.size, .inl (cA, n.toNatClampNeg, .inr (.inr (.inr (.inr (fun i => if i < n.toNatClampNeg then some (H.size + 1 + i) else none))))))]) F.heap := hP0.app (fun k9 x hx => by
    have h0 : k9 < 1 := (List.getElem?_eq_some_iff.mp hx).1
    rw [show k9 = 0 by omega] at hx
    cases hx
    exact f2)
  have hP2 : va_P D cl (((X ++ va_pl L f) ++ [(H.size, .inl (cA, n.toNatClampNeg, .inr (.inr (.inr (.inr (fun i => if i < n.toNatClampNeg then some (H.size + 1 + i) else none))))))]) ++ ((List.range n.toNatClampNeg).map (fun i => H.size + 1 + i)).map (fun a => (a, .inl (cy, z)))) F.heap := hP1.app (fun k9 x hx => by
    obtain ⟨a, ha, rfl⟩ := List.mem_map.mp (List.mem_of_getElem? hx)
    obtain ⟨i, hi, rfl⟩ := List.mem_map.mp ha
    exact hrow i (List.mem_range.mp hi))
  have hD2 : va_D A (((X ++ va_pl L f) ++ [(H.size, .inl (cA, n.toNatClampNeg, .inr (.inr (.inr (.inr (fun i => if i < n.toNatClampNeg then some (H.size + 1 + i) else none))))))]) ++ ((List.range n.toNatClampNeg).map (fun i => H.size + 1 + i)).map (fun a => (a, .inl (cy, z)))) := by
    have hD1 := hD.push (e := .inl (cA, n.toNatClampNeg, .inr (.inr (.inr (.inr (fun i => if i < n.toNatClampNeg then some (H.size + 1 + i) else none)))))) hP rfl (hA _ hS.1)
    generalize hW1 : (X ++ va_pl L f) ++ [(H.size, .inl (cA, n.toNatClampNeg, .inr (.inr (.inr (.inr (fun i => if i < n.toNatClampNeg then some (H.size + 1 + i) else none))))))] = W1 at hD1 hP1 ⊢
    have hle : ∀ (k9 : Nat) (x : Nat × va_E), W1[k9]? = some x → x.1 ≤ H.size := fun k9 x hx => by
      rw [← hW1] at hx
      by_cases hl : k9 < (X ++ va_pl L f).length
      · rw [List.getElem?_append_left hl] at hx
        exact Nat.le_of_lt ((hP k9 x hx).lt)
      · rw [List.getElem?_append_right (by omega)] at hx
        have h0 : k9 - (X ++ va_pl L f).length < 1 := (List.getElem?_eq_some_iff.mp hx).1
        rw [show k9 - (X ++ va_pl L f).length = 0 by omega] at hx
        cases hx
        exact Nat.le_refl _
    have hr : ∀ (k9 : Nat) (x : Nat × va_E), (((List.range n.toNatClampNeg).map (fun i => H.size + 1 + i)).map (fun a => ((a, .inl (cy, z)) : Nat × va_E)))[k9]? = some x → x.1 = H.size + 1 + k9 := fun k9 x hx => by
      rw [List.getElem?_map, List.getElem?_map] at hx
      by_cases h9 : k9 < n.toNatClampNeg
      · rw [List.getElem?_range h9] at hx
        cases hx
        rfl
      · have hn0 : (List.range n.toNatClampNeg)[k9]? = none := List.getElem?_eq_none (by rw [List.length_range]; omega)
        rw [hn0] at hx
        cases hx
    refine ⟨fun i j x y hi hj hxy => ?_, fun k9 x hx => ?_⟩
    · by_cases h1 : i < W1.length <;> by_cases h2 : j < W1.length
      · rw [List.getElem?_append_left h1] at hi
        rw [List.getElem?_append_left h2] at hj
        exact hD1.1 i j x y hi hj hxy
      · rw [List.getElem?_append_left h1] at hi
        rw [List.getElem?_append_right (by omega)] at hj
        have := hle _ _ hi
        have := hr _ _ hj
        omega
      · rw [List.getElem?_append_right (by omega)] at hi
        rw [List.getElem?_append_left h2] at hj
        have := hle _ _ hj
        have := hr _ _ hi
        omega
      · rw [List.getElem?_append_right (by omega)] at hi hj
        have := hr _ _ hi
        have := hr _ _ hj
        omega
    · by_cases h1 : k9 < W1.length
      · rw [List.getElem?_append_left h1] at hx
        exact hD1.2 k9 x hx
      · rw [List.getElem?_append_right (by omega)] at hx
        have := hr _ _ hx
        exact hA _ (by have := hS.1; omega)
  have hAr : ArrOfT s cA (.array ty) := fun N9 z9 => by
    obtain ⟨-, k9, hk9, cm9, hkk9⟩ := (hO 0 0 0).1
    exact ⟨(fun q hq => by cases hq), k9, hk9, cm9, hkk9⟩
  have hK2 : va_K D cl (tys ++ [(cA, .array ty)]) s := ⟨hK.1, fun k9 x hx => by
    by_cases hl : k9 < tys.length
    · rw [List.getElem?_append_left hl] at hx
      exact hK.2 k9 x hx
    · rw [List.getElem?_append_right (by omega)] at hx
      have h0 : k9 - tys.length < 1 := (List.getElem?_eq_some_iff.mp hx).1
      rw [show k9 - tys.length = 0 by omega] at hx
      cases hx
      exact ⟨hAr, fA⟩⟩
  obtain ⟨t, a1, b1⟩ := kk H.size (fun i => H.size + 1 + i) cA F.heap (fun i j _ _ h => by have h9 : H.size + 1 + i = H.size + 1 + j := h; omega) hnl hK2 (by rw [← vr_rows hnm]; exact vr_lay hP2) (by rw [← vr_rows hnm]; exact vr_layD hD2) ⟨by rw [f1]; have := hS.1; omega, fun x h1 h2 => (hold x (Nat.lt_of_lt_of_le h1 hS.1)).trans (hS.2.1 x h1 h2), hS.2.2⟩ F rfl X'
  refine ⟨t, step t ?_, b1⟩
  have e : T.heap.size = H.size := by rw [hT]
  rw [e]
  exact a1
end VGM
/-! ===== END ===== -/
/-! MAKING: walks that make cells -/
/-- the private constructors of nest mates -/
def nwI : List (Nat × MethodName) := [(12, yX5_init), (26, yX6_init), (55, yX1_init)]
/-- rows of ints can be made; nest mates' constructors are linked -/
def aoa (U : State) : Prop := (Cond.arrayOver (.array .int)).before #[] U = true ∧ ∀ q ∈ nwI, va_Nw (.methodLinkNest RX11 q.1 q.2 "AwardLine") U
theorem aoa.frame {U : State} {g : JFrame} {mk : MethodId} {a : Array Value} (z : aoa U) : aoa (U.calling g mk a) := by
  have h : U.vm.Alike (U.calling g mk a).vm := Vm.Alike.refl U.vm
  exact ⟨over_moved (a := #[]) (a' := #[]) h z.1, fun q hq => va_Nw.same (u := U) (U := U.calling g mk a) rfl rfl (z.2 q hq)⟩
theorem aoa.warm {u U : State} (h : u.WarmedH U.vm) (z : aoa u) : aoa U := ⟨over_moved (a := #[]) (a' := #[]) h.alike z.1, fun q hq => va_Nw.warmM h (z.2 q hq)⟩
theorem pl_rows {f : Nat → va_E} {l : List Nat} {v : va_E} : va_pl l (vr_up f l v) = l.map (fun a => (a, v)) := by
  unfold va_pl
  apply List.map_congr_left
  intro a ha
  rw [vr_up_in ha]
/-- as Aw, but so many cells and slots were made -/
def Bw (p : Program) (l : Launch) (e : Env) (R : Room) (s : State) (m : MethodId) (args : Array Value) (below : List Frame) (meth : Method) (c : Code) (Q : State → Prop) (D : va_G) (A : Nat → Prop) (nL nc ns : Nat) (ws : va_W) (pc : Nat) (lv : List (Nat × Value)) (st : List Value) : Prop := ∀ (H : Heap) (locs : List Loc) (ls : Array Slot), va_P D vwCl ws H → va_D A ws → va_S A s.heap H locs → lv_has ls nL lv → W p l e R s m args below meth c H locs nc ns Q (F0 m pc ls st)
theorem va_ndD : ∀ l : List Nat, l.Nodup → va_nd l = true
  | [], _ => rfl
  | a :: l, h => by
    have h' := List.nodup_cons.mp h
    show (decide (a ∉ l) && va_nd l) = true
    rw [decide_eq_true h'.1, va_ndD l h'.2]; rfl
/-- behind a call whose cells stood in front -/
theorem join_front {A0 : Nat → Prop} {D : va_G} {cl : List vw_C} {wc wr w1 : va_W} {H H1 : Heap} (hP : va_P D cl (wc ++ wr) H) (hD : va_D A0 (wc ++ wr)) (hk : ∀ q : Nat, q < H.size → ¬ va_A wc H.size q → H1[q]? = H[q]?) (hF : ∀ q, va_A wc H.size q → A0 q) (hP1 : va_P D cl w1 H1) (hD1 : va_D (va_A wc H.size) w1) : va_P D cl (w1 ++ wr) H1 ∧ va_D A0 (w1 ++ wr) := by
  have h := va_join (wc := wc) (wr := wr) hP hD (List.range wc.length) ((List.range wr.length).map (· + wc.length)) ?_ ?_ ?_ ?_ hk hF hP1 hD1
  · exact ⟨va_P.swap (a := []) h.1, va_D.swap (a := []) h.2⟩
  · apply List.ext_getElem?
    intro i
    rw [List.getElem?_map, List.getElem?_map]
    by_cases hi : i < wc.length
    · rw [List.getElem?_range hi, Option.map_some, List.getElem?_append_left hi, List.getElem?_eq_getElem hi]; rfl
    · rw [List.getElem?_eq_none (by rw [List.length_range]; omega), List.getElem?_eq_none (by omega)]; rfl
  · apply List.ext_getElem?
    intro i
    rw [List.getElem?_map, List.getElem?_map, List.getElem?_map]
    by_cases hi : i < wr.length
    · rw [List.getElem?_range hi, Option.map_some, Option.map_some, List.getElem?_append_right (by omega), Nat.add_sub_cancel, List.getElem?_eq_getElem hi]; rfl
    · rw [List.getElem?_eq_none (by rw [List.length_range]; omega), List.getElem?_eq_none (by omega)]; rfl
  · apply va_ndD
    exact List.Pairwise.map _ (fun a b h => by show a + wc.length ≠ b + wc.length; omega) List.nodup_range
  · intro i hi
    obtain ⟨j, hj, rfl⟩ := List.mem_map.mp hi
    rw [List.mem_range]
    show ¬ j + wc.length < wc.length
    omega
/-- the contract of a constructor: world w0 before, one of 'post' behind, mc cells and ms slots made -/
def Metn (l : Launch) (y : MethodName) (Ts : List Cond) (rm : Room) (D : va_G) (N : Nm) (av : List Value) (w0 : va_W) (post : va_W → Prop) (mc ms : Nat) : Prop := ∀ sz : Nat, Met l y Ts rm (va_Pc av (fun U => U.heap.size = sz ∧ va_P D vwCl w0 U.heap ∧ va_K D vwCl (tysG N) U ∧ va_D (fun _ => True) w0 ∧ envOK N (va_A w0 sz) U ∧ aoa U)) (va_Qv post (fun (w1 : va_W) t => va_P D vwCl w1 t.heap ∧ va_D (va_A w0 sz) w1) (va_A w0 sz)) mc ms (va_A w0 sz)
/-- the end of a constructor -/
def Eb (p : Program) (l : Launch) (e : Env) (R : Room) (s : State) (m : MethodId) (args : Array Value) (below : List Frame) (meth : Method) (c : Code) (Q : State → Prop) (D : va_G) (A : Nat → Prop) (cc : ByteArray) (nc ns : Nat) (post : va_W → Prop) : Prop := ∀ (H : Heap) (locs : List Loc) (ls : Array Slot) (pc : Nat) (ws : va_W), post ws → va_P D vwCl ws H → va_D A ws → va_S A s.heap H locs → decode cc pc = .ok (.return_, 1) → W p l e R s m args below meth c H locs nc ns Q (F0 m pc ls [])
section BWL
variable {p : Program} {l : Launch} {e : Env} {R : Room} {s : State} {m : MethodId} {args : Array Value} {below : List Frame} {meth : Method} {c : Code} {Q : State → Prop} {D : va_G} {A : Nat → Prop} {cc : ByteArray} {nL nc ns : Nat} {own : String} {rm : Room} {N : Nm} {ws : va_W} {pc : Nat} {lv lv' : List (Nat × Value)} {rest : List Value}
theorem bw_eq {ws' : va_W} (h : ws = ws') (K : Bw p l e R s m args below meth c Q D A nL nc ns ws' pc lv rest) : Bw p l e R s m args below meth c Q D A nL nc ns ws pc lv rest := by subst h; exact K
theorem bw_n {nc' ns' : Nat} (h1 : nc = nc') (h2 : ns = ns') (K : Bw p l e R s m args below meth c Q D A nL nc' ns' ws pc lv rest) : Bw p l e R s m args below meth c Q D A nL nc ns ws pc lv rest := by subst h1 h2; exact K
theorem bw_swap {a b : va_W} (K : Bw p l e R s m args below meth c Q D A nL nc ns (b ++ a) pc lv rest) : Bw p l e R s m args below meth c Q D A nL nc ns (a ++ b) pc lv rest := fun H locs ls hP hD hS hv => K H locs ls (va_P.swap (a := []) hP) (va_D.swap (a := []) hD) hS hv
theorem bw_iconst (C : Cx p R s m args c D A cc nL own rm N) {n : Int} {v : Int32} (hdg : decode cc pc = .ok (.iconst n, 1)) (hv0 : Int32.ofInt n = v) (K : Bw p l e R s m args below meth c Q D A nL nc ns ws (pc + 1) lv (.int v :: rest)) : Bw p l e R s m args below meth c Q D A nL nc ns ws pc lv rest := fun H locs ls hP hD hS hv => lv_iconst C.1 C.2.1 hdg hv0 (K H locs ls hP hD hS hv)
theorem bw_bipush (C : Cx p R s m args c D A cc nL own rm N) {n : Int} {v : Int32} (hdg : decode cc pc = .ok (.bipush n, 2)) (hv0 : (Int8.ofInt n).toInt32 = v) (K : Bw p l e R s m args below meth c Q D A nL nc ns ws (pc + 2) lv (.int v :: rest)) : Bw p l e R s m args below meth c Q D A nL nc ns ws pc lv rest := fun H locs ls hP hD hS hv => lv_bipush C.1 C.2.1 hdg hv0 (K H locs ls hP hD hS hv)
theorem bw_sipush (C : Cx p R s m args c D A cc nL own rm N) {n : Int} {v : Int32} (hdg : decode cc pc = .ok (.sipush n, 3)) (hv0 : (Int16.ofInt n).toInt32 = v) (K : Bw p l e R s m args below meth c Q D A nL nc ns ws (pc + 3) lv (.int v :: rest)) : Bw p l e R s m args below meth c Q D A nL nc ns ws pc lv rest := fun H locs ls hP hD hS hv => lv_sipush C.1 C.2.1 hdg hv0 (K H locs ls hP hD hS hv)
theorem bw_aload_n (C : Cx p R s m args c D A cc nL own rm N) {k : Fin 4} {x : Nat} (j : Nat) (hdg : decode cc pc = .ok (.aload_n k, 1)) (hl : lv[j]? = some ((k : Nat), .ref x)) (K : Bw p l e R s m args below meth c Q D A nL nc ns ws (pc + 1) lv (.ref x :: rest)) : Bw p l e R s m args below meth c Q D A nL nc ns ws pc lv rest := fun H locs ls hP hD hS hv => lv_aload_n C.1 C.2.1 hdg rfl (lv_at hv j hl) (K H locs ls hP hD hS hv)
theorem bw_astore_n (C : Cx p R s m args c D A cc nL own rm N) {k : Fin 4} {i : Nat} {x : Nat} (ks : List Nat) (hdg : decode cc pc = .ok (.astore_n k, 1)) (hi : (k : Nat) = i) (hn : i < nL) (hl : lv_pick ((i, Value.ref x) :: lv.filter (fun q => !(q.1 == i) && !(q.1 + 1 == i && q.2.category == 2))) ks = lv') (K : Bw p l e R s m args below meth c Q D A nL nc ns ws (pc + 1) lv' rest) : Bw p l e R s m args below meth c Q D A nL nc ns ws pc lv (.ref x :: rest) := fun H locs ls hP hD hS hv => lv_astore_n C.1 C.2.1 hdg hi hv hn rfl (fun ls' h' => K H locs ls' hP hD hS (lv_sub h' ks hl))
theorem bw_aload (C : Cx p R s m args c D A cc nL own rm N) {i : Nat} {x : Nat} (j : Nat) (hdg : decode cc pc = .ok (.aload i, 2)) (hl : lv[j]? = some (i, .ref x)) (K : Bw p l e R s m args below meth c Q D A nL nc ns ws (pc + 2) lv (.ref x :: rest)) : Bw p l e R s m args below meth c Q D A nL nc ns ws pc lv rest := fun H locs ls hP hD hS hv => lv_aload C.1 C.2.1 hdg (lv_at hv j hl) (K H locs ls hP hD hS hv)
theorem bw_astore (C : Cx p R s m args c D A cc nL own rm N) {i : Nat} {x : Nat} (ks : List Nat) (hdg : decode cc pc = .ok (.astore i, 2)) (hn : i < nL) (hl : lv_pick ((i, Value.ref x) :: lv.filter (fun q => !(q.1 == i) && !(q.1 + 1 == i && q.2.category == 2))) ks = lv') (K : Bw p l e R s m args below meth c Q D A nL nc ns ws (pc + 2) lv' rest) : Bw p l e R s m args below meth c Q D A nL nc ns ws pc lv (.ref x :: rest) := fun H locs ls hP hD hS hv => lv_astore C.1 C.2.1 hdg hv hn rfl (fun ls' h' => K H locs ls' hP hD hS (lv_sub h' ks hl))
theorem bw_istore (C : Cx p R s m args c D A cc nL own rm N) {i : Nat} {x : Int32} (ks : List Nat) (hdg : decode cc pc = .ok (.istore i, 2)) (hn : i < nL) (hl : lv_pick ((i, Value.int x) :: lv.filter (fun q => !(q.1 == i) && !(q.1 + 1 == i && q.2.category == 2))) ks = lv') (K : Bw p l e R s m args below meth c Q D A nL nc ns ws (pc + 2) lv' rest) : Bw p l e R s m args below meth c Q D A nL nc ns ws pc lv (.int x :: rest) := fun H locs ls hP hD hS hv => lv_istore C.1 C.2.1 hdg hv hn rfl (fun ls' h' => K H locs ls' hP hD hS (lv_sub h' ks hl))
theorem bw_iload (C : Cx p R s m args c D A cc nL own rm N) {i : Nat} {x : Int32} (j : Nat) (hdg : decode cc pc = .ok (.iload i, 2)) (hl : lv[j]? = some (i, .int x)) (K : Bw p l e R s m args below meth c Q D A nL nc ns ws (pc + 2) lv (.int x :: rest)) : Bw p l e R s m args below meth c Q D A nL nc ns ws pc lv rest := fun H locs ls hP hD hS hv => lv_iload C.1 C.2.1 hdg (lv_at hv j hl) (K H locs ls hP hD hS hv)
theorem bw_dup (C : Cx p R s m args c D A cc nL own rm N) {va : Value} (hdg : decode cc pc = .ok (.dup, 1)) (hva : va.category = 1) (K : Bw p l e R s m args below meth c Q D A nL nc ns ws (pc + 1) lv (va :: va :: rest)) : Bw p l e R s m args below meth c Q D A nL nc ns ws pc lv (va :: rest) := fun H locs ls hP hD hS hv => lv_dup C.1 C.2.1 hdg hva (K H locs ls hP hD hS hv)
theorem bw_put (C : Cx p R s m args c D A cc nL own rm N) {ref Cn : String} {T : u_T} {nF ci index a : Nat} (q0 k : Nat) {fs : List Value} {v : Value} {ty : FieldType} (ty0 : Nat → FieldType) (hty : ∀ k, k < nF → parseFieldDescriptor (T k).2.2.1 = some (ty0 k)) (hnm : ∀ a, a < nF → ∀ b, b < nF → a ≠ b → (T a).2.1 ≠ (T b).2.1) (hin : ∀ w ∈ u_ws Cn T nF, w ∈ LW) (he : ws[q0]? = some (a, .inr (ci, fs))) (hc : vwCl[ci]? = some (Cn, T, nF)) (hk : k < nF) (hw : Cond.fieldLink own index ref (T k).2.1 (T k).2.2.1 ∈ LW) (href : (T k).1 = ref) (hfin : (T k).2.2.2 = false) (hd : ty0 k = ty) (hn : narrow ty v = v) (hfit : fits ty v = true) (hl : k < fs.length) (hdg : decode cc pc = .ok (.putfield index, 3)) (K : Bw p l e R s m args below meth c Q D A nL nc ns (ws.set q0 (a, .inr (ci, fs.set k v))) (pc + 3) lv rest) : Bw p l e R s m args below meth c Q D A nL nc ns ws pc lv (v :: .ref a :: rest) := fun H locs ls hP hD hS hv => va_put C.1 C.2.1 C.2.2.2.2.1 hin ty0 hty hnm C.2.2.2.1 C.2.2.2.2.2.1 hP hD hS q0 he hc k hk (C.2.2.2.2.1 _ hw) (fun _ h9 => href ▸ h9) hfin (hd ▸ hty k hk) hn hfit hl hdg (fun H1 locs1 hP1 hD1 hS1 => K H1 locs1 ls hP1 hD1 hS1 hv)
theorem bw_iast (C : Cx p R s m args c D A cc nL own rm N) (q0 t0 : Nat) {a : Nat} {cA : ClassId} {n : Nat} {f : Nat → Int32} (ha : ws[q0]? = some (a, .inl (cA, n, .inl f))) (ht : (tysG N)[t0]? = some (cA, .int)) {i : Int32} {x : Int32} (hin : vp_in i n) (hdg : decode cc pc = .ok (.iastore, 1)) (K : Bw p l e R s m args below meth c Q D A nL nc ns (ws.set q0 (a, .inl (cA, n, .inl (upd f i.toNatClampNeg x)))) (pc + 1) lv rest) : Bw p l e R s m args below meth c Q D A nL nc ns ws pc lv (.int x :: .int i :: .ref a :: rest) := fun H locs ls hP hD hS hv => va_iast C.1 C.2.1 C.2.2.2.2.2.1 hP hD hS q0 t0 ha ht hin hdg (fun H1 locs1 hP1 hD1 hS1 => K H1 locs1 ls hP1 hD1 hS1 hv)
theorem bw_sub (ks : List Nat) (hl : lv_pick lv ks = lv') (K : Bw p l e R s m args below meth c Q D A nL nc ns ws pc lv' rest) : Bw p l e R s m args below meth c Q D A nL nc ns ws pc lv rest := fun H locs ls hP hD hS hv => K H locs ls hP hD hS (lv_sub hv ks hl)
theorem bw_putF (C : Cx p R s m args c D A cc nL own rm N) (hin2 : meth.name = "<init>") {ref Cn : String} {T : u_T} {nF ci index a : Nat} (q0 k : Nat) {fs : List Value} {v : Value} {ty : FieldType} (ty0 : Nat → FieldType) (hty : ∀ k, k < nF → parseFieldDescriptor (T k).2.2.1 = some (ty0 k)) (hnm : ∀ a, a < nF → ∀ b, b < nF → a ≠ b → (T a).2.1 ≠ (T b).2.1) (hin : ∀ w ∈ u_ws Cn T nF, w ∈ LW) (he : ws[q0]? = some (a, .inr (ci, fs))) (hc : vwCl[ci]? = some (Cn, T, nF)) (hk : k < nF) (hw : Cond.fieldLink own index ref (T k).2.1 (T k).2.2.1 ∈ LW) (href : (T k).1 = ref) (hdecl : (T k).1 = own) (hfin : (T k).2.2.2 = true) (hd : ty0 k = ty) (hn : narrow ty v = v) (hfit : fits ty v = true) (hl : k < fs.length) (hdg : decode cc pc = .ok (.putfield index, 3)) (K : Bw p l e R s m args below meth c Q D A nL nc ns (ws.set q0 (a, .inr (ci, fs.set k v))) (pc + 3) lv rest) : Bw p l e R s m args below meth c Q D A nL nc ns ws pc lv (v :: .ref a :: rest) := fun H locs ls hP hD hS hv => va_putF C.1 C.2.1 C.2.2.2.2.1 hin ty0 hty hnm C.2.2.2.1 C.2.2.2.2.2.1 hP hD hS q0 he hc k hk (C.2.2.2.2.1 _ hw) (fun _ h9 => href ▸ h9) hfin hin2 hdecl (hd ▸ hty k hk) hn hfit hl hdg (fun H1 locs1 hP1 hD1 hS1 => K H1 locs1 ls hP1 hD1 hS1 hv)
theorem bw_obj (C : Cx p rm s m args c D A cc nL own rm N) {index a : Nat} (h1 : Cond.methodLink own index objectInit ∈ LW) (hfr : 1 ≤ rm.frames) (hlo : (rest.map fun v => v.category).sum + 12 ≤ rm.locals) (hdg : decode cc pc = .ok (.invokespecial index, 3)) (K : Bw p l e rm s m args below meth c Q D A nL nc ns ws (pc + 3) lv rest) : Bw p l e rm s m args below meth c Q D A nL nc ns ws pc lv (.ref a :: rest) := fun H locs ls hP hD hS hv => W.objInit C.1 C.2.1 C.2.2.2.1 (C.2.2.2.2.1 _ h1) (C.2.2.2.2.1 _ lw_1_11) (C.2.2.2.2.1 _ lw_1_12) rfl (C.2.2.1.trans hv.1.symm).symm rfl hdg hfr (by show 0 + _ + 12 ≤ _; rw [Nat.zero_add]; exact hlo) (W.eq (g2 := F0 m (pc + 3) ls rest) rfl (K H locs ls hP hD hS hv))
theorem bw_newa (C : Cx p R s m args c D A cc nL own rm N) {atype : ArrayType} {ty : FieldType} (ka : Nat) {cA : ClassId} (hka : (tysG N)[ka]? = some (cA, ty)) (hra : ∀ x, va_RA s x ty → s.vm.findClass ("[" ++ ty.toString) = some x) (h1 : Cond.arrayClass ty ∈ LW) (hty : newarray.typeOf atype = ty) {n : Int32} {N' : Nat} {a0 : vp_A} (ha : ∀ cA : ClassId, vp_cell cA a0 = arrV cA N' (fun _ => defaultValue ty)) (hn : ¬ n < 0) (hN : n.toNatClampNeg = N') (hbytes : N' * componentBytes ty ≤ 536870912) (hcells : nc + 1 ≤ R.cells) (hslots : ns + N' ≤ R.slots) (hdg : decode cc pc = .ok (.newarray atype, 2)) (K : ∀ q : Nat, Bw p l e R s m args below meth c Q D A nL (nc + 1) (ns + N') (ws ++ [(q, .inl (cA, a0))]) (pc + 2) lv (.ref q :: rest)) : Bw p l e R s m args below meth c Q D A nL nc ns ws pc lv (.int n :: rest) := fun H locs ls hP hD hS hv => by
  have hK := C.2.2.2.2.2.1
  refine va_newa C.1 C.2.1 (by rw [hty]; exact C.2.2.2.2.1 _ h1) hty hK hP hD hS C.2.2.2.2.2.2.2.1 ha hn hN hbytes hcells hslots hdg (fun q cB H1 hK1 hP1 hD1 hS1 => ?_)
  have e1 := hra _ (hK.2 ka _ hka).2
  have e2 := hra _ (hK1.2 4 (cB, ty) rfl).2
  have e : cB = cA := Option.some.inj (e2.symm.trans e1)
  subst e
  exact K q H1 locs ls hP1 hD1 hS1 hv
theorem bw_new (C : Cx p R s m args c D A cc nL own rm N) {Cn : String} {T : u_T} {nF ci index : Nat} (ty : Nat → FieldType) (hty : ∀ k, k < nF → parseFieldDescriptor (T k).2.2.1 = some (ty k)) (hin : ∀ w ∈ u_ws Cn T nF, w ∈ LW) (h1 : Cond.classLink own index Cn ∈ LW) (h2 : Cond.instantiable Cn nF ∈ LW) (h3 : Cond.initialized Cn ∈ LW) (hc : vwCl[ci]? = some (Cn, T, nF)) {fs : List Value} (hfs : ∀ j, j < nF → defaultValue (ty j) = vp_V fs j) (hcells : nc + 1 ≤ R.cells) (hslots : ns + nF ≤ R.slots) (hdg : decode cc pc = .ok (.new index, 3)) (K : ∀ q : Nat, Bw p l e R s m args below meth c Q D A nL (nc + 1) (ns + nF) (ws ++ [(q, .inr (ci, fs))]) (pc + 3) lv (.ref q :: rest)) : Bw p l e R s m args below meth c Q D A nL nc ns ws pc lv rest := fun H locs ls hP hD hS hv => va_new C.1 C.2.1 C.2.2.2.2.1 hin ty hty C.2.2.2.1 (C.2.2.2.2.1 _ h1) (C.2.2.2.2.1 _ h2) (C.2.2.2.2.1 _ h3) C.2.2.2.2.2.1 hP hD hS C.2.2.2.2.2.2.2.1 hc hfs hcells hslots hdg (fun q H1 hP1 hD1 hS1 => K q H1 locs ls hP1 hD1 hS1 hv)
theorem bw_mna (C : Cx p R s m args c D A cc nL own rm N) (hO : aoa s) {index : Nat} {n k : Int32} {N' K' : Nat} (h1 : Cond.classLink own index "[[I" ∈ LW) (hN : n.toNatClampNeg = N') (hM : k.toNatClampNeg = K') (hn : ¬ n < 0) (hk : ¬ k < 0) (hb1 : N' * 4 ≤ 536870912) (hb2 : K' * componentBytes .int ≤ 536870912) (hb3 : K' ≤ 536870912) (hcells : nc + (1 + N') ≤ R.cells) (hslots : ns + (N' + N' * K') ≤ R.slots) (hdg : decode cc pc = .ok (.multianewarray index 2, 4)) (K : ∀ (q : Nat) (r : Nat → Nat), Bw p l e R s m args below meth c Q D A nL (nc + 1 + N') (ns + N' + N' * K') ((ws ++ [(q, .inl (N.2.2.2.2.2.1, N', .inr (.inr (.inr (.inr (fun i => if i < N' then some (r i) else none))))))]) ++ (List.range N').map (fun i => (r i, .inl (N.2.2.1, K', .inl (fun _ => 0))))) (pc + 4) lv (.ref q :: rest)) : Bw p l e R s m args below meth c Q D A nL nc ns ws pc lv (.int k :: .int n :: rest) := fun H locs ls hP hD hS hv => by
  have hK := C.2.2.2.2.2.1
  have e0 : s.vm.findClass (FieldType.array FieldType.int).toString = some N.2.2.1 := (hK.2 0 _ rfl).2
  have e3 : s.vm.findClass ("[" ++ (FieldType.array FieldType.int).toString) = some N.2.2.2.2.2.1 := (hK.2 3 _ rfl).2
  have f0 : Nat → va_E := fun _ => .inr (0, [])
  refine va_mna (X := ws) (L := []) (f := fun _ => .inr (0, [])) (ty := .int) (z := (K', .inl (fun _ => 0))) C.1 C.2.1 C.2.2.2.1 (C.2.2.2.2.1 _ h1) hO.1 (C.2.2.2.2.1 _ lw_3_11) e0 hK (by rw [show va_pl [] (fun _ => (.inr (0, []) : va_E)) = [] from rfl, List.append_nil]; exact hP) (by rw [show va_pl [] (fun _ => (.inr (0, []) : va_E)) = [] from rfl, List.append_nil]; exact hD) hS C.2.2.2.2.2.2.2.1 hn hk hN hM hb1 hb2 hb3 rfl rfl hcells hslots (fun c9 => by show ({ cls := c9, slots := Array.replicate K' (.int 0), vm := .none } : Cell) = _; rw [arrV_new]; rfl) hdg (fun q r cA H1 hr1 hr2 hK1 hP1 hD1 hS1 => ?_)
  have e : cA = N.2.2.2.2.2.1 := Option.some.inj ((hK1.2 4 (cA, .array .int) rfl).2.symm.trans e3)
  subst e
  rw [List.nil_append, pl_rows, List.map_map] at hP1 hD1
  exact K q r H1 locs ls hP1 hD1 hS1 hv
theorem bw_ret {post : va_W → Prop} (hE : Eb p l e R s m args below meth c Q D A cc nc ns post) (hp : post ws) (hdg : decode cc pc = .ok (.return_, 1)) : Bw p l e R s m args below meth c Q D A nL nc ns ws pc lv [] := fun H locs ls hP hD hS _ => hE H locs ls pc ws hp hP hD hS hdg
theorem met_n {y : MethodName} {av : List Value} {w0 : va_W} {post : va_W → Prop} {mc ms : Nat} (hy : plainName y.cls = true) (hyn : y.name = "<init>") (hown0 : y.cls = own) (hav : (lg_sl av).length ≤ nL) (K : ∀ (p : Program) (e : Env) (s : State) (m : MethodId) (args : Array Value) (below : List Frame) (meth : Method) (c : Code) (Q : State → Prop) (A : Nat → Prop), Cx p rm s m args c D A cc nL own rm N → meth.name = "<init>" → aoa s → Eb p l e rm s m args below meth c Q D A cc mc ms post → Bw p l e rm s m args below meth c Q D A nL 0 0 w0 0 (lv_args 0 av) []) : Metn l y (Cond.code y cc nL none :: LW) rm D N av w0 post mc ms := by
  intro sz
  refine Met.ofW (cc := cc) (maxL := nL) (ret := none) hy rfl ?_
  intro p e s m args below meth c s₁ B hml hv
  obtain ⟨rfl, hsz, hP, hK, hD0, hnw, hO⟩ := hv
  have hown : s.vm.findClass y.cls = some m.cls := findClass_of_methodNamed B.named
  have hlocks := B.notSynchronized
  have hx := B.exec
  have hb := B.bytes
  have hr := B.returns
  have hin : meth.name = "<init>" := hyn ▸ (name_of_methodNamed B.named B.method).1
  subst hsz
  have hD := hD0.self (sz := s.heap.size)
  have hl := lv_entry av (n := nL) hav
  rw [lg_entry_eq]
  refine K p e s m av.toArray below meth c _ (va_A w0 s.heap.size) ⟨hx, hb, hml, hown0 ▸ hown, fun w h => atoms_spec (ws := Cond.code y cc nL none :: LW) B.pre w (List.mem_cons_of_mem _ h), hK, rfl, fun q h => Or.inr h, hnw⟩ hin hO ?_ s.heap [] _ hP hD va_S.rf hl
  intro H locs ls pc ws hp hP9 hD9 hS9 hdg
  exact W.vret hx hb hr (fun t ht hW => ⟨⟨ws, rfl, hp, by rw [ht]; exact hP9, hD9⟩, hS9.F ht⟩) hS9.2.2 hdg
/-- a constructor is called: its object stands last -/
theorem bw_init (C : Cx p rm s m args c D A cc nL own rm N) (hO : aoa s) {y : MethodName} {bytes : ByteArray} {maxL index n mc ms : Nat} {rmc : Room} {As st : List Value} {x : va_E} {post : va_W → Prop} {b : Nat} (hM : Metn l y (Cond.code y bytes maxL none :: LW) rmc D N (.ref b :: As) [(b, x)] post mc ms) (h1 : Cond.methodLink own index y ∈ LW) (h2 : Cond.instanceMethod y ∈ LW) (h4 : Cond.initialized y.cls ∈ LW) (h5 : Cond.code y bytes maxL none ∈ LW) (hrc : rmc.cells = mc) (hrs : rmc.slots = ms) (hyn : y.name = "<init>") (hd : y.cls ≠ "java/lang/invoke/MethodHandle" ∧ y.cls ≠ "java/lang/invoke/VarHandle" ∧ (parseMethodDescriptor y.desc).map (fun d => d.parameters.length) = some n) (hR : rmc.frames + 1 ≤ rm.frames ∧ 8 + (maxL + 11) + rmc.locals ≤ rm.locals) (hn : As.length = n) (hstk : st = As.reverse ++ .ref b :: rest) (hcat : (rest.map fun v => v.category).sum ≤ 8) (hcells : nc + mc ≤ rm.cells) (hslots : ns + ms ≤ rm.slots) (hdg : decode cc pc = .ok (.invokespecial index, 3)) (K : ∀ w1 : va_W, post w1 → Bw p l e rm s m args below meth c Q D A nL (nc + mc) (ns + ms) (ws ++ w1) (pc + 3) lv rest) : Bw p l e rm s m args below meth c Q D A nL nc ns (ws ++ [(b, x)]) pc lv st := by
  subst hstk
  refine bw_swap ?_
  intro H locs ls hP hD hS hv
  obtain ⟨hx, hb, hml, hown, hts, hK, -, hA, hnw⟩ := id C
  have hPc : va_P D vwCl [(b, x)] H := fun k q hq => hP k q (by rw [List.getElem?_append_left (List.getElem?_eq_some_iff.mp hq).1]; exact hq)
  have hDc : va_D A [(b, x)] := ⟨fun i j p' q' hi hj e => hD.1 i j p' q' (by rw [List.getElem?_append_left (List.getElem?_eq_some_iff.mp hi).1]; exact hi) (by rw [List.getElem?_append_left (List.getElem?_eq_some_iff.mp hj).1]; exact hj) e, fun k q hq => hD.2 k q (by rw [List.getElem?_append_left (List.getElem?_eq_some_iff.mp hq).1]; exact hq)⟩
  have hF : ∀ q, va_A [(b, x)] H.size q → A q := fun q hq => by
    rcases hq with ⟨k, e, hq⟩ | hq
    · exact hDc.2 k (q, e) hq
    · exact hA q (Nat.le_trans hS.1 hq)
  refine va_callv (va_runI (As := As) (rest := rest) ⟨hx, hb, hml, hown, hts⟩ (hM H.size) (cwI n hts (gU_code h5) rfl hrc hrs (hts _ h4) (hts _ h1) (hts _ h2) hyn hd hR) ⟨fun a U g mk q => by obtain ⟨q0, q1, qP, qK, qD, qN, qO⟩ := q; exact ⟨q0, q1, qP, va_K.moved (u := U) (U := U.calling g mk a) (Vm.Alike.refl U.vm) qK, qD, qN.frame, aoa.frame qO⟩, fun U hU hW => ⟨rfl, by rw [hU], by rw [hU]; exact hPc, va_K.moved hW.alike hK, hDc.weaken (fun _ _ _ _ => trivial), hnw.call hS hF hU hW, aoa.warm hW hO⟩⟩ rfl hn hv.1 rfl (lv_room hcat) hdg ⟨hcells, hslots⟩) hS (fun q _ h => hF q h) hF (fun u t H1 locs1 ht hvm hw1 hB hz1 hk1 hS1 => ?_)
  obtain ⟨hP1, hD1⟩ := hB
  rw [ht] at hP1
  obtain ⟨hP2, hD2⟩ := join_front hP hD hk1 hF hP1 hD1
  exact K u hw1 H1 locs1 ls (va_P.swap (a := []) hP2) (va_D.swap (a := []) hD2) hS1 hv
/-- the same, a nest mate's private constructor -/
theorem bw_initN (C : Cx p rm s m args c D A cc nL own rm N) (hO : aoa s) {y : MethodName} {bytes : ByteArray} {maxL index n mc ms : Nat} {rmc : Room} {As st : List Value} {x : va_E} {post : va_W → Prop} {b : Nat} (hM : Metn l y (Cond.code y bytes maxL none :: LW) rmc D N (.ref b :: As) [(b, x)] post mc ms) (ho : own = RX11) (hnq : (index, y) ∈ nwI) (h2 : Cond.instanceMethod y ∈ LW) (h4 : Cond.initialized y.cls ∈ LW) (h5 : Cond.code y bytes maxL none ∈ LW) (hrc : rmc.cells = mc) (hrs : rmc.slots = ms) (hyn : y.name = "<init>") (hd : y.cls ≠ "java/lang/invoke/MethodHandle" ∧ y.cls ≠ "java/lang/invoke/VarHandle" ∧ (parseMethodDescriptor y.desc).map (fun d => d.parameters.length) = some n) (hR : rmc.frames + 1 ≤ rm.frames ∧ 8 + (maxL + 11) + rmc.locals ≤ rm.locals) (hn : As.length = n) (hstk : st = As.reverse ++ .ref b :: rest) (hcat : (rest.map fun v => v.category).sum ≤ 8) (hcells : nc + mc ≤ rm.cells) (hslots : ns + ms ≤ rm.slots) (hdg : decode cc pc = .ok (.invokespecial index, 3)) (K : ∀ w1 : va_W, post w1 → Bw p l e rm s m args below meth c Q D A nL (nc + mc) (ns + ms) (ws ++ w1) (pc + 3) lv rest) : Bw p l e rm s m args below meth c Q D A nL nc ns (ws ++ [(b, x)]) pc lv st := by
  subst hstk
  refine bw_swap ?_
  intro H locs ls hP hD hS hv
  obtain ⟨hx, hb, hml, hown, hts, hK, -, hA, hnw⟩ := id C
  have hPc : va_P D vwCl [(b, x)] H := fun k q hq => hP k q (by rw [List.getElem?_append_left (List.getElem?_eq_some_iff.mp hq).1]; exact hq)
  have hDc : va_D A [(b, x)] := ⟨fun i j p' q' hi hj e => hD.1 i j p' q' (by rw [List.getElem?_append_left (List.getElem?_eq_some_iff.mp hi).1]; exact hi) (by rw [List.getElem?_append_left (List.getElem?_eq_some_iff.mp hj).1]; exact hj) e, fun k q hq => hD.2 k q (by rw [List.getElem?_append_left (List.getElem?_eq_some_iff.mp hq).1]; exact hq)⟩
  have hF : ∀ q, va_A [(b, x)] H.size q → A q := fun q hq => by
    rcases hq with ⟨k, e, hq⟩ | hq
    · exact hDc.2 k (q, e) hq
    · exact hA q (Nat.le_trans hS.1 hq)
  refine va_callv (va_runIN (host := "AwardLine") (As := As) (rest := rest) ⟨hx, hb, hml, hown, hts⟩ (hM H.size) ⟨va_cnB n hts (gU_code h5) rfl hrc hrs (by rw [ho]; exact hO.2 _ hnq) (hts _ h4) hd hR, hyn, hts _ h2⟩ ⟨fun a U g mk q => by obtain ⟨q0, q1, qP, qK, qD, qN, qO⟩ := q; exact ⟨q0, q1, qP, va_K.moved (u := U) (U := U.calling g mk a) (Vm.Alike.refl U.vm) qK, qD, qN.frame, aoa.frame qO⟩, fun U hU hW => ⟨rfl, by rw [hU], by rw [hU]; exact hPc, va_K.moved hW.alike hK, hDc.weaken (fun _ _ _ _ => trivial), hnw.call hS hF hU hW, aoa.warm hW hO⟩⟩ rfl hn hv.1 rfl (lv_room hcat) hdg ⟨hcells, hslots⟩) hS (fun q _ h => hF q h) hF (fun u t H1 locs1 ht hvm hw1 hB hz1 hk1 hS1 => ?_)
  obtain ⟨hP1, hD1⟩ := hB
  rw [ht] at hP1
  obtain ⟨hP2, hD2⟩ := join_front hP hD hk1 hF hP1 hD1
  exact K u hw1 H1 locs1 ls (va_P.swap (a := []) hP2) (va_D.swap (a := []) hD2) hS1 hv
/-- a method is called over the whole world -/
theorem bw_callVv (C : Cx p rm s m args c D A cc nL own rm N) {y : MethodName} {bytes : ByteArray} {maxL index n : Nat} {ret : Option FieldType} {rmc : Room} {As st : List Value} {w1 : va_W} {Cn : String} {ci b q0 : Nat} {q : vw_C} {fs : List Value} (hM : Metv l y (Cond.code y bytes maxL ret :: LW) rmc D N (.ref b :: As) ws w1) (h1 : Cond.methodLink own index y ∈ LW) (h2 : Cond.instanceMethod y ∈ LW) (h3 : Cond.selects Cn y y ∈ LW) (h4 : Cond.initialized Cn ∈ LW) (h5 : Cond.code y bytes maxL ret ∈ LW) (hrc : rmc.cells = 0) (hrs : rmc.slots = 0) (hd : y.cls = Cn ∧ y.cls ≠ "java/lang/invoke/MethodHandle" ∧ y.cls ≠ "java/lang/invoke/VarHandle" ∧ (parseMethodDescriptor y.desc).map (fun d => d.parameters.length) = some n) (hR : rmc.frames + 1 ≤ rm.frames ∧ 8 + (maxL + 11) + rmc.locals ≤ rm.locals) (hci : vwCl[ci]? = some q) (hq : q.1 = Cn) (he : ws[q0]? = some (b, .inr (ci, fs))) (hn : As.length = n) (hstk : st = As.reverse ++ .ref b :: rest) (hcat : (rest.map fun v => v.category).sum ≤ 8) (hcells : nc ≤ rm.cells) (hslots : ns ≤ rm.slots) (hdg : decode cc pc = .ok (.invokevirtual index, 3)) (K : Bw p l e rm s m args below meth c Q D A nL nc ns w1 (pc + 3) lv rest) : Bw p l e rm s m args below meth c Q D A nL nc ns ws pc lv st := by
  subst hstk
  intro H locs ls hP hD hS hv
  obtain ⟨hx, hb, hml, hown, hts, hK, -, hA, hnw⟩ := id C
  have hF : ∀ q, va_A ws H.size q → A q := fun q hq => by
    rcases hq with ⟨k, e, hq⟩ | hq
    · exact hD.2 k (q, e) hq
    · exact hA q (Nat.le_trans hS.1 hq)
  refine va_callv (va_runV (As := As) (rest := rest) ⟨hx, hb, hml, hown, hts⟩ (hM H.size) (cwV n hts (gU_app (gU_four h1 h2 h3 h4) (gU_code h5)) rfl hrc hrs hd hR) ⟨fun a U g mk q => by obtain ⟨q0, q1, qP, qK, qD, qN⟩ := q; exact ⟨q0, q1, qP, va_K.moved (u := U) (U := U.calling g mk a) (Vm.Alike.refl U.vm) qK, qD, qN.frame⟩, hq ▸ va_recv hK hP hci he, fun U hU hW => ⟨rfl, by rw [hU], by rw [hU]; exact hP, va_K.moved hW.alike hK, hD.weaken (fun _ _ _ _ => trivial), hnw.call hS hF hU hW⟩⟩ rfl hn hv.1 rfl (lv_room hcat) hdg ⟨hcells, hslots⟩) hS (fun q _ h => hF q h) hF (fun u t H1 locs1 ht hvm hw1 hB hz1 hk1 hS1 => ?_)
  obtain ⟨hP1, hD1⟩ := hB
  rw [ht] at hP1
  exact K H1 locs1 ls hP1 (hD1.weaken (fun _ _ _ h => hF _ h)) hS1 hv
end BWL
