/-! MAKING: cells in another order -/
theorem arrV_cong {cA : ClassId} {n : Nat} {g g' : Nat → Value} (h : ∀ j, j < n → g j = g' j) : arrV cA n g = arrV cA n g' := by
  have hs : (arrV cA n g).slots = (arrV cA n g').slots := by
    apply Array.ext_getElem?
    intro i
    by_cases hi : i < n
    · rw [arrV_read _ _ hi, arrV_read _ _ hi, h i hi]
    · rw [Array.getElem?_eq_none (by rw [arrV_size]; omega), Array.getElem?_eq_none (by rw [arrV_size]; omega)]
  show ({ cls := cA, slots := (arrV cA n g).slots, vm := .none } : Cell) = { cls := cA, slots := (arrV cA n g').slots, vm := .none }
  rw [hs]
section BWR
variable {p : Program} {l : Launch} {e : Env} {R : Room} {s : State} {m : MethodId} {args : Array Value} {below : List Frame} {meth : Method} {c : Code} {Q : State → Prop} {D : va_G} {A : Nat → Prop} {nL nc ns : Nat} {ws : va_W} {pc : Nat} {lv : List (Nat × Value)} {rest : List Value}
theorem bw_row {a n : Nat} {cA : ClassId} {f f' : Nat → Option Nat} (k : Nat) (h : ws[k]? = some (a, .inl (cA, n, .inr (.inr (.inr (.inr f)))))) (hf : ∀ j, j < n → f j = f' j) (K : Bw p l e R s m args below meth c Q D A nL nc ns (ws.set k (a, .inl (cA, n, .inr (.inr (.inr (.inr f')))))) pc lv rest) : Bw p l e R s m args below meth c Q D A nL nc ns ws pc lv rest := fun H locs ls hP hD hS hv => by
  have h0 : H[a]? = some (vp_cell cA (n, .inr (.inr (.inr (.inr f))))) := hP k _ h
  refine K H locs ls (va_P.set hP hD h ?_ (fun _ _ => rfl)) (hD.set h) hS hv
  show H[a]? = some (vp_cell cA (n, .inr (.inr (.inr (.inr f')))))
  rw [h0, vp_cell_q, vp_cell_q, arrV_cong (fun j hj => by rw [hf j hj])]
theorem bw_perm {ws' : va_W} (is : List Nat) (h1 : is.filterMap (fun i => ws[i]?) = ws') (h2 : is.map (fun i => ws[i]?) = ws'.map some) (hn : va_nd is = true) (K : Bw p l e R s m args below meth c Q D A nL nc ns ws' pc lv rest) : Bw p l e R s m args below meth c Q D A nL nc ns ws pc lv rest := fun H locs ls hP hD hS hv => K H locs ls (hP.sub is h1) (hD.sub is hn h2) hS hv
end BWR
