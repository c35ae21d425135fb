/-! MAKING: Land, Terms, Census, Exodus -/
def rm_X4_init : Room := { frames := 20, cells := 4, slots := 20, locals := 1000 }
def po_X4_init (N : Nm) (b : Nat) : va_W → Prop := fun w1 => ∃ (g : Nat → Nat) (z' : St), layP1 St0 3 3 z' ∧ w1 = wL1 (fun _ => b, g, N.2.2) z'
set_option maxHeartbeats 4000000 in
set_option maxRecDepth 100000 in
theorem n_X4_init (l : Launch) (D : va_G) (N : Nm) (b : Nat) : Metn l yX4_init (tsU yX4_init cX4_init 1 none) rm_X4_init D N [.ref b] [(b, .inr (4, [.int 0, .int 0, .null, .null, .int 0, .int 0, .int 0, .int 0, .int 0, .int 0, .null, .null]))] (po_X4_init N b) 4 20 := by
  refine met_n (cc := cX4_init) (nL := 1) (own := RX4) (by decide) rfl rfl (Nat.le_of_ble_eq_true rfl) (fun p e s m args below meth c Q A C hin hO hE => ?_)
  refine bw_sub (lv' := [(0, .ref b)]) [0] rfl ?_
  refine bw_aload_n C 0 dX4_init_0 rfl ?_
  refine bw_obj C lw_3_10 (Nat.le_of_ble_eq_true rfl) (Nat.le_of_ble_eq_true rfl) dX4_init_1 ?_
  refine bw_aload_n C 0 dX4_init_4 rfl ?_
  refine bw_bipush (v := 6) C dX4_init_5 (by decide) ?_
  refine bw_newa (a0 := (6, .inl (fun _ => 0))) C 0 rfl (fun _ h => h) lw_3_11 rfl (fun _ => rfl) (by decide) (by decide) (Nat.le_of_ble_eq_true rfl) (Nat.le_of_ble_eq_true rfl) (Nat.le_of_ble_eq_true rfl) dX4_init_7 (fun q0 => ?_)
  refine bw_n (nc' := 1) (ns' := 6) rfl rfl ?_
  refine bw_eq (ws' := [(b, .inr (4, [.int 0, .int 0, .null, .null, .int 0, .int 0, .int 0, .int 0, .int 0, .int 0, .null, .null])), (q0, .inl (N.2.2.1, 6, .inl (fun _ => 0)))]) rfl ?_
  refine bw_putF (Cn := RX4) (T := TX4) (nF := 12) (ci := 4) C hin 0 2 tyX4 tyX4_ok nmX4 inLW_X4 rfl rfl (by decide) lw_3_12 rfl rfl rfl rfl rfl rfl (Nat.le_of_ble_eq_true rfl) dX4_init_9 ?_
  refine bw_eq (ws' := [(b, .inr (4, [.int 0, .int 0, .ref q0, .null, .int 0, .int 0, .int 0, .int 0, .int 0, .int 0, .null, .null])), (q0, .inl (N.2.2.1, 6, .inl (fun _ => 0)))]) rfl ?_
  refine bw_aload_n C 0 dX4_init_12 rfl ?_
  refine bw_iconst (v := 2) C dX4_init_13 (by decide) ?_
  refine bw_newa (a0 := (2, .inl (fun _ => 0))) C 0 rfl (fun _ h => h) lw_3_11 rfl (fun _ => rfl) (by decide) (by decide) (Nat.le_of_ble_eq_true rfl) (Nat.le_of_ble_eq_true rfl) (Nat.le_of_ble_eq_true rfl) dX4_init_14 (fun q1 => ?_)
  refine bw_n (nc' := 2) (ns' := 8) rfl rfl ?_
  refine bw_eq (ws' := [(b, .inr (4, [.int 0, .int 0, .ref q0, .null, .int 0, .int 0, .int 0, .int 0, .int 0, .int 0, .null, .null])), (q0, .inl (N.2.2.1, 6, .inl (fun _ => 0))), (q1, .inl (N.2.2.1, 2, .inl (fun _ => 0)))]) rfl ?_
  refine bw_putF (Cn := RX4) (T := TX4) (nF := 12) (ci := 4) C hin 0 3 tyX4 tyX4_ok nmX4 inLW_X4 rfl rfl (by decide) lw_3_13 rfl rfl rfl rfl rfl rfl (Nat.le_of_ble_eq_true rfl) dX4_init_16 ?_
  refine bw_eq (ws' := [(b, .inr (4, [.int 0, .int 0, .ref q0, .ref q1, .int 0, .int 0, .int 0, .int 0, .int 0, .int 0, .null, .null])), (q0, .inl (N.2.2.1, 6, .inl (fun _ => 0))), (q1, .inl (N.2.2.1, 2, .inl (fun _ => 0)))]) rfl ?_
  refine bw_aload_n C 0 dX4_init_19 rfl ?_
  refine bw_bipush (v := 6) C dX4_init_20 (by decide) ?_
  refine bw_newa (a0 := (6, .inl (fun _ => 0))) C 0 rfl (fun _ h => h) lw_3_11 rfl (fun _ => rfl) (by decide) (by decide) (Nat.le_of_ble_eq_true rfl) (Nat.le_of_ble_eq_true rfl) (Nat.le_of_ble_eq_true rfl) dX4_init_22 (fun q2 => ?_)
  refine bw_n (nc' := 3) (ns' := 14) rfl rfl ?_
  refine bw_eq (ws' := [(b, .inr (4, [.int 0, .int 0, .ref q0, .ref q1, .int 0, .int 0, .int 0, .int 0, .int 0, .int 0, .null, .null])), (q0, .inl (N.2.2.1, 6, .inl (fun _ => 0))), (q1, .inl (N.2.2.1, 2, .inl (fun _ => 0))), (q2, .inl (N.2.2.1, 6, .inl (fun _ => 0)))]) rfl ?_
  refine bw_putF (Cn := RX4) (T := TX4) (nF := 12) (ci := 4) C hin 0 10 tyX4 tyX4_ok nmX4 inLW_X4 rfl rfl (by decide) lw_3_14 rfl rfl rfl rfl rfl rfl (Nat.le_of_ble_eq_true rfl) dX4_init_24 ?_
  refine bw_eq (ws' := [(b, .inr (4, [.int 0, .int 0, .ref q0, .ref q1, .int 0, .int 0, .int 0, .int 0, .int 0, .int 0, .ref q2, .null])), (q0, .inl (N.2.2.1, 6, .inl (fun _ => 0))), (q1, .inl (N.2.2.1, 2, .inl (fun _ => 0))), (q2, .inl (N.2.2.1, 6, .inl (fun _ => 0)))]) rfl ?_
  refine bw_aload_n C 0 dX4_init_27 rfl ?_
  refine bw_bipush (v := 6) C dX4_init_28 (by decide) ?_
  refine bw_newa (a0 := (6, .inl (fun _ => 0))) C 0 rfl (fun _ h => h) lw_3_11 rfl (fun _ => rfl) (by decide) (by decide) (Nat.le_of_ble_eq_true rfl) (Nat.le_of_ble_eq_true rfl) (Nat.le_of_ble_eq_true rfl) dX4_init_30 (fun q3 => ?_)
  refine bw_n (nc' := 4) (ns' := 20) rfl rfl ?_
  refine bw_eq (ws' := [(b, .inr (4, [.int 0, .int 0, .ref q0, .ref q1, .int 0, .int 0, .int 0, .int 0, .int 0, .int 0, .ref q2, .null])), (q0, .inl (N.2.2.1, 6, .inl (fun _ => 0))), (q1, .inl (N.2.2.1, 2, .inl (fun _ => 0))), (q2, .inl (N.2.2.1, 6, .inl (fun _ => 0))), (q3, .inl (N.2.2.1, 6, .inl (fun _ => 0)))]) rfl ?_
  refine bw_putF (Cn := RX4) (T := TX4) (nF := 12) (ci := 4) C hin 0 11 tyX4 tyX4_ok nmX4 inLW_X4 rfl rfl (by decide) lw_3_15 rfl rfl rfl rfl rfl rfl (Nat.le_of_ble_eq_true rfl) dX4_init_32 ?_
  refine bw_eq (ws' := [(b, .inr (4, [.int 0, .int 0, .ref q0, .ref q1, .int 0, .int 0, .int 0, .int 0, .int 0, .int 0, .ref q2, .ref q3])), (q0, .inl (N.2.2.1, 6, .inl (fun _ => 0))), (q1, .inl (N.2.2.1, 2, .inl (fun _ => 0))), (q2, .inl (N.2.2.1, 6, .inl (fun _ => 0))), (q3, .inl (N.2.2.1, 6, .inl (fun _ => 0)))]) rfl ?_
  refine bw_aload_n C 0 dX4_init_35 rfl ?_
  refine bw_iconst (v := 3) C dX4_init_36 (by decide) ?_
  refine bw_iconst (v := 3) C dX4_init_37 (by decide) ?_
  obtain ⟨z', hz', hl'⟩ := p_layL1 St0 (W := 3) (H := 3) (by omega) (by omega) (by omega) (by omega)
  refine bw_eq (ws' := wL1 (fun _ => b, fun k => [q0, q1, q2, q3].getD k 0, N.2.2) St0) rfl ?_
  refine bw_callVv (w1 := wL1 (fun _ => b, fun k => [q0, q1, q2, q3].getD k 0, N.2.2) z') (rest := []) (As := [.int 3, .int 3]) (n := 2) (ci := 4) (q0 := 0) C (metv_N rfl (cl1_X4_lay l D (fun _ => b, fun k => [q0, q1, q2, q3].getD k 0, N.2.2) St0 z' (nI 3) (nI 3) hz')) lw_3_16 lw_3_17 lw_3_18 lw_1_15 lw_3_19 rfl rfl (by decide +kernel) ⟨Nat.le_of_ble_eq_true rfl, Nat.le_of_ble_eq_true rfl⟩ rfl rfl rfl rfl rfl (Nat.le_of_ble_eq_true rfl) (Nat.le_of_ble_eq_true rfl) (Nat.le_of_ble_eq_true rfl) dX4_init_38 ?_
  exact bw_ret hE ⟨fun k => [q0, q1, q2, q3].getD k 0, z', hl', rfl⟩ dX4_init_41
def rm_X8_init : Room := { frames := 20, cells := 3, slots := 131, locals := 1000 }
def po_X8_init (N : Nm) (b : Nat) : va_W → Prop := fun w1 => ∃ (g : Nat → Nat) (z' : St), (z'.1 0 = 0 ∧ z'.1 1 = 10 ∧ z'.1 2 = 5 ∧ z'.1 3 = 0 ∧ ∀ k j, z'.2.1 k j = 0) ∧ w1 = wT1 (fun _ => b, g, N.2.2) z'
set_option maxHeartbeats 4000000 in
set_option maxRecDepth 100000 in
theorem n_X8_init (l : Launch) (D : va_G) (N : Nm) (b : Nat) : Metn l yX8_init (tsU yX8_init cX8_init 1 none) rm_X8_init D N [.ref b] [(b, .inr (8, [.int 0, .int 0, .int 0, .null, .int 0, .null, .null]))] (po_X8_init N b) 3 131 := by
  refine met_n (cc := cX8_init) (nL := 1) (own := RX8) (by decide) rfl rfl (Nat.le_of_ble_eq_true rfl) (fun p e s m args below meth c Q A C hin hO hE => ?_)
  refine bw_sub (lv' := [(0, .ref b)]) [0] rfl ?_
  refine bw_aload_n C 0 dX8_init_0 rfl ?_
  refine bw_obj C lw_5_14 (Nat.le_of_ble_eq_true rfl) (Nat.le_of_ble_eq_true rfl) dX8_init_1 ?_
  refine bw_aload_n C 0 dX8_init_4 rfl ?_
  refine bw_iconst (v := 3) C dX8_init_5 (by decide) ?_
  refine bw_newa (a0 := (3, .inl (fun _ => 0))) C 0 rfl (fun _ h => h) lw_3_11 rfl (fun _ => rfl) (by decide) (by decide) (Nat.le_of_ble_eq_true rfl) (Nat.le_of_ble_eq_true rfl) (Nat.le_of_ble_eq_true rfl) dX8_init_6 (fun q0 => ?_)
  refine bw_n (nc' := 1) (ns' := 3) rfl rfl ?_
  refine bw_eq (ws' := [(b, .inr (8, [.int 0, .int 0, .int 0, .null, .int 0, .null, .null])), (q0, .inl (N.2.2.1, 3, .inl (fun _ => 0)))]) rfl ?_
  refine bw_putF (Cn := RX8) (T := TX8) (nF := 7) (ci := 8) C hin 0 3 tyX8 tyX8_ok nmX8 inLW_X8 rfl rfl (by decide) lw_5_15 rfl rfl rfl rfl rfl rfl (Nat.le_of_ble_eq_true rfl) dX8_init_8 ?_
  refine bw_eq (ws' := [(b, .inr (8, [.int 0, .int 0, .int 0, .ref q0, .int 0, .null, .null])), (q0, .inl (N.2.2.1, 3, .inl (fun _ => 0)))]) rfl ?_
  refine bw_aload_n C 0 dX8_init_11 rfl ?_
  refine bw_bipush (v := 64) C dX8_init_12 (by decide) ?_
  refine bw_newa (a0 := (64, .inl (fun _ => 0))) C 0 rfl (fun _ h => h) lw_3_11 rfl (fun _ => rfl) (by decide) (by decide) (Nat.le_of_ble_eq_true rfl) (Nat.le_of_ble_eq_true rfl) (Nat.le_of_ble_eq_true rfl) dX8_init_14 (fun q1 => ?_)
  refine bw_n (nc' := 2) (ns' := 67) rfl rfl ?_
  refine bw_eq (ws' := [(b, .inr (8, [.int 0, .int 0, .int 0, .ref q0, .int 0, .null, .null])), (q0, .inl (N.2.2.1, 3, .inl (fun _ => 0))), (q1, .inl (N.2.2.1, 64, .inl (fun _ => 0)))]) rfl ?_
  refine bw_putF (Cn := RX8) (T := TX8) (nF := 7) (ci := 8) C hin 0 5 tyX8 tyX8_ok nmX8 inLW_X8 rfl rfl (by decide) lw_5_16 rfl rfl rfl rfl rfl rfl (Nat.le_of_ble_eq_true rfl) dX8_init_16 ?_
  refine bw_eq (ws' := [(b, .inr (8, [.int 0, .int 0, .int 0, .ref q0, .int 0, .ref q1, .null])), (q0, .inl (N.2.2.1, 3, .inl (fun _ => 0))), (q1, .inl (N.2.2.1, 64, .inl (fun _ => 0)))]) rfl ?_
  refine bw_aload_n C 0 dX8_init_19 rfl ?_
  refine bw_bipush (v := 64) C dX8_init_20 (by decide) ?_
  refine bw_newa (a0 := (64, .inl (fun _ => 0))) C 0 rfl (fun _ h => h) lw_3_11 rfl (fun _ => rfl) (by decide) (by decide) (Nat.le_of_ble_eq_true rfl) (Nat.le_of_ble_eq_true rfl) (Nat.le_of_ble_eq_true rfl) dX8_init_22 (fun q2 => ?_)
  refine bw_n (nc' := 3) (ns' := 131) rfl rfl ?_
  refine bw_eq (ws' := [(b, .inr (8, [.int 0, .int 0, .int 0, .ref q0, .int 0, .ref q1, .null])), (q0, .inl (N.2.2.1, 3, .inl (fun _ => 0))), (q1, .inl (N.2.2.1, 64, .inl (fun _ => 0))), (q2, .inl (N.2.2.1, 64, .inl (fun _ => 0)))]) rfl ?_
  refine bw_putF (Cn := RX8) (T := TX8) (nF := 7) (ci := 8) C hin 0 6 tyX8 tyX8_ok nmX8 inLW_X8 rfl rfl (by decide) lw_5_17 rfl rfl rfl rfl rfl rfl (Nat.le_of_ble_eq_true rfl) dX8_init_24 ?_
  refine bw_eq (ws' := [(b, .inr (8, [.int 0, .int 0, .int 0, .ref q0, .int 0, .ref q1, .ref q2])), (q0, .inl (N.2.2.1, 3, .inl (fun _ => 0))), (q1, .inl (N.2.2.1, 64, .inl (fun _ => 0))), (q2, .inl (N.2.2.1, 64, .inl (fun _ => 0)))]) rfl ?_
  refine bw_aload_n C 0 dX8_init_27 rfl ?_
  obtain ⟨z', hz', hl'⟩ := p_clearT1
  refine bw_eq (ws' := wT1 (fun _ => b, fun k => [q0, q1, q2].getD k 0, N.2.2) St0) rfl ?_
  refine bw_callVv (w1 := wT1 (fun _ => b, fun k => [q0, q1, q2].getD k 0, N.2.2) z') (rest := []) (As := []) (n := 0) (ci := 8) (q0 := 0) C (metv_N rfl (ct1_X8_clear l D (fun _ => b, fun k => [q0, q1, q2].getD k 0, N.2.2) St0 z' hz')) lw_5_18 lw_5_19 lw_5_20 lw_2_5 lw_5_21 rfl rfl (by decide +kernel) ⟨Nat.le_of_ble_eq_true rfl, Nat.le_of_ble_eq_true rfl⟩ rfl rfl rfl rfl rfl (Nat.le_of_ble_eq_true rfl) (Nat.le_of_ble_eq_true rfl) (Nat.le_of_ble_eq_true rfl) dX8_init_28 ?_
  exact bw_ret hE ⟨fun k => [q0, q1, q2].getD k 0, z', hl', rfl⟩ dX8_init_31
def rm_X0_init : Room := { frames := 1, cells := 10, slots := 160, locals := 20 }
def po_X0_init (N : Nm) (b x1 x2 : Nat) : va_W → Prop := fun w1 => ∃ (q0 : Nat) (q1 : Nat) (q2 : Nat → Nat) (q3 : Nat) (q4 : Nat → Nat) (q5 : Nat) (q6 : Nat → Nat), w1 = [(b, .inr (0, [.ref q0, .ref q1, .ref q3, .ref q5, .ref x1, .ref x2])), (q0, .inl (N.2.2.1, 4, .inl (fun _ => 0))), (q1, .inl (N.2.2.2.2.2.1, 2, .inr (.inr (.inr (.inr (fun i => if i < 2 then some (q2 i) else none)))))), ((q2 0), .inl (N.2.2.1, 25, .inl (fun _ => 0))), ((q2 1), .inl (N.2.2.1, 25, .inl (fun _ => 0))), (q3, .inl (N.2.2.2.2.2.1, 2, .inr (.inr (.inr (.inr (fun i => if i < 2 then some (q4 i) else none)))))), ((q4 0), .inl (N.2.2.1, 25, .inl (fun _ => 0))), ((q4 1), .inl (N.2.2.1, 25, .inl (fun _ => 0))), (q5, .inl (N.2.2.2.2.2.1, 2, .inr (.inr (.inr (.inr (fun i => if i < 2 then some (q6 i) else none)))))), ((q6 0), .inl (N.2.2.1, 25, .inl (fun _ => 0))), ((q6 1), .inl (N.2.2.1, 25, .inl (fun _ => 0)))]
set_option maxHeartbeats 4000000 in
set_option maxRecDepth 100000 in
theorem n_X0_init (l : Launch) (D : va_G) (N : Nm) (b x1 x2 : Nat) : Metn l yX0_init (tsU yX0_init cX0_init 3 none) rm_X0_init D N [.ref b, .ref x1, .ref x2] [(b, .inr (0, [.null, .null, .null, .null, .null, .null]))] (po_X0_init N b x1 x2) 10 160 := by
  refine met_n (cc := cX0_init) (nL := 3) (own := RX0) (by decide) rfl rfl (Nat.le_of_ble_eq_true rfl) (fun p e s m args below meth c Q A C hin hO hE => ?_)
  refine bw_sub (lv' := [(0, .ref b), (1, .ref x1), (2, .ref x2)]) [0, 1, 2] rfl ?_
  refine bw_aload_n C 0 dX0_init_0 rfl ?_
  refine bw_obj C lw_4_22 (Nat.le_of_ble_eq_true rfl) (Nat.le_of_ble_eq_true rfl) dX0_init_1 ?_
  refine bw_aload_n C 0 dX0_init_4 rfl ?_
  refine bw_iconst (v := 4) C dX0_init_5 (by decide) ?_
  refine bw_newa (a0 := (4, .inl (fun _ => 0))) C 0 rfl (fun _ h => h) lw_3_11 rfl (fun _ => rfl) (by decide) (by decide) (Nat.le_of_ble_eq_true rfl) (Nat.le_of_ble_eq_true rfl) (Nat.le_of_ble_eq_true rfl) dX0_init_6 (fun q0 => ?_)
  refine bw_n (nc' := 1) (ns' := 4) rfl rfl ?_
  refine bw_eq (ws' := [(b, .inr (0, [.null, .null, .null, .null, .null, .null])), (q0, .inl (N.2.2.1, 4, .inl (fun _ => 0)))]) rfl ?_
  refine bw_putF (Cn := RX0) (T := TX0) (nF := 6) (ci := 0) C hin 0 0 tyX0 tyX0_ok nmX0 inLW_X0 rfl rfl (by decide) lw_4_23 rfl rfl rfl rfl rfl rfl (Nat.le_of_ble_eq_true rfl) dX0_init_8 ?_
  refine bw_eq (ws' := [(b, .inr (0, [.ref q0, .null, .null, .null, .null, .null])), (q0, .inl (N.2.2.1, 4, .inl (fun _ => 0)))]) rfl ?_
  refine bw_aload_n C 0 dX0_init_11 rfl ?_
  refine bw_iconst (v := 2) C dX0_init_12 (by decide) ?_
  refine bw_bipush (v := 25) C dX0_init_13 (by decide) ?_
  refine bw_mna C hO lw_5_0 (N' := 2) (K' := 25) (by decide) (by decide) (by decide) (by decide) (Nat.le_of_ble_eq_true rfl) (Nat.le_of_ble_eq_true rfl) (Nat.le_of_ble_eq_true rfl) (Nat.le_of_ble_eq_true rfl) (Nat.le_of_ble_eq_true rfl) dX0_init_15 (fun q1 q2 => ?_)
  refine bw_n (nc' := 4) (ns' := 56) rfl rfl ?_
  refine bw_eq (ws' := [(b, .inr (0, [.ref q0, .null, .null, .null, .null, .null])), (q0, .inl (N.2.2.1, 4, .inl (fun _ => 0))), (q1, .inl (N.2.2.2.2.2.1, 2, .inr (.inr (.inr (.inr (fun i => if i < 2 then some (q2 i) else none)))))), ((q2 0), .inl (N.2.2.1, 25, .inl (fun _ => 0))), ((q2 1), .inl (N.2.2.1, 25, .inl (fun _ => 0)))]) rfl ?_
  refine bw_putF (Cn := RX0) (T := TX0) (nF := 6) (ci := 0) C hin 0 1 tyX0 tyX0_ok nmX0 inLW_X0 rfl rfl (by decide) lw_5_1 rfl rfl rfl rfl rfl rfl (Nat.le_of_ble_eq_true rfl) dX0_init_19 ?_
  refine bw_eq (ws' := [(b, .inr (0, [.ref q0, .ref q1, .null, .null, .null, .null])), (q0, .inl (N.2.2.1, 4, .inl (fun _ => 0))), (q1, .inl (N.2.2.2.2.2.1, 2, .inr (.inr (.inr (.inr (fun i => if i < 2 then some (q2 i) else none)))))), ((q2 0), .inl (N.2.2.1, 25, .inl (fun _ => 0))), ((q2 1), .inl (N.2.2.1, 25, .inl (fun _ => 0)))]) rfl ?_
  refine bw_aload_n C 0 dX0_init_22 rfl ?_
  refine bw_iconst (v := 2) C dX0_init_23 (by decide) ?_
  refine bw_bipush (v := 25) C dX0_init_24 (by decide) ?_
  refine bw_mna C hO lw_5_0 (N' := 2) (K' := 25) (by decide) (by decide) (by decide) (by decide) (Nat.le_of_ble_eq_true rfl) (Nat.le_of_ble_eq_true rfl) (Nat.le_of_ble_eq_true rfl) (Nat.le_of_ble_eq_true rfl) (Nat.le_of_ble_eq_true rfl) dX0_init_26 (fun q3 q4 => ?_)
  refine bw_n (nc' := 7) (ns' := 108) rfl rfl ?_
  refine bw_eq (ws' := [(b, .inr (0, [.ref q0, .ref q1, .null, .null, .null, .null])), (q0, .inl (N.2.2.1, 4, .inl (fun _ => 0))), (q1, .inl (N.2.2.2.2.2.1, 2, .inr (.inr (.inr (.inr (fun i => if i < 2 then some (q2 i) else none)))))), ((q2 0), .inl (N.2.2.1, 25, .inl (fun _ => 0))), ((q2 1), .inl (N.2.2.1, 25, .inl (fun _ => 0))), (q3, .inl (N.2.2.2.2.2.1, 2, .inr (.inr (.inr (.inr (fun i => if i < 2 then some (q4 i) else none)))))), ((q4 0), .inl (N.2.2.1, 25, .inl (fun _ => 0))), ((q4 1), .inl (N.2.2.1, 25, .inl (fun _ => 0)))]) rfl ?_
  refine bw_putF (Cn := RX0) (T := TX0) (nF := 6) (ci := 0) C hin 0 2 tyX0 tyX0_ok nmX0 inLW_X0 rfl rfl (by decide) lw_5_2 rfl rfl rfl rfl rfl rfl (Nat.le_of_ble_eq_true rfl) dX0_init_30 ?_
  refine bw_eq (ws' := [(b, .inr (0, [.ref q0, .ref q1, .ref q3, .null, .null, .null])), (q0, .inl (N.2.2.1, 4, .inl (fun _ => 0))), (q1, .inl (N.2.2.2.2.2.1, 2, .inr (.inr (.inr (.inr (fun i => if i < 2 then some (q2 i) else none)))))), ((q2 0), .inl (N.2.2.1, 25, .inl (fun _ => 0))), ((q2 1), .inl (N.2.2.1, 25, .inl (fun _ => 0))), (q3, .inl (N.2.2.2.2.2.1, 2, .inr (.inr (.inr (.inr (fun i => if i < 2 then some (q4 i) else none)))))), ((q4 0), .inl (N.2.2.1, 25, .inl (fun _ => 0))), ((q4 1), .inl (N.2.2.1, 25, .inl (fun _ => 0)))]) rfl ?_
  refine bw_aload_n C 0 dX0_init_33 rfl ?_
  refine bw_iconst (v := 2) C dX0_init_34 (by decide) ?_
  refine bw_bipush (v := 25) C dX0_init_35 (by decide) ?_
  refine bw_mna C hO lw_5_0 (N' := 2) (K' := 25) (by decide) (by decide) (by decide) (by decide) (Nat.le_of_ble_eq_true rfl) (Nat.le_of_ble_eq_true rfl) (Nat.le_of_ble_eq_true rfl) (Nat.le_of_ble_eq_true rfl) (Nat.le_of_ble_eq_true rfl) dX0_init_37 (fun q5 q6 => ?_)
  refine bw_n (nc' := 10) (ns' := 160) rfl rfl ?_
  refine bw_eq (ws' := [(b, .inr (0, [.ref q0, .ref q1, .ref q3, .null, .null, .null])), (q0, .inl (N.2.2.1, 4, .inl (fun _ => 0))), (q1, .inl (N.2.2.2.2.2.1, 2, .inr (.inr (.inr (.inr (fun i => if i < 2 then some (q2 i) else none)))))), ((q2 0), .inl (N.2.2.1, 25, .inl (fun _ => 0))), ((q2 1), .inl (N.2.2.1, 25, .inl (fun _ => 0))), (q3, .inl (N.2.2.2.2.2.1, 2, .inr (.inr (.inr (.inr (fun i => if i < 2 then some (q4 i) else none)))))), ((q4 0), .inl (N.2.2.1, 25, .inl (fun _ => 0))), ((q4 1), .inl (N.2.2.1, 25, .inl (fun _ => 0))), (q5, .inl (N.2.2.2.2.2.1, 2, .inr (.inr (.inr (.inr (fun i => if i < 2 then some (q6 i) else none)))))), ((q6 0), .inl (N.2.2.1, 25, .inl (fun _ => 0))), ((q6 1), .inl (N.2.2.1, 25, .inl (fun _ => 0)))]) rfl ?_
  refine bw_putF (Cn := RX0) (T := TX0) (nF := 6) (ci := 0) C hin 0 3 tyX0 tyX0_ok nmX0 inLW_X0 rfl rfl (by decide) lw_5_3 rfl rfl rfl rfl rfl rfl (Nat.le_of_ble_eq_true rfl) dX0_init_41 ?_
  refine bw_eq (ws' := [(b, .inr (0, [.ref q0, .ref q1, .ref q3, .ref q5, .null, .null])), (q0, .inl (N.2.2.1, 4, .inl (fun _ => 0))), (q1, .inl (N.2.2.2.2.2.1, 2, .inr (.inr (.inr (.inr (fun i => if i < 2 then some (q2 i) else none)))))), ((q2 0), .inl (N.2.2.1, 25, .inl (fun _ => 0))), ((q2 1), .inl (N.2.2.1, 25, .inl (fun _ => 0))), (q3, .inl (N.2.2.2.2.2.1, 2, .inr (.inr (.inr (.inr (fun i => if i < 2 then some (q4 i) else none)))))), ((q4 0), .inl (N.2.2.1, 25, .inl (fun _ => 0))), ((q4 1), .inl (N.2.2.1, 25, .inl (fun _ => 0))), (q5, .inl (N.2.2.2.2.2.1, 2, .inr (.inr (.inr (.inr (fun i => if i < 2 then some (q6 i) else none)))))), ((q6 0), .inl (N.2.2.1, 25, .inl (fun _ => 0))), ((q6 1), .inl (N.2.2.1, 25, .inl (fun _ => 0)))]) rfl ?_
  refine bw_aload_n C 0 dX0_init_44 rfl ?_
  refine bw_aload_n C 1 dX0_init_45 rfl ?_
  refine bw_putF (Cn := RX0) (T := TX0) (nF := 6) (ci := 0) C hin 0 4 tyX0 tyX0_ok nmX0 inLW_X0 rfl rfl (by decide) lw_5_4 rfl rfl rfl rfl rfl rfl (Nat.le_of_ble_eq_true rfl) dX0_init_46 ?_
  refine bw_eq (ws' := [(b, .inr (0, [.ref q0, .ref q1, .ref q3, .ref q5, .ref x1, .null])), (q0, .inl (N.2.2.1, 4, .inl (fun _ => 0))), (q1, .inl (N.2.2.2.2.2.1, 2, .inr (.inr (.inr (.inr (fun i => if i < 2 then some (q2 i) else none)))))), ((q2 0), .inl (N.2.2.1, 25, .inl (fun _ => 0))), ((q2 1), .inl (N.2.2.1, 25, .inl (fun _ => 0))), (q3, .inl (N.2.2.2.2.2.1, 2, .inr (.inr (.inr (.inr (fun i => if i < 2 then some (q4 i) else none)))))), ((q4 0), .inl (N.2.2.1, 25, .inl (fun _ => 0))), ((q4 1), .inl (N.2.2.1, 25, .inl (fun _ => 0))), (q5, .inl (N.2.2.2.2.2.1, 2, .inr (.inr (.inr (.inr (fun i => if i < 2 then some (q6 i) else none)))))), ((q6 0), .inl (N.2.2.1, 25, .inl (fun _ => 0))), ((q6 1), .inl (N.2.2.1, 25, .inl (fun _ => 0)))]) rfl ?_
  refine bw_aload_n C 0 dX0_init_49 rfl ?_
  refine bw_aload_n C 2 dX0_init_50 rfl ?_
  refine bw_putF (Cn := RX0) (T := TX0) (nF := 6) (ci := 0) C hin 0 5 tyX0 tyX0_ok nmX0 inLW_X0 rfl rfl (by decide) lw_5_5 rfl rfl rfl rfl rfl rfl (Nat.le_of_ble_eq_true rfl) dX0_init_51 ?_
  refine bw_eq (ws' := [(b, .inr (0, [.ref q0, .ref q1, .ref q3, .ref q5, .ref x1, .ref x2])), (q0, .inl (N.2.2.1, 4, .inl (fun _ => 0))), (q1, .inl (N.2.2.2.2.2.1, 2, .inr (.inr (.inr (.inr (fun i => if i < 2 then some (q2 i) else none)))))), ((q2 0), .inl (N.2.2.1, 25, .inl (fun _ => 0))), ((q2 1), .inl (N.2.2.1, 25, .inl (fun _ => 0))), (q3, .inl (N.2.2.2.2.2.1, 2, .inr (.inr (.inr (.inr (fun i => if i < 2 then some (q4 i) else none)))))), ((q4 0), .inl (N.2.2.1, 25, .inl (fun _ => 0))), ((q4 1), .inl (N.2.2.1, 25, .inl (fun _ => 0))), (q5, .inl (N.2.2.2.2.2.1, 2, .inr (.inr (.inr (.inr (fun i => if i < 2 then some (q6 i) else none)))))), ((q6 0), .inl (N.2.2.1, 25, .inl (fun _ => 0))), ((q6 1), .inl (N.2.2.1, 25, .inl (fun _ => 0)))]) rfl ?_
  exact bw_ret hE ⟨q0, q1, q2, q3, q4, q5, q6, rfl⟩ dX0_init_54
def rm_X2_init : Room := { frames := 1, cells := 17, slots := 395, locals := 20 }
def po_X2_init (N : Nm) (b x1 x2 : Nat) : va_W → Prop := fun w1 => ∃ (q0 : Nat) (q1 : Nat) (q2 : Nat → Nat) (q3 : Nat) (q4 : Nat) (q5 : Nat), w1 = [(b, .inr (2, [.int 0, .int 0, .int 0, .ref x1, .ref x2, .ref q0, .int 0, .int 0, .ref q1, .ref q3, .ref q4, .ref q5])), (q0, .inl (N.2.2.1, 8, .inl (fun _ => 0))), (q1, .inl (N.2.2.2.2.2.1, 12, .inr (.inr (.inr (.inr (fun i => if i < 12 then some (q2 i) else none)))))), ((q2 0), .inl (N.2.2.1, 25, .inl (fun _ => 0))), ((q2 1), .inl (N.2.2.1, 25, .inl (fun _ => 0))), ((q2 2), .inl (N.2.2.1, 25, .inl (fun _ => 0))), ((q2 3), .inl (N.2.2.1, 25, .inl (fun _ => 0))), ((q2 4), .inl (N.2.2.1, 25, .inl (fun _ => 0))), ((q2 5), .inl (N.2.2.1, 25, .inl (fun _ => 0))), ((q2 6), .inl (N.2.2.1, 25, .inl (fun _ => 0))), ((q2 7), .inl (N.2.2.1, 25, .inl (fun _ => 0))), ((q2 8), .inl (N.2.2.1, 25, .inl (fun _ => 0))), ((q2 9), .inl (N.2.2.1, 25, .inl (fun _ => 0))), ((q2 10), .inl (N.2.2.1, 25, .inl (fun _ => 0))), ((q2 11), .inl (N.2.2.1, 25, .inl (fun _ => 0))), (q3, .inl (N.2.2.1, 25, .inl (fun _ => 0))), (q4, .inl (N.2.2.1, 25, .inl (fun _ => 0))), (q5, .inl (N.2.2.1, 25, .inl (fun _ => 0)))]
set_option maxHeartbeats 4000000 in
set_option maxRecDepth 100000 in
theorem n_X2_init (l : Launch) (D : va_G) (N : Nm) (b x1 x2 : Nat) : Metn l yX2_init (tsU yX2_init cX2_init 3 none) rm_X2_init D N [.ref b, .ref x1, .ref x2] [(b, .inr (2, [.int 0, .int 0, .int 0, .null, .null, .null, .int 0, .int 0, .null, .null, .null, .null]))] (po_X2_init N b x1 x2) 17 395 := by
  refine met_n (cc := cX2_init) (nL := 3) (own := RX2) (by decide) rfl rfl (Nat.le_of_ble_eq_true rfl) (fun p e s m args below meth c Q A C hin hO hE => ?_)
  refine bw_sub (lv' := [(0, .ref b), (1, .ref x1), (2, .ref x2)]) [0, 1, 2] rfl ?_
  refine bw_aload_n C 0 dX2_init_0 rfl ?_
  refine bw_obj C lw_7_11 (Nat.le_of_ble_eq_true rfl) (Nat.le_of_ble_eq_true rfl) dX2_init_1 ?_
  refine bw_aload_n C 0 dX2_init_4 rfl ?_
  refine bw_bipush (v := 8) C dX2_init_5 (by decide) ?_
  refine bw_newa (a0 := (8, .inl (fun _ => 0))) C 0 rfl (fun _ h => h) lw_3_11 rfl (fun _ => rfl) (by decide) (by decide) (Nat.le_of_ble_eq_true rfl) (Nat.le_of_ble_eq_true rfl) (Nat.le_of_ble_eq_true rfl) dX2_init_7 (fun q0 => ?_)
  refine bw_n (nc' := 1) (ns' := 8) rfl rfl ?_
  refine bw_eq (ws' := [(b, .inr (2, [.int 0, .int 0, .int 0, .null, .null, .null, .int 0, .int 0, .null, .null, .null, .null])), (q0, .inl (N.2.2.1, 8, .inl (fun _ => 0)))]) rfl ?_
  refine bw_putF (Cn := RX2) (T := TX2) (nF := 12) (ci := 2) C hin 0 5 tyX2 tyX2_ok nmX2 inLW_X2 rfl rfl (by decide) lw_7_12 rfl rfl rfl rfl rfl rfl (Nat.le_of_ble_eq_true rfl) dX2_init_9 ?_
  refine bw_eq (ws' := [(b, .inr (2, [.int 0, .int 0, .int 0, .null, .null, .ref q0, .int 0, .int 0, .null, .null, .null, .null])), (q0, .inl (N.2.2.1, 8, .inl (fun _ => 0)))]) rfl ?_
  refine bw_aload_n C 0 dX2_init_12 rfl ?_
  refine bw_bipush (v := 12) C dX2_init_13 (by decide) ?_
  refine bw_bipush (v := 25) C dX2_init_15 (by decide) ?_
  refine bw_mna C hO lw_7_13 (N' := 12) (K' := 25) (by decide) (by decide) (by decide) (by decide) (Nat.le_of_ble_eq_true rfl) (Nat.le_of_ble_eq_true rfl) (Nat.le_of_ble_eq_true rfl) (Nat.le_of_ble_eq_true rfl) (Nat.le_of_ble_eq_true rfl) dX2_init_17 (fun q1 q2 => ?_)
  refine bw_n (nc' := 14) (ns' := 320) rfl rfl ?_
  refine bw_eq (ws' := [(b, .inr (2, [.int 0, .int 0, .int 0, .null, .null, .ref q0, .int 0, .int 0, .null, .null, .null, .null])), (q0, .inl (N.2.2.1, 8, .inl (fun _ => 0))), (q1, .inl (N.2.2.2.2.2.1, 12, .inr (.inr (.inr (.inr (fun i => if i < 12 then some (q2 i) else none)))))), ((q2 0), .inl (N.2.2.1, 25, .inl (fun _ => 0))), ((q2 1), .inl (N.2.2.1, 25, .inl (fun _ => 0))), ((q2 2), .inl (N.2.2.1, 25, .inl (fun _ => 0))), ((q2 3), .inl (N.2.2.1, 25, .inl (fun _ => 0))), ((q2 4), .inl (N.2.2.1, 25, .inl (fun _ => 0))), ((q2 5), .inl (N.2.2.1, 25, .inl (fun _ => 0))), ((q2 6), .inl (N.2.2.1, 25, .inl (fun _ => 0))), ((q2 7), .inl (N.2.2.1, 25, .inl (fun _ => 0))), ((q2 8), .inl (N.2.2.1, 25, .inl (fun _ => 0))), ((q2 9), .inl (N.2.2.1, 25, .inl (fun _ => 0))), ((q2 10), .inl (N.2.2.1, 25, .inl (fun _ => 0))), ((q2 11), .inl (N.2.2.1, 25, .inl (fun _ => 0)))]) rfl ?_
  refine bw_putF (Cn := RX2) (T := TX2) (nF := 12) (ci := 2) C hin 0 8 tyX2 tyX2_ok nmX2 inLW_X2 rfl rfl (by decide) lw_7_14 rfl rfl rfl rfl rfl rfl (Nat.le_of_ble_eq_true rfl) dX2_init_21 ?_
  refine bw_eq (ws' := [(b, .inr (2, [.int 0, .int 0, .int 0, .null, .null, .ref q0, .int 0, .int 0, .ref q1, .null, .null, .null])), (q0, .inl (N.2.2.1, 8, .inl (fun _ => 0))), (q1, .inl (N.2.2.2.2.2.1, 12, .inr (.inr (.inr (.inr (fun i => if i < 12 then some (q2 i) else none)))))), ((q2 0), .inl (N.2.2.1, 25, .inl (fun _ => 0))), ((q2 1), .inl (N.2.2.1, 25, .inl (fun _ => 0))), ((q2 2), .inl (N.2.2.1, 25, .inl (fun _ => 0))), ((q2 3), .inl (N.2.2.1, 25, .inl (fun _ => 0))), ((q2 4), .inl (N.2.2.1, 25, .inl (fun _ => 0))), ((q2 5), .inl (N.2.2.1, 25, .inl (fun _ => 0))), ((q2 6), .inl (N.2.2.1, 25, .inl (fun _ => 0))), ((q2 7), .inl (N.2.2.1, 25, .inl (fun _ => 0))), ((q2 8), .inl (N.2.2.1, 25, .inl (fun _ => 0))), ((q2 9), .inl (N.2.2.1, 25, .inl (fun _ => 0))), ((q2 10), .inl (N.2.2.1, 25, .inl (fun _ => 0))), ((q2 11), .inl (N.2.2.1, 25, .inl (fun _ => 0)))]) rfl ?_
  refine bw_aload_n C 0 dX2_init_24 rfl ?_
  refine bw_bipush (v := 25) C dX2_init_25 (by decide) ?_
  refine bw_newa (a0 := (25, .inl (fun _ => 0))) C 0 rfl (fun _ h => h) lw_3_11 rfl (fun _ => rfl) (by decide) (by decide) (Nat.le_of_ble_eq_true rfl) (Nat.le_of_ble_eq_true rfl) (Nat.le_of_ble_eq_true rfl) dX2_init_27 (fun q3 => ?_)
  refine bw_n (nc' := 15) (ns' := 345) rfl rfl ?_
  refine bw_eq (ws' := [(b, .inr (2, [.int 0, .int 0, .int 0, .null, .null, .ref q0, .int 0, .int 0, .ref q1, .null, .null, .null])), (q0, .inl (N.2.2.1, 8, .inl (fun _ => 0))), (q1, .inl (N.2.2.2.2.2.1, 12, .inr (.inr (.inr (.inr (fun i => if i < 12 then some (q2 i) else none)))))), ((q2 0), .inl (N.2.2.1, 25, .inl (fun _ => 0))), ((q2 1), .inl (N.2.2.1, 25, .inl (fun _ => 0))), ((q2 2), .inl (N.2.2.1, 25, .inl (fun _ => 0))), ((q2 3), .inl (N.2.2.1, 25, .inl (fun _ => 0))), ((q2 4), .inl (N.2.2.1, 25, .inl (fun _ => 0))), ((q2 5), .inl (N.2.2.1, 25, .inl (fun _ => 0))), ((q2 6), .inl (N.2.2.1, 25, .inl (fun _ => 0))), ((q2 7), .inl (N.2.2.1, 25, .inl (fun _ => 0))), ((q2 8), .inl (N.2.2.1, 25, .inl (fun _ => 0))), ((q2 9), .inl (N.2.2.1, 25, .inl (fun _ => 0))), ((q2 10), .inl (N.2.2.1, 25, .inl (fun _ => 0))), ((q2 11), .inl (N.2.2.1, 25, .inl (fun _ => 0))), (q3, .inl (N.2.2.1, 25, .inl (fun _ => 0)))]) rfl ?_
  refine bw_putF (Cn := RX2) (T := TX2) (nF := 12) (ci := 2) C hin 0 9 tyX2 tyX2_ok nmX2 inLW_X2 rfl rfl (by decide) lw_7_15 rfl rfl rfl rfl rfl rfl (Nat.le_of_ble_eq_true rfl) dX2_init_29 ?_
  refine bw_eq (ws' := [(b, .inr (2, [.int 0, .int 0, .int 0, .null, .null, .ref q0, .int 0, .int 0, .ref q1, .ref q3, .null, .null])), (q0, .inl (N.2.2.1, 8, .inl (fun _ => 0))), (q1, .inl (N.2.2.2.2.2.1, 12, .inr (.inr (.inr (.inr (fun i => if i < 12 then some (q2 i) else none)))))), ((q2 0), .inl (N.2.2.1, 25, .inl (fun _ => 0))), ((q2 1), .inl (N.2.2.1, 25, .inl (fun _ => 0))), ((q2 2), .inl (N.2.2.1, 25, .inl (fun _ => 0))), ((q2 3), .inl (N.2.2.1, 25, .inl (fun _ => 0))), ((q2 4), .inl (N.2.2.1, 25, .inl (fun _ => 0))), ((q2 5), .inl (N.2.2.1, 25, .inl (fun _ => 0))), ((q2 6), .inl (N.2.2.1, 25, .inl (fun _ => 0))), ((q2 7), .inl (N.2.2.1, 25, .inl (fun _ => 0))), ((q2 8), .inl (N.2.2.1, 25, .inl (fun _ => 0))), ((q2 9), .inl (N.2.2.1, 25, .inl (fun _ => 0))), ((q2 10), .inl (N.2.2.1, 25, .inl (fun _ => 0))), ((q2 11), .inl (N.2.2.1, 25, .inl (fun _ => 0))), (q3, .inl (N.2.2.1, 25, .inl (fun _ => 0)))]) rfl ?_
  refine bw_aload_n C 0 dX2_init_32 rfl ?_
  refine bw_bipush (v := 25) C dX2_init_33 (by decide) ?_
  refine bw_newa (a0 := (25, .inl (fun _ => 0))) C 0 rfl (fun _ h => h) lw_3_11 rfl (fun _ => rfl) (by decide) (by decide) (Nat.le_of_ble_eq_true rfl) (Nat.le_of_ble_eq_true rfl) (Nat.le_of_ble_eq_true rfl) dX2_init_35 (fun q4 => ?_)
  refine bw_n (nc' := 16) (ns' := 370) rfl rfl ?_
  refine bw_eq (ws' := [(b, .inr (2, [.int 0, .int 0, .int 0, .null, .null, .ref q0, .int 0, .int 0, .ref q1, .ref q3, .null, .null])), (q0, .inl (N.2.2.1, 8, .inl (fun _ => 0))), (q1, .inl (N.2.2.2.2.2.1, 12, .inr (.inr (.inr (.inr (fun i => if i < 12 then some (q2 i) else none)))))), ((q2 0), .inl (N.2.2.1, 25, .inl (fun _ => 0))), ((q2 1), .inl (N.2.2.1, 25, .inl (fun _ => 0))), ((q2 2), .inl (N.2.2.1, 25, .inl (fun _ => 0))), ((q2 3), .inl (N.2.2.1, 25, .inl (fun _ => 0))), ((q2 4), .inl (N.2.2.1, 25, .inl (fun _ => 0))), ((q2 5), .inl (N.2.2.1, 25, .inl (fun _ => 0))), ((q2 6), .inl (N.2.2.1, 25, .inl (fun _ => 0))), ((q2 7), .inl (N.2.2.1, 25, .inl (fun _ => 0))), ((q2 8), .inl (N.2.2.1, 25, .inl (fun _ => 0))), ((q2 9), .inl (N.2.2.1, 25, .inl (fun _ => 0))), ((q2 10), .inl (N.2.2.1, 25, .inl (fun _ => 0))), ((q2 11), .inl (N.2.2.1, 25, .inl (fun _ => 0))), (q3, .inl (N.2.2.1, 25, .inl (fun _ => 0))), (q4, .inl (N.2.2.1, 25, .inl (fun _ => 0)))]) rfl ?_
  refine bw_putF (Cn := RX2) (T := TX2) (nF := 12) (ci := 2) C hin 0 10 tyX2 tyX2_ok nmX2 inLW_X2 rfl rfl (by decide) lw_7_16 rfl rfl rfl rfl rfl rfl (Nat.le_of_ble_eq_true rfl) dX2_init_37 ?_
  refine bw_eq (ws' := [(b, .inr (2, [.int 0, .int 0, .int 0, .null, .null, .ref q0, .int 0, .int 0, .ref q1, .ref q3, .ref q4, .null])), (q0, .inl (N.2.2.1, 8, .inl (fun _ => 0))), (q1, .inl (N.2.2.2.2.2.1, 12, .inr (.inr (.inr (.inr (fun i => if i < 12 then some (q2 i) else none)))))), ((q2 0), .inl (N.2.2.1, 25, .inl (fun _ => 0))), ((q2 1), .inl (N.2.2.1, 25, .inl (fun _ => 0))), ((q2 2), .inl (N.2.2.1, 25, .inl (fun _ => 0))), ((q2 3), .inl (N.2.2.1, 25, .inl (fun _ => 0))), ((q2 4), .inl (N.2.2.1, 25, .inl (fun _ => 0))), ((q2 5), .inl (N.2.2.1, 25, .inl (fun _ => 0))), ((q2 6), .inl (N.2.2.1, 25, .inl (fun _ => 0))), ((q2 7), .inl (N.2.2.1, 25, .inl (fun _ => 0))), ((q2 8), .inl (N.2.2.1, 25, .inl (fun _ => 0))), ((q2 9), .inl (N.2.2.1, 25, .inl (fun _ => 0))), ((q2 10), .inl (N.2.2.1, 25, .inl (fun _ => 0))), ((q2 11), .inl (N.2.2.1, 25, .inl (fun _ => 0))), (q3, .inl (N.2.2.1, 25, .inl (fun _ => 0))), (q4, .inl (N.2.2.1, 25, .inl (fun _ => 0)))]) rfl ?_
  refine bw_aload_n C 0 dX2_init_40 rfl ?_
  refine bw_bipush (v := 25) C dX2_init_41 (by decide) ?_
  refine bw_newa (a0 := (25, .inl (fun _ => 0))) C 0 rfl (fun _ h => h) lw_3_11 rfl (fun _ => rfl) (by decide) (by decide) (Nat.le_of_ble_eq_true rfl) (Nat.le_of_ble_eq_true rfl) (Nat.le_of_ble_eq_true rfl) dX2_init_43 (fun q5 => ?_)
  refine bw_n (nc' := 17) (ns' := 395) rfl rfl ?_
  refine bw_eq (ws' := [(b, .inr (2, [.int 0, .int 0, .int 0, .null, .null, .ref q0, .int 0, .int 0, .ref q1, .ref q3, .ref q4, .null])), (q0, .inl (N.2.2.1, 8, .inl (fun _ => 0))), (q1, .inl (N.2.2.2.2.2.1, 12, .inr (.inr (.inr (.inr (fun i => if i < 12 then some (q2 i) else none)))))), ((q2 0), .inl (N.2.2.1, 25, .inl (fun _ => 0))), ((q2 1), .inl (N.2.2.1, 25, .inl (fun _ => 0))), ((q2 2), .inl (N.2.2.1, 25, .inl (fun _ => 0))), ((q2 3), .inl (N.2.2.1, 25, .inl (fun _ => 0))), ((q2 4), .inl (N.2.2.1, 25, .inl (fun _ => 0))), ((q2 5), .inl (N.2.2.1, 25, .inl (fun _ => 0))), ((q2 6), .inl (N.2.2.1, 25, .inl (fun _ => 0))), ((q2 7), .inl (N.2.2.1, 25, .inl (fun _ => 0))), ((q2 8), .inl (N.2.2.1, 25, .inl (fun _ => 0))), ((q2 9), .inl (N.2.2.1, 25, .inl (fun _ => 0))), ((q2 10), .inl (N.2.2.1, 25, .inl (fun _ => 0))), ((q2 11), .inl (N.2.2.1, 25, .inl (fun _ => 0))), (q3, .inl (N.2.2.1, 25, .inl (fun _ => 0))), (q4, .inl (N.2.2.1, 25, .inl (fun _ => 0))), (q5, .inl (N.2.2.1, 25, .inl (fun _ => 0)))]) rfl ?_
  refine bw_putF (Cn := RX2) (T := TX2) (nF := 12) (ci := 2) C hin 0 11 tyX2 tyX2_ok nmX2 inLW_X2 rfl rfl (by decide) lw_7_17 rfl rfl rfl rfl rfl rfl (Nat.le_of_ble_eq_true rfl) dX2_init_45 ?_
  refine bw_eq (ws' := [(b, .inr (2, [.int 0, .int 0, .int 0, .null, .null, .ref q0, .int 0, .int 0, .ref q1, .ref q3, .ref q4, .ref q5])), (q0, .inl (N.2.2.1, 8, .inl (fun _ => 0))), (q1, .inl (N.2.2.2.2.2.1, 12, .inr (.inr (.inr (.inr (fun i => if i < 12 then some (q2 i) else none)))))), ((q2 0), .inl (N.2.2.1, 25, .inl (fun _ => 0))), ((q2 1), .inl (N.2.2.1, 25, .inl (fun _ => 0))), ((q2 2), .inl (N.2.2.1, 25, .inl (fun _ => 0))), ((q2 3), .inl (N.2.2.1, 25, .inl (fun _ => 0))), ((q2 4), .inl (N.2.2.1, 25, .inl (fun _ => 0))), ((q2 5), .inl (N.2.2.1, 25, .inl (fun _ => 0))), ((q2 6), .inl (N.2.2.1, 25, .inl (fun _ => 0))), ((q2 7), .inl (N.2.2.1, 25, .inl (fun _ => 0))), ((q2 8), .inl (N.2.2.1, 25, .inl (fun _ => 0))), ((q2 9), .inl (N.2.2.1, 25, .inl (fun _ => 0))), ((q2 10), .inl (N.2.2.1, 25, .inl (fun _ => 0))), ((q2 11), .inl (N.2.2.1, 25, .inl (fun _ => 0))), (q3, .inl (N.2.2.1, 25, .inl (fun _ => 0))), (q4, .inl (N.2.2.1, 25, .inl (fun _ => 0))), (q5, .inl (N.2.2.1, 25, .inl (fun _ => 0)))]) rfl ?_
  refine bw_aload_n C 0 dX2_init_48 rfl ?_
  refine bw_aload_n C 1 dX2_init_49 rfl ?_
  refine bw_putF (Cn := RX2) (T := TX2) (nF := 12) (ci := 2) C hin 0 3 tyX2 tyX2_ok nmX2 inLW_X2 rfl rfl (by decide) lw_7_18 rfl rfl rfl rfl rfl rfl (Nat.le_of_ble_eq_true rfl) dX2_init_50 ?_
  refine bw_eq (ws' := [(b, .inr (2, [.int 0, .int 0, .int 0, .ref x1, .null, .ref q0, .int 0, .int 0, .ref q1, .ref q3, .ref q4, .ref q5])), (q0, .inl (N.2.2.1, 8, .inl (fun _ => 0))), (q1, .inl (N.2.2.2.2.2.1, 12, .inr (.inr (.inr (.inr (fun i => if i < 12 then some (q2 i) else none)))))), ((q2 0), .inl (N.2.2.1, 25, .inl (fun _ => 0))), ((q2 1), .inl (N.2.2.1, 25, .inl (fun _ => 0))), ((q2 2), .inl (N.2.2.1, 25, .inl (fun _ => 0))), ((q2 3), .inl (N.2.2.1, 25, .inl (fun _ => 0))), ((q2 4), .inl (N.2.2.1, 25, .inl (fun _ => 0))), ((q2 5), .inl (N.2.2.1, 25, .inl (fun _ => 0))), ((q2 6), .inl (N.2.2.1, 25, .inl (fun _ => 0))), ((q2 7), .inl (N.2.2.1, 25, .inl (fun _ => 0))), ((q2 8), .inl (N.2.2.1, 25, .inl (fun _ => 0))), ((q2 9), .inl (N.2.2.1, 25, .inl (fun _ => 0))), ((q2 10), .inl (N.2.2.1, 25, .inl (fun _ => 0))), ((q2 11), .inl (N.2.2.1, 25, .inl (fun _ => 0))), (q3, .inl (N.2.2.1, 25, .inl (fun _ => 0))), (q4, .inl (N.2.2.1, 25, .inl (fun _ => 0))), (q5, .inl (N.2.2.1, 25, .inl (fun _ => 0)))]) rfl ?_
  refine bw_aload_n C 0 dX2_init_53 rfl ?_
  refine bw_aload_n C 2 dX2_init_54 rfl ?_
  refine bw_putF (Cn := RX2) (T := TX2) (nF := 12) (ci := 2) C hin 0 4 tyX2 tyX2_ok nmX2 inLW_X2 rfl rfl (by decide) lw_7_19 rfl rfl rfl rfl rfl rfl (Nat.le_of_ble_eq_true rfl) dX2_init_55 ?_
  refine bw_eq (ws' := [(b, .inr (2, [.int 0, .int 0, .int 0, .ref x1, .ref x2, .ref q0, .int 0, .int 0, .ref q1, .ref q3, .ref q4, .ref q5])), (q0, .inl (N.2.2.1, 8, .inl (fun _ => 0))), (q1, .inl (N.2.2.2.2.2.1, 12, .inr (.inr (.inr (.inr (fun i => if i < 12 then some (q2 i) else none)))))), ((q2 0), .inl (N.2.2.1, 25, .inl (fun _ => 0))), ((q2 1), .inl (N.2.2.1, 25, .inl (fun _ => 0))), ((q2 2), .inl (N.2.2.1, 25, .inl (fun _ => 0))), ((q2 3), .inl (N.2.2.1, 25, .inl (fun _ => 0))), ((q2 4), .inl (N.2.2.1, 25, .inl (fun _ => 0))), ((q2 5), .inl (N.2.2.1, 25, .inl (fun _ => 0))), ((q2 6), .inl (N.2.2.1, 25, .inl (fun _ => 0))), ((q2 7), .inl (N.2.2.1, 25, .inl (fun _ => 0))), ((q2 8), .inl (N.2.2.1, 25, .inl (fun _ => 0))), ((q2 9), .inl (N.2.2.1, 25, .inl (fun _ => 0))), ((q2 10), .inl (N.2.2.1, 25, .inl (fun _ => 0))), ((q2 11), .inl (N.2.2.1, 25, .inl (fun _ => 0))), (q3, .inl (N.2.2.1, 25, .inl (fun _ => 0))), (q4, .inl (N.2.2.1, 25, .inl (fun _ => 0))), (q5, .inl (N.2.2.1, 25, .inl (fun _ => 0)))]) rfl ?_
  exact bw_ret hE ⟨q0, q1, q2, q3, q4, q5, rfl⟩ dX2_init_58
