/-! MAKING: the small constructors -/
def rm_X5_init : Room := { frames := 1, cells := 7, slots := 560, locals := 20 }
def po_X5_init (N : Nm) (b : Nat) : va_W → Prop := fun w1 => ∃ (q0 : Nat) (q1 : Nat) (q2 : Nat) (q3 : Nat) (q4 : Nat) (q5 : Nat) (q6 : Nat), w1 = [(b, .inr (5, [.int 0, .ref q0, .ref q1, .ref q2, .ref q3, .ref q4, .ref q5, .ref q6])), (q0, .inl (N.2.2.1, 80, .inl (fun _ => 0))), (q1, .inl (N.2.2.1, 80, .inl (fun _ => 0))), (q2, .inl (N.2.2.1, 80, .inl (fun _ => 0))), (q3, .inl (N.2.2.1, 80, .inl (fun _ => 0))), (q4, .inl (N.2.2.1, 80, .inl (fun _ => 0))), (q5, .inl (N.2.2.1, 80, .inl (fun _ => 0))), (q6, .inl (N.2.2.2.2.1, 80, .inl (fun _ => 0)))]
set_option maxHeartbeats 4000000 in
set_option maxRecDepth 100000 in
theorem n_X5_init (l : Launch) (D : va_G) (N : Nm) (b : Nat) : Metn l yX5_init (tsU yX5_init cX5_init 1 none) rm_X5_init D N [.ref b] [(b, .inr (5, [.int 0, .null, .null, .null, .null, .null, .null, .null]))] (po_X5_init N b) 7 560 := by
  refine met_n (cc := cX5_init) (nL := 1) (own := RX5) (by decide) rfl rfl (Nat.le_of_ble_eq_true rfl) (fun p e s m args below meth c Q A C hin hO hE => ?_)
  refine bw_sub (lv' := [(0, .ref b)]) [0] rfl ?_
  refine bw_aload_n C 0 dX5_init_0 rfl ?_
  refine bw_obj C lw_4_10 (Nat.le_of_ble_eq_true rfl) (Nat.le_of_ble_eq_true rfl) dX5_init_1 ?_
  refine bw_aload_n C 0 dX5_init_4 rfl ?_
  refine bw_bipush (v := 80) C dX5_init_5 (by decide) ?_
  refine bw_newa (a0 := (80, .inl (fun _ => 0))) C 0 rfl (fun _ h => h) lw_3_11 rfl (fun _ => rfl) (by decide) (by decide) (Nat.le_of_ble_eq_true rfl) (Nat.le_of_ble_eq_true rfl) (Nat.le_of_ble_eq_true rfl) dX5_init_7 (fun q0 => ?_)
  refine bw_n (nc' := 1) (ns' := 80) rfl rfl ?_
  refine bw_eq (ws' := [(b, .inr (5, [.int 0, .null, .null, .null, .null, .null, .null, .null])), (q0, .inl (N.2.2.1, 80, .inl (fun _ => 0)))]) rfl ?_
  refine bw_putF (Cn := RX5) (T := TX5) (nF := 8) (ci := 5) C hin 0 1 tyX5 tyX5_ok nmX5 inLW_X5 rfl rfl (by decide) lw_4_11 rfl rfl rfl rfl rfl rfl (Nat.le_of_ble_eq_true rfl) dX5_init_9 ?_
  refine bw_eq (ws' := [(b, .inr (5, [.int 0, .ref q0, .null, .null, .null, .null, .null, .null])), (q0, .inl (N.2.2.1, 80, .inl (fun _ => 0)))]) rfl ?_
  refine bw_aload_n C 0 dX5_init_12 rfl ?_
  refine bw_bipush (v := 80) C dX5_init_13 (by decide) ?_
  refine bw_newa (a0 := (80, .inl (fun _ => 0))) C 0 rfl (fun _ h => h) lw_3_11 rfl (fun _ => rfl) (by decide) (by decide) (Nat.le_of_ble_eq_true rfl) (Nat.le_of_ble_eq_true rfl) (Nat.le_of_ble_eq_true rfl) dX5_init_15 (fun q1 => ?_)
  refine bw_n (nc' := 2) (ns' := 160) rfl rfl ?_
  refine bw_eq (ws' := [(b, .inr (5, [.int 0, .ref q0, .null, .null, .null, .null, .null, .null])), (q0, .inl (N.2.2.1, 80, .inl (fun _ => 0))), (q1, .inl (N.2.2.1, 80, .inl (fun _ => 0)))]) rfl ?_
  refine bw_putF (Cn := RX5) (T := TX5) (nF := 8) (ci := 5) C hin 0 2 tyX5 tyX5_ok nmX5 inLW_X5 rfl rfl (by decide) lw_4_12 rfl rfl rfl rfl rfl rfl (Nat.le_of_ble_eq_true rfl) dX5_init_17 ?_
  refine bw_eq (ws' := [(b, .inr (5, [.int 0, .ref q0, .ref q1, .null, .null, .null, .null, .null])), (q0, .inl (N.2.2.1, 80, .inl (fun _ => 0))), (q1, .inl (N.2.2.1, 80, .inl (fun _ => 0)))]) rfl ?_
  refine bw_aload_n C 0 dX5_init_20 rfl ?_
  refine bw_bipush (v := 80) C dX5_init_21 (by decide) ?_
  refine bw_newa (a0 := (80, .inl (fun _ => 0))) C 0 rfl (fun _ h => h) lw_3_11 rfl (fun _ => rfl) (by decide) (by decide) (Nat.le_of_ble_eq_true rfl) (Nat.le_of_ble_eq_true rfl) (Nat.le_of_ble_eq_true rfl) dX5_init_23 (fun q2 => ?_)
  refine bw_n (nc' := 3) (ns' := 240) rfl rfl ?_
  refine bw_eq (ws' := [(b, .inr (5, [.int 0, .ref q0, .ref q1, .null, .null, .null, .null, .null])), (q0, .inl (N.2.2.1, 80, .inl (fun _ => 0))), (q1, .inl (N.2.2.1, 80, .inl (fun _ => 0))), (q2, .inl (N.2.2.1, 80, .inl (fun _ => 0)))]) rfl ?_
  refine bw_putF (Cn := RX5) (T := TX5) (nF := 8) (ci := 5) C hin 0 3 tyX5 tyX5_ok nmX5 inLW_X5 rfl rfl (by decide) lw_4_13 rfl rfl rfl rfl rfl rfl (Nat.le_of_ble_eq_true rfl) dX5_init_25 ?_
  refine bw_eq (ws' := [(b, .inr (5, [.int 0, .ref q0, .ref q1, .ref q2, .null, .null, .null, .null])), (q0, .inl (N.2.2.1, 80, .inl (fun _ => 0))), (q1, .inl (N.2.2.1, 80, .inl (fun _ => 0))), (q2, .inl (N.2.2.1, 80, .inl (fun _ => 0)))]) rfl ?_
  refine bw_aload_n C 0 dX5_init_28 rfl ?_
  refine bw_bipush (v := 80) C dX5_init_29 (by decide) ?_
  refine bw_newa (a0 := (80, .inl (fun _ => 0))) C 0 rfl (fun _ h => h) lw_3_11 rfl (fun _ => rfl) (by decide) (by decide) (Nat.le_of_ble_eq_true rfl) (Nat.le_of_ble_eq_true rfl) (Nat.le_of_ble_eq_true rfl) dX5_init_31 (fun q3 => ?_)
  refine bw_n (nc' := 4) (ns' := 320) rfl rfl ?_
  refine bw_eq (ws' := [(b, .inr (5, [.int 0, .ref q0, .ref q1, .ref q2, .null, .null, .null, .null])), (q0, .inl (N.2.2.1, 80, .inl (fun _ => 0))), (q1, .inl (N.2.2.1, 80, .inl (fun _ => 0))), (q2, .inl (N.2.2.1, 80, .inl (fun _ => 0))), (q3, .inl (N.2.2.1, 80, .inl (fun _ => 0)))]) rfl ?_
  refine bw_putF (Cn := RX5) (T := TX5) (nF := 8) (ci := 5) C hin 0 4 tyX5 tyX5_ok nmX5 inLW_X5 rfl rfl (by decide) lw_4_14 rfl rfl rfl rfl rfl rfl (Nat.le_of_ble_eq_true rfl) dX5_init_33 ?_
  refine bw_eq (ws' := [(b, .inr (5, [.int 0, .ref q0, .ref q1, .ref q2, .ref q3, .null, .null, .null])), (q0, .inl (N.2.2.1, 80, .inl (fun _ => 0))), (q1, .inl (N.2.2.1, 80, .inl (fun _ => 0))), (q2, .inl (N.2.2.1, 80, .inl (fun _ => 0))), (q3, .inl (N.2.2.1, 80, .inl (fun _ => 0)))]) rfl ?_
  refine bw_aload_n C 0 dX5_init_36 rfl ?_
  refine bw_bipush (v := 80) C dX5_init_37 (by decide) ?_
  refine bw_newa (a0 := (80, .inl (fun _ => 0))) C 0 rfl (fun _ h => h) lw_3_11 rfl (fun _ => rfl) (by decide) (by decide) (Nat.le_of_ble_eq_true rfl) (Nat.le_of_ble_eq_true rfl) (Nat.le_of_ble_eq_true rfl) dX5_init_39 (fun q4 => ?_)
  refine bw_n (nc' := 5) (ns' := 400) rfl rfl ?_
  refine bw_eq (ws' := [(b, .inr (5, [.int 0, .ref q0, .ref q1, .ref q2, .ref q3, .null, .null, .null])), (q0, .inl (N.2.2.1, 80, .inl (fun _ => 0))), (q1, .inl (N.2.2.1, 80, .inl (fun _ => 0))), (q2, .inl (N.2.2.1, 80, .inl (fun _ => 0))), (q3, .inl (N.2.2.1, 80, .inl (fun _ => 0))), (q4, .inl (N.2.2.1, 80, .inl (fun _ => 0)))]) rfl ?_
  refine bw_putF (Cn := RX5) (T := TX5) (nF := 8) (ci := 5) C hin 0 5 tyX5 tyX5_ok nmX5 inLW_X5 rfl rfl (by decide) lw_4_15 rfl rfl rfl rfl rfl rfl (Nat.le_of_ble_eq_true rfl) dX5_init_41 ?_
  refine bw_eq (ws' := [(b, .inr (5, [.int 0, .ref q0, .ref q1, .ref q2, .ref q3, .ref q4, .null, .null])), (q0, .inl (N.2.2.1, 80, .inl (fun _ => 0))), (q1, .inl (N.2.2.1, 80, .inl (fun _ => 0))), (q2, .inl (N.2.2.1, 80, .inl (fun _ => 0))), (q3, .inl (N.2.2.1, 80, .inl (fun _ => 0))), (q4, .inl (N.2.2.1, 80, .inl (fun _ => 0)))]) rfl ?_
  refine bw_aload_n C 0 dX5_init_44 rfl ?_
  refine bw_bipush (v := 80) C dX5_init_45 (by decide) ?_
  refine bw_newa (a0 := (80, .inl (fun _ => 0))) C 0 rfl (fun _ h => h) lw_3_11 rfl (fun _ => rfl) (by decide) (by decide) (Nat.le_of_ble_eq_true rfl) (Nat.le_of_ble_eq_true rfl) (Nat.le_of_ble_eq_true rfl) dX5_init_47 (fun q5 => ?_)
  refine bw_n (nc' := 6) (ns' := 480) rfl rfl ?_
  refine bw_eq (ws' := [(b, .inr (5, [.int 0, .ref q0, .ref q1, .ref q2, .ref q3, .ref q4, .null, .null])), (q0, .inl (N.2.2.1, 80, .inl (fun _ => 0))), (q1, .inl (N.2.2.1, 80, .inl (fun _ => 0))), (q2, .inl (N.2.2.1, 80, .inl (fun _ => 0))), (q3, .inl (N.2.2.1, 80, .inl (fun _ => 0))), (q4, .inl (N.2.2.1, 80, .inl (fun _ => 0))), (q5, .inl (N.2.2.1, 80, .inl (fun _ => 0)))]) rfl ?_
  refine bw_putF (Cn := RX5) (T := TX5) (nF := 8) (ci := 5) C hin 0 6 tyX5 tyX5_ok nmX5 inLW_X5 rfl rfl (by decide) lw_4_16 rfl rfl rfl rfl rfl rfl (Nat.le_of_ble_eq_true rfl) dX5_init_49 ?_
  refine bw_eq (ws' := [(b, .inr (5, [.int 0, .ref q0, .ref q1, .ref q2, .ref q3, .ref q4, .ref q5, .null])), (q0, .inl (N.2.2.1, 80, .inl (fun _ => 0))), (q1, .inl (N.2.2.1, 80, .inl (fun _ => 0))), (q2, .inl (N.2.2.1, 80, .inl (fun _ => 0))), (q3, .inl (N.2.2.1, 80, .inl (fun _ => 0))), (q4, .inl (N.2.2.1, 80, .inl (fun _ => 0))), (q5, .inl (N.2.2.1, 80, .inl (fun _ => 0)))]) rfl ?_
  refine bw_aload_n C 0 dX5_init_52 rfl ?_
  refine bw_bipush (v := 80) C dX5_init_53 (by decide) ?_
  refine bw_newa (a0 := (80, .inl (fun _ => 0))) C 2 rfl (fun _ h => h) lw_4_17 rfl (fun _ => rfl) (by decide) (by decide) (Nat.le_of_ble_eq_true rfl) (Nat.le_of_ble_eq_true rfl) (Nat.le_of_ble_eq_true rfl) dX5_init_55 (fun q6 => ?_)
  refine bw_n (nc' := 7) (ns' := 560) rfl rfl ?_
  refine bw_eq (ws' := [(b, .inr (5, [.int 0, .ref q0, .ref q1, .ref q2, .ref q3, .ref q4, .ref q5, .null])), (q0, .inl (N.2.2.1, 80, .inl (fun _ => 0))), (q1, .inl (N.2.2.1, 80, .inl (fun _ => 0))), (q2, .inl (N.2.2.1, 80, .inl (fun _ => 0))), (q3, .inl (N.2.2.1, 80, .inl (fun _ => 0))), (q4, .inl (N.2.2.1, 80, .inl (fun _ => 0))), (q5, .inl (N.2.2.1, 80, .inl (fun _ => 0))), (q6, .inl (N.2.2.2.2.1, 80, .inl (fun _ => 0)))]) rfl ?_
  refine bw_putF (Cn := RX5) (T := TX5) (nF := 8) (ci := 5) C hin 0 7 tyX5 tyX5_ok nmX5 inLW_X5 rfl rfl (by decide) lw_4_18 rfl rfl rfl rfl rfl rfl (Nat.le_of_ble_eq_true rfl) dX5_init_57 ?_
  refine bw_eq (ws' := [(b, .inr (5, [.int 0, .ref q0, .ref q1, .ref q2, .ref q3, .ref q4, .ref q5, .ref q6])), (q0, .inl (N.2.2.1, 80, .inl (fun _ => 0))), (q1, .inl (N.2.2.1, 80, .inl (fun _ => 0))), (q2, .inl (N.2.2.1, 80, .inl (fun _ => 0))), (q3, .inl (N.2.2.1, 80, .inl (fun _ => 0))), (q4, .inl (N.2.2.1, 80, .inl (fun _ => 0))), (q5, .inl (N.2.2.1, 80, .inl (fun _ => 0))), (q6, .inl (N.2.2.2.2.1, 80, .inl (fun _ => 0)))]) rfl ?_
  exact bw_ret hE ⟨q0, q1, q2, q3, q4, q5, q6, rfl⟩ dX5_init_60
def rm_X6_init : Room := { frames := 1, cells := 1, slots := 400, locals := 20 }
def po_X6_init (N : Nm) (b : Nat) : va_W → Prop := fun w1 => ∃ (q0 : Nat), w1 = [(b, .inr (6, [.int 0, .int 0, .int (-1), .ref q0, .int 0, .int 0, .int 0, .int 0, .int 0, .int 0, .int 0, .int 0, .null])), (q0, .inl (N.2.2.1, 400, .inl (fun _ => 0)))]
set_option maxHeartbeats 4000000 in
set_option maxRecDepth 100000 in
theorem n_X6_init (l : Launch) (D : va_G) (N : Nm) (b : Nat) : Metn l yX6_init (tsU yX6_init cX6_init 1 none) rm_X6_init D N [.ref b] [(b, .inr (6, [.int 0, .int 0, .int 0, .null, .int 0, .int 0, .int 0, .int 0, .int 0, .int 0, .int 0, .int 0, .null]))] (po_X6_init N b) 1 400 := by
  refine met_n (cc := cX6_init) (nL := 1) (own := RX6) (by decide) rfl rfl (Nat.le_of_ble_eq_true rfl) (fun p e s m args below meth c Q A C hin hO hE => ?_)
  refine bw_sub (lv' := [(0, .ref b)]) [0] rfl ?_
  refine bw_aload_n C 0 dX6_init_0 rfl ?_
  refine bw_obj C lw_5_8 (Nat.le_of_ble_eq_true rfl) (Nat.le_of_ble_eq_true rfl) dX6_init_1 ?_
  refine bw_aload_n C 0 dX6_init_4 rfl ?_
  refine bw_iconst (v := -1) C dX6_init_5 (by decide) ?_
  refine bw_put (Cn := RX6) (T := TX6) (nF := 13) (ci := 6) C 0 2 tyX6 tyX6_ok nmX6 inLW_X6 rfl rfl (by decide) lw_5_9 rfl rfl rfl rfl rfl (Nat.le_of_ble_eq_true rfl) dX6_init_6 ?_
  refine bw_eq (ws' := [(b, .inr (6, [.int 0, .int 0, .int (-1), .null, .int 0, .int 0, .int 0, .int 0, .int 0, .int 0, .int 0, .int 0, .null]))]) rfl ?_
  refine bw_aload_n C 0 dX6_init_9 rfl ?_
  refine bw_sipush (v := 400) C dX6_init_10 (by decide) ?_
  refine bw_newa (a0 := (400, .inl (fun _ => 0))) C 0 rfl (fun _ h => h) lw_3_11 rfl (fun _ => rfl) (by decide) (by decide) (Nat.le_of_ble_eq_true rfl) (Nat.le_of_ble_eq_true rfl) (Nat.le_of_ble_eq_true rfl) dX6_init_13 (fun q0 => ?_)
  refine bw_n (nc' := 1) (ns' := 400) rfl rfl ?_
  refine bw_eq (ws' := [(b, .inr (6, [.int 0, .int 0, .int (-1), .null, .int 0, .int 0, .int 0, .int 0, .int 0, .int 0, .int 0, .int 0, .null])), (q0, .inl (N.2.2.1, 400, .inl (fun _ => 0)))]) rfl ?_
  refine bw_putF (Cn := RX6) (T := TX6) (nF := 13) (ci := 6) C hin 0 3 tyX6 tyX6_ok nmX6 inLW_X6 rfl rfl (by decide) lw_5_10 rfl rfl rfl rfl rfl rfl (Nat.le_of_ble_eq_true rfl) dX6_init_15 ?_
  refine bw_eq (ws' := [(b, .inr (6, [.int 0, .int 0, .int (-1), .ref q0, .int 0, .int 0, .int 0, .int 0, .int 0, .int 0, .int 0, .int 0, .null])), (q0, .inl (N.2.2.1, 400, .inl (fun _ => 0)))]) rfl ?_
  exact bw_ret hE ⟨q0, rfl⟩ dX6_init_18
def rm_X1_init : Room := { frames := 1, cells := 2, slots := 24, locals := 20 }
def po_X1_init (N : Nm) (b : Nat) : va_W → Prop := fun w1 => ∃ (q0 : Nat) (q1 : Nat), w1 = [(b, .inr (1, [.int 0, .ref q0, .ref q1])), (q0, .inl (N.2.2.1, 12, .inl (fun _ => 0))), (q1, .inl (N.2.2.1, 12, .inl (fun _ => 0)))]
set_option maxHeartbeats 4000000 in
set_option maxRecDepth 100000 in
theorem n_X1_init (l : Launch) (D : va_G) (N : Nm) (b : Nat) : Metn l yX1_init (tsU yX1_init cX1_init 1 none) rm_X1_init D N [.ref b] [(b, .inr (1, [.int 0, .null, .null]))] (po_X1_init N b) 2 24 := by
  refine met_n (cc := cX1_init) (nL := 1) (own := RX1) (by decide) rfl rfl (Nat.le_of_ble_eq_true rfl) (fun p e s m args below meth c Q A C hin hO hE => ?_)
  refine bw_sub (lv' := [(0, .ref b)]) [0] rfl ?_
  refine bw_aload_n C 0 dX1_init_0 rfl ?_
  refine bw_obj C lw_6_5 (Nat.le_of_ble_eq_true rfl) (Nat.le_of_ble_eq_true rfl) dX1_init_1 ?_
  refine bw_aload_n C 0 dX1_init_4 rfl ?_
  refine bw_bipush (v := 12) C dX1_init_5 (by decide) ?_
  refine bw_newa (a0 := (12, .inl (fun _ => 0))) C 0 rfl (fun _ h => h) lw_3_11 rfl (fun _ => rfl) (by decide) (by decide) (Nat.le_of_ble_eq_true rfl) (Nat.le_of_ble_eq_true rfl) (Nat.le_of_ble_eq_true rfl) dX1_init_7 (fun q0 => ?_)
  refine bw_n (nc' := 1) (ns' := 12) rfl rfl ?_
  refine bw_eq (ws' := [(b, .inr (1, [.int 0, .null, .null])), (q0, .inl (N.2.2.1, 12, .inl (fun _ => 0)))]) rfl ?_
  refine bw_putF (Cn := RX1) (T := TX1) (nF := 3) (ci := 1) C hin 0 1 tyX1 tyX1_ok nmX1 inLW_X1 rfl rfl (by decide) lw_6_6 rfl rfl rfl rfl rfl rfl (Nat.le_of_ble_eq_true rfl) dX1_init_9 ?_
  refine bw_eq (ws' := [(b, .inr (1, [.int 0, .ref q0, .null])), (q0, .inl (N.2.2.1, 12, .inl (fun _ => 0)))]) rfl ?_
  refine bw_aload_n C 0 dX1_init_12 rfl ?_
  refine bw_bipush (v := 12) C dX1_init_13 (by decide) ?_
  refine bw_newa (a0 := (12, .inl (fun _ => 0))) C 0 rfl (fun _ h => h) lw_3_11 rfl (fun _ => rfl) (by decide) (by decide) (Nat.le_of_ble_eq_true rfl) (Nat.le_of_ble_eq_true rfl) (Nat.le_of_ble_eq_true rfl) dX1_init_15 (fun q1 => ?_)
  refine bw_n (nc' := 2) (ns' := 24) rfl rfl ?_
  refine bw_eq (ws' := [(b, .inr (1, [.int 0, .ref q0, .null])), (q0, .inl (N.2.2.1, 12, .inl (fun _ => 0))), (q1, .inl (N.2.2.1, 12, .inl (fun _ => 0)))]) rfl ?_
  refine bw_putF (Cn := RX1) (T := TX1) (nF := 3) (ci := 1) C hin 0 2 tyX1 tyX1_ok nmX1 inLW_X1 rfl rfl (by decide) lw_6_7 rfl rfl rfl rfl rfl rfl (Nat.le_of_ble_eq_true rfl) dX1_init_17 ?_
  refine bw_eq (ws' := [(b, .inr (1, [.int 0, .ref q0, .ref q1])), (q0, .inl (N.2.2.1, 12, .inl (fun _ => 0))), (q1, .inl (N.2.2.1, 12, .inl (fun _ => 0)))]) rfl ?_
  exact bw_ret hE ⟨q0, q1, rfl⟩ dX1_init_20
def rm_X3_init : Room := { frames := 1, cells := 1, slots := 64, locals := 20 }
def po_X3_init (N : Nm) (b x1 x2 : Nat) : va_W → Prop := fun w1 => ∃ (q0 : Nat), w1 = [(b, .inr (3, [.ref x1, .ref x2, .ref q0, .int 0])), (q0, .inl (N.2.2.2.1, 64, .inr (.inl (fun _ => 0))))]
set_option maxHeartbeats 4000000 in
set_option maxRecDepth 100000 in
theorem n_X3_init (l : Launch) (D : va_G) (N : Nm) (b x1 x2 : Nat) : Metn l yX3_init (tsU yX3_init cX3_init 3 none) rm_X3_init D N [.ref b, .ref x1, .ref x2] [(b, .inr (3, [.null, .null, .null, .int 0]))] (po_X3_init N b x1 x2) 1 64 := by
  refine met_n (cc := cX3_init) (nL := 3) (own := RX3) (by decide) rfl rfl (Nat.le_of_ble_eq_true rfl) (fun p e s m args below meth c Q A C hin hO hE => ?_)
  refine bw_sub (lv' := [(0, .ref b), (1, .ref x1), (2, .ref x2)]) [0, 1, 2] rfl ?_
  refine bw_aload_n C 0 dX3_init_0 rfl ?_
  refine bw_obj C lw_6_11 (Nat.le_of_ble_eq_true rfl) (Nat.le_of_ble_eq_true rfl) dX3_init_1 ?_
  refine bw_aload_n C 0 dX3_init_4 rfl ?_
  refine bw_bipush (v := 64) C dX3_init_5 (by decide) ?_
  refine bw_newa (a0 := (64, .inr (.inl (fun _ => 0)))) C 1 rfl (fun _ h => h) lw_1_6 rfl (fun _ => rfl) (by decide) (by decide) (Nat.le_of_ble_eq_true rfl) (Nat.le_of_ble_eq_true rfl) (Nat.le_of_ble_eq_true rfl) dX3_init_7 (fun q0 => ?_)
  refine bw_n (nc' := 1) (ns' := 64) rfl rfl ?_
  refine bw_eq (ws' := [(b, .inr (3, [.null, .null, .null, .int 0])), (q0, .inl (N.2.2.2.1, 64, .inr (.inl (fun _ => 0))))]) rfl ?_
  refine bw_putF (Cn := RX3) (T := TX3) (nF := 4) (ci := 3) C hin 0 2 tyX3 tyX3_ok nmX3 inLW_X3 rfl rfl (by decide) lw_6_12 rfl rfl rfl rfl rfl rfl (Nat.le_of_ble_eq_true rfl) dX3_init_9 ?_
  refine bw_eq (ws' := [(b, .inr (3, [.null, .null, .ref q0, .int 0])), (q0, .inl (N.2.2.2.1, 64, .inr (.inl (fun _ => 0))))]) rfl ?_
  refine bw_aload_n C 0 dX3_init_12 rfl ?_
  refine bw_aload_n C 1 dX3_init_13 rfl ?_
  refine bw_putF (Cn := RX3) (T := TX3) (nF := 4) (ci := 3) C hin 0 0 tyX3 tyX3_ok nmX3 inLW_X3 rfl rfl (by decide) lw_6_13 rfl rfl rfl rfl rfl rfl (Nat.le_of_ble_eq_true rfl) dX3_init_14 ?_
  refine bw_eq (ws' := [(b, .inr (3, [.ref x1, .null, .ref q0, .int 0])), (q0, .inl (N.2.2.2.1, 64, .inr (.inl (fun _ => 0))))]) rfl ?_
  refine bw_aload_n C 0 dX3_init_17 rfl ?_
  refine bw_aload_n C 2 dX3_init_18 rfl ?_
  refine bw_putF (Cn := RX3) (T := TX3) (nF := 4) (ci := 3) C hin 0 1 tyX3 tyX3_ok nmX3 inLW_X3 rfl rfl (by decide) lw_6_14 rfl rfl rfl rfl rfl rfl (Nat.le_of_ble_eq_true rfl) dX3_init_19 ?_
  refine bw_eq (ws' := [(b, .inr (3, [.ref x1, .ref x2, .ref q0, .int 0])), (q0, .inl (N.2.2.2.1, 64, .inr (.inl (fun _ => 0))))]) rfl ?_
  exact bw_ret hE ⟨q0, rfl⟩ dX3_init_22
def rm_X10_init : Room := { frames := 1, cells := 4, slots := 92, locals := 20 }
def po_X10_init (N : Nm) (b x1 x2 : Nat) : va_W → Prop := fun w1 => ∃ (q0 : Nat) (q1 : Nat) (q2 : Nat) (q3 : Nat), w1 = [(b, .inr (9, [.int 0, .int 0, .ref x1, .ref x2, .int 0, .int 0, .int 0, .ref q0, .ref q1, .ref q2, .ref q3])), (q0, .inl (N.2.2.1, 17, .inl (fun _ => 0))), (q1, .inl (N.2.2.1, 25, .inl (fun _ => 0))), (q2, .inl (N.2.2.1, 25, .inl (fun _ => 0))), (q3, .inl (N.2.2.1, 25, .inl (fun _ => 0)))]
set_option maxHeartbeats 4000000 in
set_option maxRecDepth 100000 in
theorem n_X10_init (l : Launch) (D : va_G) (N : Nm) (b x1 x2 : Nat) : Metn l yX10_init (tsU yX10_init cX10_init 3 none) rm_X10_init D N [.ref b, .ref x1, .ref x2] [(b, .inr (9, [.int 0, .int 0, .null, .null, .int 0, .int 0, .int 0, .null, .null, .null, .null]))] (po_X10_init N b x1 x2) 4 92 := by
  refine met_n (cc := cX10_init) (nL := 3) (own := RX10) (by decide) rfl rfl (Nat.le_of_ble_eq_true rfl) (fun p e s m args below meth c Q A C hin hO hE => ?_)
  refine bw_sub (lv' := [(0, .ref b), (1, .ref x1), (2, .ref x2)]) [0, 1, 2] rfl ?_
  refine bw_aload_n C 0 dX10_init_0 rfl ?_
  refine bw_obj C lw_6_18 (Nat.le_of_ble_eq_true rfl) (Nat.le_of_ble_eq_true rfl) dX10_init_1 ?_
  refine bw_aload_n C 0 dX10_init_4 rfl ?_
  refine bw_bipush (v := 17) C dX10_init_5 (by decide) ?_
  refine bw_newa (a0 := (17, .inl (fun _ => 0))) C 0 rfl (fun _ h => h) lw_3_11 rfl (fun _ => rfl) (by decide) (by decide) (Nat.le_of_ble_eq_true rfl) (Nat.le_of_ble_eq_true rfl) (Nat.le_of_ble_eq_true rfl) dX10_init_7 (fun q0 => ?_)
  refine bw_n (nc' := 1) (ns' := 17) rfl rfl ?_
  refine bw_eq (ws' := [(b, .inr (9, [.int 0, .int 0, .null, .null, .int 0, .int 0, .int 0, .null, .null, .null, .null])), (q0, .inl (N.2.2.1, 17, .inl (fun _ => 0)))]) rfl ?_
  refine bw_putF (Cn := RX10) (T := TX10) (nF := 11) (ci := 9) C hin 0 7 tyX10 tyX10_ok nmX10 inLW_X10 rfl rfl (by decide) lw_6_19 rfl rfl rfl rfl rfl rfl (Nat.le_of_ble_eq_true rfl) dX10_init_9 ?_
  refine bw_eq (ws' := [(b, .inr (9, [.int 0, .int 0, .null, .null, .int 0, .int 0, .int 0, .ref q0, .null, .null, .null])), (q0, .inl (N.2.2.1, 17, .inl (fun _ => 0)))]) rfl ?_
  refine bw_aload_n C 0 dX10_init_12 rfl ?_
  refine bw_bipush (v := 25) C dX10_init_13 (by decide) ?_
  refine bw_newa (a0 := (25, .inl (fun _ => 0))) C 0 rfl (fun _ h => h) lw_3_11 rfl (fun _ => rfl) (by decide) (by decide) (Nat.le_of_ble_eq_true rfl) (Nat.le_of_ble_eq_true rfl) (Nat.le_of_ble_eq_true rfl) dX10_init_15 (fun q1 => ?_)
  refine bw_n (nc' := 2) (ns' := 42) rfl rfl ?_
  refine bw_eq (ws' := [(b, .inr (9, [.int 0, .int 0, .null, .null, .int 0, .int 0, .int 0, .ref q0, .null, .null, .null])), (q0, .inl (N.2.2.1, 17, .inl (fun _ => 0))), (q1, .inl (N.2.2.1, 25, .inl (fun _ => 0)))]) rfl ?_
  refine bw_putF (Cn := RX10) (T := TX10) (nF := 11) (ci := 9) C hin 0 8 tyX10 tyX10_ok nmX10 inLW_X10 rfl rfl (by decide) lw_6_20 rfl rfl rfl rfl rfl rfl (Nat.le_of_ble_eq_true rfl) dX10_init_17 ?_
  refine bw_eq (ws' := [(b, .inr (9, [.int 0, .int 0, .null, .null, .int 0, .int 0, .int 0, .ref q0, .ref q1, .null, .null])), (q0, .inl (N.2.2.1, 17, .inl (fun _ => 0))), (q1, .inl (N.2.2.1, 25, .inl (fun _ => 0)))]) rfl ?_
  refine bw_aload_n C 0 dX10_init_20 rfl ?_
  refine bw_bipush (v := 25) C dX10_init_21 (by decide) ?_
  refine bw_newa (a0 := (25, .inl (fun _ => 0))) C 0 rfl (fun _ h => h) lw_3_11 rfl (fun _ => rfl) (by decide) (by decide) (Nat.le_of_ble_eq_true rfl) (Nat.le_of_ble_eq_true rfl) (Nat.le_of_ble_eq_true rfl) dX10_init_23 (fun q2 => ?_)
  refine bw_n (nc' := 3) (ns' := 67) rfl rfl ?_
  refine bw_eq (ws' := [(b, .inr (9, [.int 0, .int 0, .null, .null, .int 0, .int 0, .int 0, .ref q0, .ref q1, .null, .null])), (q0, .inl (N.2.2.1, 17, .inl (fun _ => 0))), (q1, .inl (N.2.2.1, 25, .inl (fun _ => 0))), (q2, .inl (N.2.2.1, 25, .inl (fun _ => 0)))]) rfl ?_
  refine bw_putF (Cn := RX10) (T := TX10) (nF := 11) (ci := 9) C hin 0 9 tyX10 tyX10_ok nmX10 inLW_X10 rfl rfl (by decide) lw_6_21 rfl rfl rfl rfl rfl rfl (Nat.le_of_ble_eq_true rfl) dX10_init_25 ?_
  refine bw_eq (ws' := [(b, .inr (9, [.int 0, .int 0, .null, .null, .int 0, .int 0, .int 0, .ref q0, .ref q1, .ref q2, .null])), (q0, .inl (N.2.2.1, 17, .inl (fun _ => 0))), (q1, .inl (N.2.2.1, 25, .inl (fun _ => 0))), (q2, .inl (N.2.2.1, 25, .inl (fun _ => 0)))]) rfl ?_
  refine bw_aload_n C 0 dX10_init_28 rfl ?_
  refine bw_bipush (v := 25) C dX10_init_29 (by decide) ?_
  refine bw_newa (a0 := (25, .inl (fun _ => 0))) C 0 rfl (fun _ h => h) lw_3_11 rfl (fun _ => rfl) (by decide) (by decide) (Nat.le_of_ble_eq_true rfl) (Nat.le_of_ble_eq_true rfl) (Nat.le_of_ble_eq_true rfl) dX10_init_31 (fun q3 => ?_)
  refine bw_n (nc' := 4) (ns' := 92) rfl rfl ?_
  refine bw_eq (ws' := [(b, .inr (9, [.int 0, .int 0, .null, .null, .int 0, .int 0, .int 0, .ref q0, .ref q1, .ref q2, .null])), (q0, .inl (N.2.2.1, 17, .inl (fun _ => 0))), (q1, .inl (N.2.2.1, 25, .inl (fun _ => 0))), (q2, .inl (N.2.2.1, 25, .inl (fun _ => 0))), (q3, .inl (N.2.2.1, 25, .inl (fun _ => 0)))]) rfl ?_
  refine bw_putF (Cn := RX10) (T := TX10) (nF := 11) (ci := 9) C hin 0 10 tyX10 tyX10_ok nmX10 inLW_X10 rfl rfl (by decide) lw_6_22 rfl rfl rfl rfl rfl rfl (Nat.le_of_ble_eq_true rfl) dX10_init_33 ?_
  refine bw_eq (ws' := [(b, .inr (9, [.int 0, .int 0, .null, .null, .int 0, .int 0, .int 0, .ref q0, .ref q1, .ref q2, .ref q3])), (q0, .inl (N.2.2.1, 17, .inl (fun _ => 0))), (q1, .inl (N.2.2.1, 25, .inl (fun _ => 0))), (q2, .inl (N.2.2.1, 25, .inl (fun _ => 0))), (q3, .inl (N.2.2.1, 25, .inl (fun _ => 0)))]) rfl ?_
  refine bw_aload_n C 0 dX10_init_36 rfl ?_
  refine bw_aload_n C 1 dX10_init_37 rfl ?_
  refine bw_putF (Cn := RX10) (T := TX10) (nF := 11) (ci := 9) C hin 0 2 tyX10 tyX10_ok nmX10 inLW_X10 rfl rfl (by decide) lw_6_23 rfl rfl rfl rfl rfl rfl (Nat.le_of_ble_eq_true rfl) dX10_init_38 ?_
  refine bw_eq (ws' := [(b, .inr (9, [.int 0, .int 0, .ref x1, .null, .int 0, .int 0, .int 0, .ref q0, .ref q1, .ref q2, .ref q3])), (q0, .inl (N.2.2.1, 17, .inl (fun _ => 0))), (q1, .inl (N.2.2.1, 25, .inl (fun _ => 0))), (q2, .inl (N.2.2.1, 25, .inl (fun _ => 0))), (q3, .inl (N.2.2.1, 25, .inl (fun _ => 0)))]) rfl ?_
  refine bw_aload_n C 0 dX10_init_41 rfl ?_
  refine bw_aload_n C 2 dX10_init_42 rfl ?_
  refine bw_putF (Cn := RX10) (T := TX10) (nF := 11) (ci := 9) C hin 0 3 tyX10 tyX10_ok nmX10 inLW_X10 rfl rfl (by decide) lw_7_0 rfl rfl rfl rfl rfl rfl (Nat.le_of_ble_eq_true rfl) dX10_init_43 ?_
  refine bw_eq (ws' := [(b, .inr (9, [.int 0, .int 0, .ref x1, .ref x2, .int 0, .int 0, .int 0, .ref q0, .ref q1, .ref q2, .ref q3])), (q0, .inl (N.2.2.1, 17, .inl (fun _ => 0))), (q1, .inl (N.2.2.1, 25, .inl (fun _ => 0))), (q2, .inl (N.2.2.1, 25, .inl (fun _ => 0))), (q3, .inl (N.2.2.1, 25, .inl (fun _ => 0)))]) rfl ?_
  exact bw_ret hE ⟨q0, q1, q2, q3, rfl⟩ dX10_init_46
def rm_X7_init : Room := { frames := 1, cells := 2, slots := 16, locals := 20 }
def po_X7_init (N : Nm) (b x1 : Nat) : va_W → Prop := fun w1 => ∃ (q0 : Nat) (q1 : Nat), w1 = [(b, .inr (7, [.ref q0, .ref q1, .ref x1])), (q0, .inl (N.2.2.1, 8, .inl (fun _ => 0))), (q1, .inl (N.2.2.1, 8, .inl (fun _ => 0)))]
set_option maxHeartbeats 4000000 in
set_option maxRecDepth 100000 in
theorem n_X7_init (l : Launch) (D : va_G) (N : Nm) (b x1 : Nat) : Metn l yX7_init (tsU yX7_init cX7_init 2 none) rm_X7_init D N [.ref b, .ref x1] [(b, .inr (7, [.null, .null, .null]))] (po_X7_init N b x1) 2 16 := by
  refine met_n (cc := cX7_init) (nL := 2) (own := RX7) (by decide) rfl rfl (Nat.le_of_ble_eq_true rfl) (fun p e s m args below meth c Q A C hin hO hE => ?_)
  refine bw_sub (lv' := [(0, .ref b), (1, .ref x1)]) [0, 1] rfl ?_
  refine bw_aload_n C 0 dX7_init_0 rfl ?_
  refine bw_obj C lw_7_4 (Nat.le_of_ble_eq_true rfl) (Nat.le_of_ble_eq_true rfl) dX7_init_1 ?_
  refine bw_aload_n C 0 dX7_init_4 rfl ?_
  refine bw_bipush (v := 8) C dX7_init_5 (by decide) ?_
  refine bw_newa (a0 := (8, .inl (fun _ => 0))) C 0 rfl (fun _ h => h) lw_3_11 rfl (fun _ => rfl) (by decide) (by decide) (Nat.le_of_ble_eq_true rfl) (Nat.le_of_ble_eq_true rfl) (Nat.le_of_ble_eq_true rfl) dX7_init_7 (fun q0 => ?_)
  refine bw_n (nc' := 1) (ns' := 8) rfl rfl ?_
  refine bw_eq (ws' := [(b, .inr (7, [.null, .null, .null])), (q0, .inl (N.2.2.1, 8, .inl (fun _ => 0)))]) rfl ?_
  refine bw_putF (Cn := RX7) (T := TX7) (nF := 3) (ci := 7) C hin 0 0 tyX7 tyX7_ok nmX7 inLW_X7 rfl rfl (by decide) lw_7_5 rfl rfl rfl rfl rfl rfl (Nat.le_of_ble_eq_true rfl) dX7_init_9 ?_
  refine bw_eq (ws' := [(b, .inr (7, [.ref q0, .null, .null])), (q0, .inl (N.2.2.1, 8, .inl (fun _ => 0)))]) rfl ?_
  refine bw_aload_n C 0 dX7_init_12 rfl ?_
  refine bw_bipush (v := 8) C dX7_init_13 (by decide) ?_
  refine bw_newa (a0 := (8, .inl (fun _ => 0))) C 0 rfl (fun _ h => h) lw_3_11 rfl (fun _ => rfl) (by decide) (by decide) (Nat.le_of_ble_eq_true rfl) (Nat.le_of_ble_eq_true rfl) (Nat.le_of_ble_eq_true rfl) dX7_init_15 (fun q1 => ?_)
  refine bw_n (nc' := 2) (ns' := 16) rfl rfl ?_
  refine bw_eq (ws' := [(b, .inr (7, [.ref q0, .null, .null])), (q0, .inl (N.2.2.1, 8, .inl (fun _ => 0))), (q1, .inl (N.2.2.1, 8, .inl (fun _ => 0)))]) rfl ?_
  refine bw_putF (Cn := RX7) (T := TX7) (nF := 3) (ci := 7) C hin 0 1 tyX7 tyX7_ok nmX7 inLW_X7 rfl rfl (by decide) lw_7_6 rfl rfl rfl rfl rfl rfl (Nat.le_of_ble_eq_true rfl) dX7_init_17 ?_
  refine bw_eq (ws' := [(b, .inr (7, [.ref q0, .ref q1, .null])), (q0, .inl (N.2.2.1, 8, .inl (fun _ => 0))), (q1, .inl (N.2.2.1, 8, .inl (fun _ => 0)))]) rfl ?_
  refine bw_aload_n C 0 dX7_init_20 rfl ?_
  refine bw_aload_n C 1 dX7_init_21 rfl ?_
  refine bw_putF (Cn := RX7) (T := TX7) (nF := 3) (ci := 7) C hin 0 2 tyX7 tyX7_ok nmX7 inLW_X7 rfl rfl (by decide) lw_7_7 rfl rfl rfl rfl rfl rfl (Nat.le_of_ble_eq_true rfl) dX7_init_22 ?_
  refine bw_eq (ws' := [(b, .inr (7, [.ref q0, .ref q1, .ref x1])), (q0, .inl (N.2.2.1, 8, .inl (fun _ => 0))), (q1, .inl (N.2.2.1, 8, .inl (fun _ => 0)))]) rfl ?_
  exact bw_ret hE ⟨q0, q1, rfl⟩ dX7_init_25
