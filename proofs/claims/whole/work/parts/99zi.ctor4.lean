/-! MAKING: AwardLine -/
/-- the class's state as it is made: Land laid 3 by 3, both Terms cleared, the reader's faultPlace -1, all else 0 -/
def newC (z : St) : Prop := ∃ zl zt zs : St, layP1 St0 3 3 zl ∧ (zt.1 0 = 0 ∧ zt.1 1 = 10 ∧ zt.1 2 = 5 ∧ zt.1 3 = 0 ∧ ∀ k j, zt.2.1 k j = 0) ∧ (zs.1 0 = 0 ∧ zs.1 1 = 10 ∧ zs.1 2 = 5 ∧ zs.1 3 = 0 ∧ ∀ k j, zs.2.1 k j = 0) ∧ z = ((fun k => [0, 0, 0, -1, 0, 0, 0, 0, 0, 0, 0, 0, 0, zt.1 0, zt.1 1, zt.1 2, zt.1 3, zs.1 0, zs.1 1, zs.1 2, zs.1 3, zl.1 0, zl.1 1, zl.1 2, zl.1 3, zl.1 4, zl.1 5, zl.1 6, zl.1 7, 0, 0, 0, 0, 0, 0, 0, 0, 0, 0, 0, 0, 0].getD k 0), (fun k => [(fun _ => 0), (zt.2.1 0), (zt.2.1 1), (zt.2.1 2), (zs.2.1 0), (zs.2.1 1), (zs.2.1 2), (zl.2.1 0), (zl.2.1 1), (zl.2.1 2), (zl.2.1 3), (fun _ => 0), (fun _ => 0), (fun _ => 0), (fun _ => 0), (fun _ => 0), (fun _ => 0), (fun _ => 0), (fun _ => 0), (fun _ => 0), (fun _ => 0), (fun _ => 0), (fun _ => 0), (fun _ => 0), (fun _ => 0), (fun _ => 0), (fun _ => 0), (fun _ => 0), (fun _ => 0), (fun _ => 0), (fun _ => 0), (fun _ => 0), (fun _ => 0), (fun _ => 0), (fun _ => 0), (fun _ => 0), (fun _ => 0), (fun _ => 0), (fun _ => 0), (fun _ => 0), (fun _ => 0), (fun _ => 0), (fun _ => 0), (fun _ => 0), (fun _ => 0), (fun _ => 0), (fun _ => 0), (fun _ => 0), (fun _ => 0), (fun _ => 0), (fun _ => 0), (fun _ => 0), (fun _ => 0), (fun _ => 0)].getD k (fun _ => 0)), (fun _ _ => 0))
def rm_X11_init : Room := { frames := 40, cells := 65, slots := 2079, locals := 2000 }
def po_X11_init (N : Nm) (b : Nat) : va_W → Prop := fun w1 => ∃ (N1 : Nm) (Z1 : St), N1.2.2 = N.2.2 ∧ N1.1 0 = b ∧ newC Z1 ∧ w1 = wC N1 Z1
set_option maxHeartbeats 8000000 in
set_option maxRecDepth 100000 in
theorem n_X11_init (l : Launch) (D : va_G) (N : Nm) (b : Nat) : Metn l yX11_init (tsU yX11_init cX11_init 4 none) rm_X11_init D N [.ref b] [(b, .inr (10, [.int 0, .null, .null, .null, .null, .null, .null, .null, .null, .null, .null, .null]))] (po_X11_init N b) 65 2079 := by
  refine met_n (cc := cX11_init) (nL := 4) (own := RX11) (by decide) rfl rfl (Nat.le_of_ble_eq_true rfl) (fun p e s m args below meth c Q A C hin hO hE => ?_)
  refine bw_sub (lv' := [(0, .ref b)]) [0] rfl ?_
  refine bw_aload_n C 0 dX11_init_0 rfl ?_
  refine bw_obj C lw_1_10 (Nat.le_of_ble_eq_true rfl) (Nat.le_of_ble_eq_true rfl) dX11_init_1 ?_
  refine bw_new (Cn := RX4) (T := TX4) (nF := 12) (ci := 4) (fs := [.int 0, .int 0, .null, .null, .int 0, .int 0, .int 0, .int 0, .int 0, .int 0, .null, .null]) C tyX4 tyX4_ok inLW_X4 lw_1_13 lw_1_14 lw_1_15 rfl (fun j hj => by rcases (show j = 0 ∨ j = 1 ∨ j = 2 ∨ j = 3 ∨ j = 4 ∨ j = 5 ∨ j = 6 ∨ j = 7 ∨ j = 8 ∨ j = 9 ∨ j = 10 ∨ j = 11 by omega) with rfl | rfl | rfl | rfl | rfl | rfl | rfl | rfl | rfl | rfl | rfl | rfl <;> rfl) (Nat.le_of_ble_eq_true rfl) (Nat.le_of_ble_eq_true rfl) dX11_init_4 (fun a1 => ?_)
  refine bw_n (nc' := 1) (ns' := 12) rfl rfl ?_
  refine bw_dup C dX11_init_7 rfl ?_
  refine bw_init (As := []) (rest := [.ref a1]) (n := 0) C hO (n_X4_init l D N a1) lw_3_7 lw_3_8 lw_1_15 lw_3_9 rfl rfl rfl (by decide +kernel) ⟨(Nat.le_of_ble_eq_true rfl), (Nat.le_of_ble_eq_true rfl)⟩ rfl rfl (Nat.le_of_ble_eq_true rfl) (Nat.le_of_ble_eq_true rfl) (Nat.le_of_ble_eq_true rfl) dX11_init_8 (fun w1 hw1 => ?_)
  refine bw_n (nc' := 5) (ns' := 32) rfl rfl ?_
  refine bw_eq (ws' := (b, .inr (10, [.int 0, .null, .null, .null, .null, .null, .null, .null, .null, .null, .null, .null])) :: w1) rfl ?_
  refine bw_astore_n (lv' := [(0, .ref b), (1, .ref a1)]) C [1, 0] dX11_init_11 rfl (by decide) rfl ?_
  refine bw_new (Cn := RX5) (T := TX5) (nF := 8) (ci := 5) (fs := [.int 0, .null, .null, .null, .null, .null, .null, .null]) C tyX5 tyX5_ok inLW_X5 lw_1_16 lw_1_17 lw_1_18 rfl (fun j hj => by rcases (show j = 0 ∨ j = 1 ∨ j = 2 ∨ j = 3 ∨ j = 4 ∨ j = 5 ∨ j = 6 ∨ j = 7 by omega) with rfl | rfl | rfl | rfl | rfl | rfl | rfl | rfl <;> rfl) (Nat.le_of_ble_eq_true rfl) (Nat.le_of_ble_eq_true rfl) dX11_init_12 (fun a2 => ?_)
  refine bw_n (nc' := 6) (ns' := 40) rfl rfl ?_
  refine bw_dup C dX11_init_15 rfl ?_
  refine bw_initN (As := []) (rest := [.ref a2]) (n := 0) C hO (n_X5_init l D N a2) rfl (by decide) lw_4_8 lw_1_18 lw_4_9 rfl rfl rfl (by decide +kernel) ⟨(Nat.le_of_ble_eq_true rfl), (Nat.le_of_ble_eq_true rfl)⟩ rfl rfl (Nat.le_of_ble_eq_true rfl) (Nat.le_of_ble_eq_true rfl) (Nat.le_of_ble_eq_true rfl) dX11_init_16 (fun w2 hw2 => ?_)
  refine bw_n (nc' := 13) (ns' := 600) rfl rfl ?_
  refine bw_eq (ws' := (b, .inr (10, [.int 0, .null, .null, .null, .null, .null, .null, .null, .null, .null, .null, .null])) :: (w1 ++ w2)) rfl ?_
  refine bw_astore_n (lv' := [(0, .ref b), (1, .ref a1), (2, .ref a2)]) C [1, 2, 0] dX11_init_19 rfl (by decide) rfl ?_
  refine bw_new (Cn := RX0) (T := TX0) (nF := 6) (ci := 0) (fs := [.null, .null, .null, .null, .null, .null]) C tyX0 tyX0_ok inLW_X0 lw_1_19 lw_1_20 lw_1_21 rfl (fun j hj => by rcases (show j = 0 ∨ j = 1 ∨ j = 2 ∨ j = 3 ∨ j = 4 ∨ j = 5 by omega) with rfl | rfl | rfl | rfl | rfl | rfl <;> rfl) (Nat.le_of_ble_eq_true rfl) (Nat.le_of_ble_eq_true rfl) dX11_init_20 (fun a3 => ?_)
  refine bw_n (nc' := 14) (ns' := 606) rfl rfl ?_
  refine bw_dup C dX11_init_23 rfl ?_
  refine bw_aload_n C 1 dX11_init_24 rfl ?_
  refine bw_aload_n C 2 dX11_init_25 rfl ?_
  refine bw_init (As := [.ref a1, .ref a2]) (rest := [.ref a3]) (n := 2) C hO (n_X0_init l D N a3 a1 a2) lw_4_19 lw_4_20 lw_1_21 lw_4_21 rfl rfl rfl (by decide +kernel) ⟨(Nat.le_of_ble_eq_true rfl), (Nat.le_of_ble_eq_true rfl)⟩ rfl rfl (Nat.le_of_ble_eq_true rfl) (Nat.le_of_ble_eq_true rfl) (Nat.le_of_ble_eq_true rfl) dX11_init_26 (fun w3 hw3 => ?_)
  refine bw_n (nc' := 24) (ns' := 766) rfl rfl ?_
  refine bw_eq (ws' := (b, .inr (10, [.int 0, .null, .null, .null, .null, .null, .null, .null, .null, .null, .null, .null])) :: ((w1 ++ w2) ++ w3)) rfl ?_
  refine bw_astore_n (lv' := [(0, .ref b), (1, .ref a1), (2, .ref a2), (3, .ref a3)]) C [1, 2, 3, 0] dX11_init_29 rfl (by decide) rfl ?_
  refine bw_aload_n C 0 dX11_init_30 rfl ?_
  refine bw_iconst (v := 0) C dX11_init_31 (by decide) ?_
  refine bw_put (Cn := RX11) (T := TX11) (nF := 12) (ci := 10) C 0 0 tyX11 tyX11_ok nmX11 inLW_X11 rfl rfl (by decide) lw_1_22 rfl rfl rfl rfl rfl (Nat.le_of_ble_eq_true rfl) dX11_init_32 ?_
  refine bw_eq (ws' := (b, .inr (10, [.int 0, .null, .null, .null, .null, .null, .null, .null, .null, .null, .null, .null])) :: ((w1 ++ w2) ++ w3)) rfl ?_
  refine bw_aload_n C 0 dX11_init_35 rfl ?_
  refine bw_new (Cn := RX6) (T := TX6) (nF := 13) (ci := 6) (fs := [.int 0, .int 0, .int 0, .null, .int 0, .int 0, .int 0, .int 0, .int 0, .int 0, .int 0, .int 0, .null]) C tyX6 tyX6_ok inLW_X6 lw_1_23 lw_2_0 lw_2_1 rfl (fun j hj => by rcases (show j = 0 ∨ j = 1 ∨ j = 2 ∨ j = 3 ∨ j = 4 ∨ j = 5 ∨ j = 6 ∨ j = 7 ∨ j = 8 ∨ j = 9 ∨ j = 10 ∨ j = 11 ∨ j = 12 by omega) with rfl | rfl | rfl | rfl | rfl | rfl | rfl | rfl | rfl | rfl | rfl | rfl | rfl <;> rfl) (Nat.le_of_ble_eq_true rfl) (Nat.le_of_ble_eq_true rfl) dX11_init_36 (fun a4 => ?_)
  refine bw_n (nc' := 25) (ns' := 779) rfl rfl ?_
  refine bw_dup C dX11_init_39 rfl ?_
  refine bw_initN (As := []) (rest := [.ref a4, .ref b]) (n := 0) C hO (n_X6_init l D N a4) rfl (by decide) lw_5_6 lw_2_1 lw_5_7 rfl rfl rfl (by decide +kernel) ⟨(Nat.le_of_ble_eq_true rfl), (Nat.le_of_ble_eq_true rfl)⟩ rfl rfl (Nat.le_of_ble_eq_true rfl) (Nat.le_of_ble_eq_true rfl) (Nat.le_of_ble_eq_true rfl) dX11_init_40 (fun w4 hw4 => ?_)
  refine bw_n (nc' := 26) (ns' := 1179) rfl rfl ?_
  refine bw_eq (ws' := (b, .inr (10, [.int 0, .null, .null, .null, .null, .null, .null, .null, .null, .null, .null, .null])) :: (((w1 ++ w2) ++ w3) ++ w4)) rfl ?_
  refine bw_putF (Cn := RX11) (T := TX11) (nF := 12) (ci := 10) C hin 0 1 tyX11 tyX11_ok nmX11 inLW_X11 rfl rfl (by decide) lw_2_2 rfl rfl rfl rfl rfl rfl (Nat.le_of_ble_eq_true rfl) dX11_init_43 ?_
  refine bw_eq (ws' := (b, .inr (10, [.int 0, .ref a4, .null, .null, .null, .null, .null, .null, .null, .null, .null, .null])) :: (((w1 ++ w2) ++ w3) ++ w4)) rfl ?_
  refine bw_aload_n C 0 dX11_init_46 rfl ?_
  refine bw_new (Cn := RX8) (T := TX8) (nF := 7) (ci := 8) (fs := [.int 0, .int 0, .int 0, .null, .int 0, .null, .null]) C tyX8 tyX8_ok inLW_X8 lw_2_3 lw_2_4 lw_2_5 rfl (fun j hj => by rcases (show j = 0 ∨ j = 1 ∨ j = 2 ∨ j = 3 ∨ j = 4 ∨ j = 5 ∨ j = 6 by omega) with rfl | rfl | rfl | rfl | rfl | rfl | rfl <;> rfl) (Nat.le_of_ble_eq_true rfl) (Nat.le_of_ble_eq_true rfl) dX11_init_47 (fun a5 => ?_)
  refine bw_n (nc' := 27) (ns' := 1186) rfl rfl ?_
  refine bw_dup C dX11_init_50 rfl ?_
  refine bw_init (As := []) (rest := [.ref a5, .ref b]) (n := 0) C hO (n_X8_init l D N a5) lw_5_11 lw_5_12 lw_2_5 lw_5_13 rfl rfl rfl (by decide +kernel) ⟨(Nat.le_of_ble_eq_true rfl), (Nat.le_of_ble_eq_true rfl)⟩ rfl rfl (Nat.le_of_ble_eq_true rfl) (Nat.le_of_ble_eq_true rfl) (Nat.le_of_ble_eq_true rfl) dX11_init_51 (fun w5 hw5 => ?_)
  refine bw_n (nc' := 30) (ns' := 1317) rfl rfl ?_
  refine bw_eq (ws' := (b, .inr (10, [.int 0, .ref a4, .null, .null, .null, .null, .null, .null, .null, .null, .null, .null])) :: ((((w1 ++ w2) ++ w3) ++ w4) ++ w5)) rfl ?_
  refine bw_put (Cn := RX11) (T := TX11) (nF := 12) (ci := 10) C 0 2 tyX11 tyX11_ok nmX11 inLW_X11 rfl rfl (by decide) lw_2_6 rfl rfl rfl rfl rfl (Nat.le_of_ble_eq_true rfl) dX11_init_54 ?_
  refine bw_eq (ws' := (b, .inr (10, [.int 0, .ref a4, .ref a5, .null, .null, .null, .null, .null, .null, .null, .null, .null])) :: ((((w1 ++ w2) ++ w3) ++ w4) ++ w5)) rfl ?_
  refine bw_aload_n C 0 dX11_init_57 rfl ?_
  refine bw_new (Cn := RX8) (T := TX8) (nF := 7) (ci := 8) (fs := [.int 0, .int 0, .int 0, .null, .int 0, .null, .null]) C tyX8 tyX8_ok inLW_X8 lw_2_3 lw_2_4 lw_2_5 rfl (fun j hj => by rcases (show j = 0 ∨ j = 1 ∨ j = 2 ∨ j = 3 ∨ j = 4 ∨ j = 5 ∨ j = 6 by omega) with rfl | rfl | rfl | rfl | rfl | rfl | rfl <;> rfl) (Nat.le_of_ble_eq_true rfl) (Nat.le_of_ble_eq_true rfl) dX11_init_58 (fun a6 => ?_)
  refine bw_n (nc' := 31) (ns' := 1324) rfl rfl ?_
  refine bw_dup C dX11_init_61 rfl ?_
  refine bw_init (As := []) (rest := [.ref a6, .ref b]) (n := 0) C hO (n_X8_init l D N a6) lw_5_11 lw_5_12 lw_2_5 lw_5_13 rfl rfl rfl (by decide +kernel) ⟨(Nat.le_of_ble_eq_true rfl), (Nat.le_of_ble_eq_true rfl)⟩ rfl rfl (Nat.le_of_ble_eq_true rfl) (Nat.le_of_ble_eq_true rfl) (Nat.le_of_ble_eq_true rfl) dX11_init_62 (fun w6 hw6 => ?_)
  refine bw_n (nc' := 34) (ns' := 1455) rfl rfl ?_
  refine bw_eq (ws' := (b, .inr (10, [.int 0, .ref a4, .ref a5, .null, .null, .null, .null, .null, .null, .null, .null, .null])) :: (((((w1 ++ w2) ++ w3) ++ w4) ++ w5) ++ w6)) rfl ?_
  refine bw_put (Cn := RX11) (T := TX11) (nF := 12) (ci := 10) C 0 3 tyX11 tyX11_ok nmX11 inLW_X11 rfl rfl (by decide) lw_2_7 rfl rfl rfl rfl rfl (Nat.le_of_ble_eq_true rfl) dX11_init_65 ?_
  refine bw_eq (ws' := (b, .inr (10, [.int 0, .ref a4, .ref a5, .ref a6, .null, .null, .null, .null, .null, .null, .null, .null])) :: (((((w1 ++ w2) ++ w3) ++ w4) ++ w5) ++ w6)) rfl ?_
  refine bw_aload_n C 0 dX11_init_68 rfl ?_
  refine bw_aload_n C 1 dX11_init_69 rfl ?_
  refine bw_putF (Cn := RX11) (T := TX11) (nF := 12) (ci := 10) C hin 0 4 tyX11 tyX11_ok nmX11 inLW_X11 rfl rfl (by decide) lw_2_8 rfl rfl rfl rfl rfl rfl (Nat.le_of_ble_eq_true rfl) dX11_init_70 ?_
  refine bw_eq (ws' := (b, .inr (10, [.int 0, .ref a4, .ref a5, .ref a6, .ref a1, .null, .null, .null, .null, .null, .null, .null])) :: (((((w1 ++ w2) ++ w3) ++ w4) ++ w5) ++ w6)) rfl ?_
  refine bw_aload_n C 0 dX11_init_73 rfl ?_
  refine bw_aload_n C 2 dX11_init_74 rfl ?_
  refine bw_putF (Cn := RX11) (T := TX11) (nF := 12) (ci := 10) C hin 0 5 tyX11 tyX11_ok nmX11 inLW_X11 rfl rfl (by decide) lw_2_9 rfl rfl rfl rfl rfl rfl (Nat.le_of_ble_eq_true rfl) dX11_init_75 ?_
  refine bw_eq (ws' := (b, .inr (10, [.int 0, .ref a4, .ref a5, .ref a6, .ref a1, .ref a2, .null, .null, .null, .null, .null, .null])) :: (((((w1 ++ w2) ++ w3) ++ w4) ++ w5) ++ w6)) rfl ?_
  refine bw_aload_n C 0 dX11_init_78 rfl ?_
  refine bw_aload_n C 3 dX11_init_79 rfl ?_
  refine bw_putF (Cn := RX11) (T := TX11) (nF := 12) (ci := 10) C hin 0 6 tyX11 tyX11_ok nmX11 inLW_X11 rfl rfl (by decide) lw_2_10 rfl rfl rfl rfl rfl rfl (Nat.le_of_ble_eq_true rfl) dX11_init_80 ?_
  refine bw_eq (ws' := (b, .inr (10, [.int 0, .ref a4, .ref a5, .ref a6, .ref a1, .ref a2, .ref a3, .null, .null, .null, .null, .null])) :: (((((w1 ++ w2) ++ w3) ++ w4) ++ w5) ++ w6)) rfl ?_
  refine bw_aload_n C 0 dX11_init_83 rfl ?_
  refine bw_new (Cn := RX1) (T := TX1) (nF := 3) (ci := 1) (fs := [.int 0, .null, .null]) C tyX1 tyX1_ok inLW_X1 lw_2_11 lw_2_12 lw_2_13 rfl (fun j hj => by rcases (show j = 0 ∨ j = 1 ∨ j = 2 by omega) with rfl | rfl | rfl <;> rfl) (Nat.le_of_ble_eq_true rfl) (Nat.le_of_ble_eq_true rfl) dX11_init_84 (fun a7 => ?_)
  refine bw_n (nc' := 35) (ns' := 1458) rfl rfl ?_
  refine bw_dup C dX11_init_87 rfl ?_
  refine bw_initN (As := []) (rest := [.ref a7, .ref b]) (n := 0) C hO (n_X1_init l D N a7) rfl (by decide) lw_6_3 lw_2_13 lw_6_4 rfl rfl rfl (by decide +kernel) ⟨(Nat.le_of_ble_eq_true rfl), (Nat.le_of_ble_eq_true rfl)⟩ rfl rfl (Nat.le_of_ble_eq_true rfl) (Nat.le_of_ble_eq_true rfl) (Nat.le_of_ble_eq_true rfl) dX11_init_88 (fun w7 hw7 => ?_)
  refine bw_n (nc' := 37) (ns' := 1482) rfl rfl ?_
  refine bw_eq (ws' := (b, .inr (10, [.int 0, .ref a4, .ref a5, .ref a6, .ref a1, .ref a2, .ref a3, .null, .null, .null, .null, .null])) :: ((((((w1 ++ w2) ++ w3) ++ w4) ++ w5) ++ w6) ++ w7)) rfl ?_
  refine bw_putF (Cn := RX11) (T := TX11) (nF := 12) (ci := 10) C hin 0 7 tyX11 tyX11_ok nmX11 inLW_X11 rfl rfl (by decide) lw_2_14 rfl rfl rfl rfl rfl rfl (Nat.le_of_ble_eq_true rfl) dX11_init_91 ?_
  refine bw_eq (ws' := (b, .inr (10, [.int 0, .ref a4, .ref a5, .ref a6, .ref a1, .ref a2, .ref a3, .ref a7, .null, .null, .null, .null])) :: ((((((w1 ++ w2) ++ w3) ++ w4) ++ w5) ++ w6) ++ w7)) rfl ?_
  refine bw_aload_n C 0 dX11_init_94 rfl ?_
  refine bw_new (Cn := RX3) (T := TX3) (nF := 4) (ci := 3) (fs := [.null, .null, .null, .int 0]) C tyX3 tyX3_ok inLW_X3 lw_2_15 lw_2_16 lw_2_17 rfl (fun j hj => by rcases (show j = 0 ∨ j = 1 ∨ j = 2 ∨ j = 3 by omega) with rfl | rfl | rfl | rfl <;> rfl) (Nat.le_of_ble_eq_true rfl) (Nat.le_of_ble_eq_true rfl) dX11_init_95 (fun a8 => ?_)
  refine bw_n (nc' := 38) (ns' := 1486) rfl rfl ?_
  refine bw_dup C dX11_init_98 rfl ?_
  refine bw_aload_n C 1 dX11_init_99 rfl ?_
  refine bw_aload_n C 3 dX11_init_100 rfl ?_
  refine bw_init (As := [.ref a1, .ref a3]) (rest := [.ref a8, .ref b]) (n := 2) C hO (n_X3_init l D N a8 a1 a3) lw_6_8 lw_6_9 lw_2_17 lw_6_10 rfl rfl rfl (by decide +kernel) ⟨(Nat.le_of_ble_eq_true rfl), (Nat.le_of_ble_eq_true rfl)⟩ rfl rfl (Nat.le_of_ble_eq_true rfl) (Nat.le_of_ble_eq_true rfl) (Nat.le_of_ble_eq_true rfl) dX11_init_101 (fun w8 hw8 => ?_)
  refine bw_n (nc' := 39) (ns' := 1550) rfl rfl ?_
  refine bw_eq (ws' := (b, .inr (10, [.int 0, .ref a4, .ref a5, .ref a6, .ref a1, .ref a2, .ref a3, .ref a7, .null, .null, .null, .null])) :: (((((((w1 ++ w2) ++ w3) ++ w4) ++ w5) ++ w6) ++ w7) ++ w8)) rfl ?_
  refine bw_putF (Cn := RX11) (T := TX11) (nF := 12) (ci := 10) C hin 0 8 tyX11 tyX11_ok nmX11 inLW_X11 rfl rfl (by decide) lw_2_18 rfl rfl rfl rfl rfl rfl (Nat.le_of_ble_eq_true rfl) dX11_init_104 ?_
  refine bw_eq (ws' := (b, .inr (10, [.int 0, .ref a4, .ref a5, .ref a6, .ref a1, .ref a2, .ref a3, .ref a7, .ref a8, .null, .null, .null])) :: (((((((w1 ++ w2) ++ w3) ++ w4) ++ w5) ++ w6) ++ w7) ++ w8)) rfl ?_
  refine bw_aload_n C 0 dX11_init_107 rfl ?_
  refine bw_new (Cn := RX10) (T := TX10) (nF := 11) (ci := 9) (fs := [.int 0, .int 0, .null, .null, .int 0, .int 0, .int 0, .null, .null, .null, .null]) C tyX10 tyX10_ok inLW_X10 lw_2_19 lw_2_20 lw_2_21 rfl (fun j hj => by rcases (show j = 0 ∨ j = 1 ∨ j = 2 ∨ j = 3 ∨ j = 4 ∨ j = 5 ∨ j = 6 ∨ j = 7 ∨ j = 8 ∨ j = 9 ∨ j = 10 by omega) with rfl | rfl | rfl | rfl | rfl | rfl | rfl | rfl | rfl | rfl | rfl <;> rfl) (Nat.le_of_ble_eq_true rfl) (Nat.le_of_ble_eq_true rfl) dX11_init_108 (fun a9 => ?_)
  refine bw_n (nc' := 40) (ns' := 1561) rfl rfl ?_
  refine bw_dup C dX11_init_111 rfl ?_
  refine bw_aload_n C 1 dX11_init_112 rfl ?_
  refine bw_aload_n C 3 dX11_init_113 rfl ?_
  refine bw_init (As := [.ref a1, .ref a3]) (rest := [.ref a9, .ref b]) (n := 2) C hO (n_X10_init l D N a9 a1 a3) lw_6_15 lw_6_16 lw_2_21 lw_6_17 rfl rfl rfl (by decide +kernel) ⟨(Nat.le_of_ble_eq_true rfl), (Nat.le_of_ble_eq_true rfl)⟩ rfl rfl (Nat.le_of_ble_eq_true rfl) (Nat.le_of_ble_eq_true rfl) (Nat.le_of_ble_eq_true rfl) dX11_init_114 (fun w9 hw9 => ?_)
  refine bw_n (nc' := 44) (ns' := 1653) rfl rfl ?_
  refine bw_eq (ws' := (b, .inr (10, [.int 0, .ref a4, .ref a5, .ref a6, .ref a1, .ref a2, .ref a3, .ref a7, .ref a8, .null, .null, .null])) :: ((((((((w1 ++ w2) ++ w3) ++ w4) ++ w5) ++ w6) ++ w7) ++ w8) ++ w9)) rfl ?_
  refine bw_putF (Cn := RX11) (T := TX11) (nF := 12) (ci := 10) C hin 0 9 tyX11 tyX11_ok nmX11 inLW_X11 rfl rfl (by decide) lw_2_22 rfl rfl rfl rfl rfl rfl (Nat.le_of_ble_eq_true rfl) dX11_init_117 ?_
  refine bw_eq (ws' := (b, .inr (10, [.int 0, .ref a4, .ref a5, .ref a6, .ref a1, .ref a2, .ref a3, .ref a7, .ref a8, .ref a9, .null, .null])) :: ((((((((w1 ++ w2) ++ w3) ++ w4) ++ w5) ++ w6) ++ w7) ++ w8) ++ w9)) rfl ?_
  refine bw_aload_n C 0 dX11_init_120 rfl ?_
  refine bw_new (Cn := RX7) (T := TX7) (nF := 3) (ci := 7) (fs := [.null, .null, .null]) C tyX7 tyX7_ok inLW_X7 lw_2_23 lw_3_0 lw_3_1 rfl (fun j hj => by rcases (show j = 0 ∨ j = 1 ∨ j = 2 by omega) with rfl | rfl | rfl <;> rfl) (Nat.le_of_ble_eq_true rfl) (Nat.le_of_ble_eq_true rfl) dX11_init_121 (fun a10 => ?_)
  refine bw_n (nc' := 45) (ns' := 1656) rfl rfl ?_
  refine bw_dup C dX11_init_124 rfl ?_
  refine bw_aload_n C 2 dX11_init_125 rfl ?_
  refine bw_init (As := [.ref a2]) (rest := [.ref a10, .ref b]) (n := 1) C hO (n_X7_init l D N a10 a2) lw_7_1 lw_7_2 lw_3_1 lw_7_3 rfl rfl rfl (by decide +kernel) ⟨(Nat.le_of_ble_eq_true rfl), (Nat.le_of_ble_eq_true rfl)⟩ rfl rfl (Nat.le_of_ble_eq_true rfl) (Nat.le_of_ble_eq_true rfl) (Nat.le_of_ble_eq_true rfl) dX11_init_126 (fun w10 hw10 => ?_)
  refine bw_n (nc' := 47) (ns' := 1672) rfl rfl ?_
  refine bw_eq (ws' := (b, .inr (10, [.int 0, .ref a4, .ref a5, .ref a6, .ref a1, .ref a2, .ref a3, .ref a7, .ref a8, .ref a9, .null, .null])) :: (((((((((w1 ++ w2) ++ w3) ++ w4) ++ w5) ++ w6) ++ w7) ++ w8) ++ w9) ++ w10)) rfl ?_
  refine bw_putF (Cn := RX11) (T := TX11) (nF := 12) (ci := 10) C hin 0 10 tyX11 tyX11_ok nmX11 inLW_X11 rfl rfl (by decide) lw_3_2 rfl rfl rfl rfl rfl rfl (Nat.le_of_ble_eq_true rfl) dX11_init_129 ?_
  refine bw_eq (ws' := (b, .inr (10, [.int 0, .ref a4, .ref a5, .ref a6, .ref a1, .ref a2, .ref a3, .ref a7, .ref a8, .ref a9, .ref a10, .null])) :: (((((((((w1 ++ w2) ++ w3) ++ w4) ++ w5) ++ w6) ++ w7) ++ w8) ++ w9) ++ w10)) rfl ?_
  refine bw_aload_n C 0 dX11_init_132 rfl ?_
  refine bw_new (Cn := RX2) (T := TX2) (nF := 12) (ci := 2) (fs := [.int 0, .int 0, .int 0, .null, .null, .null, .int 0, .int 0, .null, .null, .null, .null]) C tyX2 tyX2_ok inLW_X2 lw_3_3 lw_3_4 lw_3_5 rfl (fun j hj => by rcases (show j = 0 ∨ j = 1 ∨ j = 2 ∨ j = 3 ∨ j = 4 ∨ j = 5 ∨ j = 6 ∨ j = 7 ∨ j = 8 ∨ j = 9 ∨ j = 10 ∨ j = 11 by omega) with rfl | rfl | rfl | rfl | rfl | rfl | rfl | rfl | rfl | rfl | rfl | rfl <;> rfl) (Nat.le_of_ble_eq_true rfl) (Nat.le_of_ble_eq_true rfl) dX11_init_133 (fun a11 => ?_)
  refine bw_n (nc' := 48) (ns' := 1684) rfl rfl ?_
  refine bw_dup C dX11_init_136 rfl ?_
  refine bw_aload_n C 1 dX11_init_137 rfl ?_
  refine bw_aload_n C 3 dX11_init_138 rfl ?_
  refine bw_init (As := [.ref a1, .ref a3]) (rest := [.ref a11, .ref b]) (n := 2) C hO (n_X2_init l D N a11 a1 a3) lw_7_8 lw_7_9 lw_3_5 lw_7_10 rfl rfl rfl (by decide +kernel) ⟨(Nat.le_of_ble_eq_true rfl), (Nat.le_of_ble_eq_true rfl)⟩ rfl rfl (Nat.le_of_ble_eq_true rfl) (Nat.le_of_ble_eq_true rfl) (Nat.le_of_ble_eq_true rfl) dX11_init_139 (fun w11 hw11 => ?_)
  refine bw_n (nc' := 65) (ns' := 2079) rfl rfl ?_
  refine bw_eq (ws' := (b, .inr (10, [.int 0, .ref a4, .ref a5, .ref a6, .ref a1, .ref a2, .ref a3, .ref a7, .ref a8, .ref a9, .ref a10, .null])) :: ((((((((((w1 ++ w2) ++ w3) ++ w4) ++ w5) ++ w6) ++ w7) ++ w8) ++ w9) ++ w10) ++ w11)) rfl ?_
  refine bw_putF (Cn := RX11) (T := TX11) (nF := 12) (ci := 10) C hin 0 11 tyX11 tyX11_ok nmX11 inLW_X11 rfl rfl (by decide) lw_3_6 rfl rfl rfl rfl rfl rfl (Nat.le_of_ble_eq_true rfl) dX11_init_142 ?_
  refine bw_eq (ws' := (b, .inr (10, [.int 0, .ref a4, .ref a5, .ref a6, .ref a1, .ref a2, .ref a3, .ref a7, .ref a8, .ref a9, .ref a10, .ref a11])) :: ((((((((((w1 ++ w2) ++ w3) ++ w4) ++ w5) ++ w6) ++ w7) ++ w8) ++ w9) ++ w10) ++ w11)) rfl ?_
  obtain ⟨g1, z1, hz1, rfl⟩ := hw1
  obtain ⟨q0_2, q1_2, q2_2, q3_2, q4_2, q5_2, q6_2, rfl⟩ := hw2
  obtain ⟨q0_3, q1_3, q2_3, q3_3, q4_3, q5_3, q6_3, rfl⟩ := hw3
  obtain ⟨q0_4, rfl⟩ := hw4
  obtain ⟨g5, z5, hz5, rfl⟩ := hw5
  obtain ⟨g6, z6, hz6, rfl⟩ := hw6
  obtain ⟨q0_7, q1_7, rfl⟩ := hw7
  obtain ⟨q0_8, rfl⟩ := hw8
  obtain ⟨q0_9, q1_9, q2_9, q3_9, rfl⟩ := hw9
  obtain ⟨q0_10, q1_10, rfl⟩ := hw10
  obtain ⟨q0_11, q1_11, q2_11, q3_11, q4_11, q5_11, rfl⟩ := hw11
  generalize hN1 : (((fun k => [b, a4, a5, a6, a1, a2, a3, a7, a8, a9, a10, a11].getD k 0), (fun k => [q0_4, (g5 0), (g5 1), (g5 2), (g6 0), (g6 1), (g6 2), (g1 0), (g1 1), (g1 2), (g1 3), q0_2, q1_2, q2_2, q3_2, q4_2, q5_2, q6_2, q0_3, q1_3, (q2_3 0), (q2_3 1), q3_3, (q4_3 0), (q4_3 1), q5_3, (q6_3 0), (q6_3 1), q0_7, q1_7, q0_8, q0_9, q1_9, q2_9, q3_9, q0_10, q1_10, q0_11, q1_11, (q2_11 0), (q2_11 1), (q2_11 2), (q2_11 3), (q2_11 4), (q2_11 5), (q2_11 6), (q2_11 7), (q2_11 8), (q2_11 9), (q2_11 10), (q2_11 11), q3_11, q4_11, q5_11].getD k 0), N.2.2) : Nm) = N1
  generalize hZ1 : (((fun k => [0, 0, 0, -1, 0, 0, 0, 0, 0, 0, 0, 0, 0, z5.1 0, z5.1 1, z5.1 2, z5.1 3, z6.1 0, z6.1 1, z6.1 2, z6.1 3, z1.1 0, z1.1 1, z1.1 2, z1.1 3, z1.1 4, z1.1 5, z1.1 6, z1.1 7, 0, 0, 0, 0, 0, 0, 0, 0, 0, 0, 0, 0, 0].getD k 0), (fun k => [(fun _ => 0), (z5.2.1 0), (z5.2.1 1), (z5.2.1 2), (z6.2.1 0), (z6.2.1 1), (z6.2.1 2), (z1.2.1 0), (z1.2.1 1), (z1.2.1 2), (z1.2.1 3), (fun _ => 0), (fun _ => 0), (fun _ => 0), (fun _ => 0), (fun _ => 0), (fun _ => 0), (fun _ => 0), (fun _ => 0), (fun _ => 0), (fun _ => 0), (fun _ => 0), (fun _ => 0), (fun _ => 0), (fun _ => 0), (fun _ => 0), (fun _ => 0), (fun _ => 0), (fun _ => 0), (fun _ => 0), (fun _ => 0), (fun _ => 0), (fun _ => 0), (fun _ => 0), (fun _ => 0), (fun _ => 0), (fun _ => 0), (fun _ => 0), (fun _ => 0), (fun _ => 0), (fun _ => 0), (fun _ => 0), (fun _ => 0), (fun _ => 0), (fun _ => 0), (fun _ => 0), (fun _ => 0), (fun _ => 0), (fun _ => 0), (fun _ => 0), (fun _ => 0), (fun _ => 0), (fun _ => 0), (fun _ => 0)].getD k (fun _ => 0)), (fun _ _ => 0)) : St) = Z1
  refine bw_row (f' := fun i => some (N1.2.1 (20 + i))) 16 rfl (fun j hj => by rw [← hN1]; rcases (show j = 0 ∨ j = 1 by omega) with rfl | rfl <;> rfl) ?_
  refine bw_row (f' := fun i => some (N1.2.1 (23 + i))) 19 rfl (fun j hj => by rw [← hN1]; rcases (show j = 0 ∨ j = 1 by omega) with rfl | rfl <;> rfl) ?_
  refine bw_row (f' := fun i => some (N1.2.1 (26 + i))) 22 rfl (fun j hj => by rw [← hN1]; rcases (show j = 0 ∨ j = 1 by omega) with rfl | rfl <;> rfl) ?_
  refine bw_row (f' := fun i => some (N1.2.1 (39 + i))) 50 rfl (fun j hj => by rw [← hN1]; rcases (show j = 0 ∨ j = 1 ∨ j = 2 ∨ j = 3 ∨ j = 4 ∨ j = 5 ∨ j = 6 ∨ j = 7 ∨ j = 8 ∨ j = 9 ∨ j = 10 ∨ j = 11 by omega) with rfl | rfl | rfl | rfl | rfl | rfl | rfl | rfl | rfl | rfl | rfl | rfl <;> rfl) ?_
  refine bw_perm (ws' := wC N1 Z1) [0, 25, 27, 31, 1, 6, 14, 35, 38, 40, 45, 48, 26, 28, 29, 30, 32, 33, 34, 2, 3, 4, 5, 7, 8, 9, 10, 11, 12, 13, 15, 16, 17, 18, 19, 20, 21, 22, 23, 24, 36, 37, 39, 41, 42, 43, 44, 46, 47, 49, 50, 51, 52, 53, 54, 55, 56, 57, 58, 59, 60, 61, 62, 63, 64, 65] (by rw [← hZ1, ← hN1]; rfl) (by rw [← hZ1, ← hN1]; rfl) (by decide +kernel) ?_
  exact bw_ret hE ⟨N1, Z1, by rw [← hN1], by rw [← hN1]; rfl, by rw [← hZ1]; exact ⟨_, _, _, hz1, hz5, hz6, rfl⟩, rfl⟩ dX11_init_145
