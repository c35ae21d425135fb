section WK
variable {p : Program} {l : Launch} {e : Env} {s : State} {m : MethodId} {args : Array Value} {below : List Frame} {meth : Method} {c : Code} {Q : State → Prop} {D : va_G} {A : Nat → Prop} {N : Nm}
/-! java/lang/Integer.bitCount(I)I -/
def rm_J6_bitCount_0f7a4 : Room := { frames := 0, cells := 0, slots := 0, locals := 0 }
def F_J6_bitCount_0f7a4_0 (s0 : St) (x0 : Int32) : Option (Int32 × St) :=
  oL (x0 - ((ushr x0 (1 : Int32)) &&& (1431655765 : Int32))) fun y1 =>
  oL ((y1 &&& (858993459 : Int32)) + ((ushr y1 (2 : Int32)) &&& (858993459 : Int32))) fun y2 =>
  oL ((y2 + (ushr y2 (4 : Int32))) &&& (252645135 : Int32)) fun y3 =>
  oL (y3 + (ushr y3 (8 : Int32))) fun y4 =>
  oL (y4 + (ushr y4 (16 : Int32))) fun y5 =>
  some (y5 &&& (63 : Int32), s0)
set_option maxHeartbeats 4000000 in
set_option maxRecDepth 100000 in
theorem T_J6_bitCount_0f7a4_0 {r : Int32} {z1 : St} (C : Cx p rm_J6_bitCount_0f7a4 s m args c D A cJ6_bitCount_0f7a4 1 RJ6 rm_J6_bitCount_0f7a4 N) (hE : En p l e rm_J6_bitCount_0f7a4 s m args below meth c Q D A cJ6_bitCount_0f7a4 .ireturn (wC N z1) [.int r])  (s0 : St) (x0 : Int32) (h : F_J6_bitCount_0f7a4_0 s0 x0 = some (r, z1)) : Aw p l e rm_J6_bitCount_0f7a4 s m args below meth c Q D A 1 (wC N s0) 0 [(0, .int x0)] [] := by
  unfold F_J6_bitCount_0f7a4_0 at h
  refine aw_iload_n C 0 dJ6_bitCount_0f7a4_0 rfl ?_
  refine aw_iload_n C 0 dJ6_bitCount_0f7a4_1 rfl ?_
  refine aw_iconst (v := 1) C dJ6_bitCount_0f7a4_2 (by decide) ?_
  refine aw_iushr C dJ6_bitCount_0f7a4_3 ?_
  refine aw_ldc_w (v := 1431655765) C lw_30_18 dJ6_bitCount_0f7a4_4 ?_
  refine aw_iand C dJ6_bitCount_0f7a4_7 ?_
  refine aw_isub C dJ6_bitCount_0f7a4_8 ?_
  refine aw_topi (fun y1 ey1 => ?_)
  have h := oL_e ey1 h
  refine aw_istore_n (lv' := [(0, .int y1)]) C [0] dJ6_bitCount_0f7a4_9 rfl (by decide) rfl ?_
  refine aw_iload_n C 0 dJ6_bitCount_0f7a4_10 rfl ?_
  refine aw_ldc_w (v := 858993459) C lw_30_19 dJ6_bitCount_0f7a4_11 ?_
  refine aw_iand C dJ6_bitCount_0f7a4_14 ?_
  refine aw_iload_n C 0 dJ6_bitCount_0f7a4_15 rfl ?_
  refine aw_iconst (v := 2) C dJ6_bitCount_0f7a4_16 (by decide) ?_
  refine aw_iushr C dJ6_bitCount_0f7a4_17 ?_
  refine aw_ldc_w (v := 858993459) C lw_30_19 dJ6_bitCount_0f7a4_18 ?_
  refine aw_iand C dJ6_bitCount_0f7a4_21 ?_
  refine aw_iadd C dJ6_bitCount_0f7a4_22 ?_
  refine aw_topi (fun y2 ey2 => ?_)
  have h := oL_e ey2 h
  refine aw_istore_n (lv' := [(0, .int y2)]) C [0] dJ6_bitCount_0f7a4_23 rfl (by decide) rfl ?_
  refine aw_iload_n C 0 dJ6_bitCount_0f7a4_24 rfl ?_
  refine aw_iload_n C 0 dJ6_bitCount_0f7a4_25 rfl ?_
  refine aw_iconst (v := 4) C dJ6_bitCount_0f7a4_26 (by decide) ?_
  refine aw_iushr C dJ6_bitCount_0f7a4_27 ?_
  refine aw_iadd C dJ6_bitCount_0f7a4_28 ?_
  refine aw_ldc_w (v := 252645135) C lw_30_20 dJ6_bitCount_0f7a4_29 ?_
  refine aw_iand C dJ6_bitCount_0f7a4_32 ?_
  refine aw_topi (fun y3 ey3 => ?_)
  have h := oL_e ey3 h
  refine aw_istore_n (lv' := [(0, .int y3)]) C [0] dJ6_bitCount_0f7a4_33 rfl (by decide) rfl ?_
  refine aw_iload_n C 0 dJ6_bitCount_0f7a4_34 rfl ?_
  refine aw_iload_n C 0 dJ6_bitCount_0f7a4_35 rfl ?_
  refine aw_bipush (v := 8) C dJ6_bitCount_0f7a4_36 (by decide) ?_
  refine aw_iushr C dJ6_bitCount_0f7a4_38 ?_
  refine aw_iadd C dJ6_bitCount_0f7a4_39 ?_
  refine aw_topi (fun y4 ey4 => ?_)
  have h := oL_e ey4 h
  refine aw_istore_n (lv' := [(0, .int y4)]) C [0] dJ6_bitCount_0f7a4_40 rfl (by decide) rfl ?_
  refine aw_iload_n C 0 dJ6_bitCount_0f7a4_41 rfl ?_
  refine aw_iload_n C 0 dJ6_bitCount_0f7a4_42 rfl ?_
  refine aw_bipush (v := 16) C dJ6_bitCount_0f7a4_43 (by decide) ?_
  refine aw_iushr C dJ6_bitCount_0f7a4_45 ?_
  refine aw_iadd C dJ6_bitCount_0f7a4_46 ?_
  refine aw_topi (fun y5 ey5 => ?_)
  have h := oL_e ey5 h
  refine aw_istore_n (lv' := [(0, .int y5)]) C [0] dJ6_bitCount_0f7a4_47 rfl (by decide) rfl ?_
  refine aw_iload_n C 0 dJ6_bitCount_0f7a4_48 rfl ?_
  refine aw_bipush (v := 63) C dJ6_bitCount_0f7a4_49 (by decide) ?_
  refine aw_iand C dJ6_bitCount_0f7a4_51 ?_
  cases h
  exact aw_ret hE dJ6_bitCount_0f7a4_52
def f_J6_bitCount_0f7a4 (s0 : St) (x0 : Int32) : Option (Int32 × St) := F_J6_bitCount_0f7a4_0 s0 x0
theorem c_J6_bitCount_0f7a4 (l : Launch) (D : va_G) (N : Nm) (s0 z1 : St) (x0 : Int32) (r : Int32) (h : f_J6_bitCount_0f7a4 s0 x0 = some (r, z1)) : Meti l yJ6_bitCount_0f7a4 (tsU yJ6_bitCount_0f7a4 cJ6_bitCount_0f7a4 1 (some .int)) rm_J6_bitCount_0f7a4 D N [.int x0] (wC N s0) r (wC N z1) :=
  met_i (cc := cJ6_bitCount_0f7a4) (nL := 1) (own := RJ6) (by decide) rfl (Nat.le_of_ble_eq_true rfl) (fun p e s m args below meth c Q A C hE => aw_sub [0] rfl (T_J6_bitCount_0f7a4_0 C hE s0 x0 h))
/-! java/util/Arrays.fill([II)V -/
def rm_J7_fill_53178 : Room := { frames := 0, cells := 0, slots := 0, locals := 0 }
def F_J7_fill_53178_5_b (k5 : St → Nat → Int32 → Int32 → Int32 → Option (St)) (s0 : St) (x0 : Nat) (x1 : Int32) (x2 : Int32) (x3 : Int32) : Option (St) :=
  if x3 ≤ x2 then (
    some s0)
  else (
    oX x0 x2 <|
    oL (sA s0 x0 (upd (s0.2.1 x0) (Int32.toNatClampNeg x2) x1)) fun s2 =>
    oL (x2 + (1 : Int32)) fun y3 =>
    k5 s2 x0 x1 y3 x3)
set_option maxHeartbeats 4000000 in
set_option maxRecDepth 100000 in
theorem T_J7_fill_53178_5_b {z1 : St} {k5 : St → Nat → Int32 → Int32 → Int32 → Option (St)} (C : Cx p rm_J7_fill_53178 s m args c D A cJ7_fill_53178 4 RJ7 rm_J7_fill_53178 N) (hE : En p l e rm_J7_fill_53178 s m args below meth c Q D A cJ7_fill_53178 .return_ (wC N z1) []) (hk5 : ∀ (s0 : St) (x0 : Nat) (x1 : Int32) (x2 : Int32) (x3 : Int32), k5 s0 x0 x1 x2 x3 = some z1 → Aw p l e rm_J7_fill_53178 s m args below meth c Q D A 4 (wC N s0) 5 [(0, .ref (N.2.1 x0)), (1, .int x1), (2, .int x2), (3, .int x3)] []) (s0 : St) (x0 : Nat) (x1 : Int32) (x2 : Int32) (x3 : Int32) (h : F_J7_fill_53178_5_b k5 s0 x0 x1 x2 x3 = some z1) : Aw p l e rm_J7_fill_53178 s m args below meth c Q D A 4 (wC N s0) 5 [(0, .ref (N.2.1 x0)), (1, .int x1), (2, .int x2), (3, .int x3)] [] := by
  unfold F_J7_fill_53178_5_b at h
  refine aw_iload_n C 2 dJ7_fill_53178_5 rfl ?_
  refine aw_iload_n C 3 dJ7_fill_53178_6 rfl ?_
  refine aw_icmp_ge (tgt := 20) C dJ7_fill_53178_7 (by decide) (fun q => ?_) (fun q => ?_)
  · have h := bq_t q h
    cases h
    exact aw_ret hE dJ7_fill_53178_20
  · have h := bq_f q h
    refine aw_aload_n C 0 dJ7_fill_53178_10 rfl ?_
    refine aw_iload_n C 2 dJ7_fill_53178_11 rfl ?_
    refine aw_iload_n C 1 dJ7_fill_53178_12 rfl ?_
    obtain ⟨q1a, q1b, q1, h⟩ := oX_e h
    refine ca_iast (k := x0) C q1a q1b q1 dJ7_fill_53178_13 ?_
    refine ca_name (fun s2 es2 => ?_)
    have h := oL_e es2 h
    obtain ⟨y3, ey3⟩ : ∃ q : Int32, q = x2 + (1 : Int32) := ⟨_, rfl⟩
    have h := oL_e ey3 h
    refine aw_iinc (v := y3) (k := 2) (lv' := [(0, .ref (N.2.1 x0)), (1, .int x1), (2, .int y3), (3, .int x3)]) C [1, 2, 0, 3] dJ7_fill_53178_14 rfl (by rw [ey3]; rfl) (by decide) rfl ?_
    refine aw_goto (tgt := 5) C dJ7_fill_53178_17 (by decide) ?_
    refine aw_sub (lv' := [(0, .ref (N.2.1 x0)), (1, .int x1), (2, .int y3), (3, .int x3)]) [0, 1, 2, 3] rfl ?_
    exact hk5 s2 x0 x1 y3 x3 h
def F_J7_fill_53178_5 : Nat → St → Nat → Int32 → Int32 → Int32 → Option (St)
  | 0 => fun _ _ _ _ _ => none
  | n + 1 => F_J7_fill_53178_5_b (F_J7_fill_53178_5 n)
theorem T_J7_fill_53178_5 {z1 : St} (C : Cx p rm_J7_fill_53178 s m args c D A cJ7_fill_53178 4 RJ7 rm_J7_fill_53178 N) (hE : En p l e rm_J7_fill_53178 s m args below meth c Q D A cJ7_fill_53178 .return_ (wC N z1) [])  : ∀ (n : Nat) (s0 : St) (x0 : Nat) (x1 : Int32) (x2 : Int32) (x3 : Int32), F_J7_fill_53178_5 n s0 x0 x1 x2 x3 = some z1 → Aw p l e rm_J7_fill_53178 s m args below meth c Q D A 4 (wC N s0) 5 [(0, .ref (N.2.1 x0)), (1, .int x1), (2, .int x2), (3, .int x3)] [] := by
  intro n
  induction n with
  | zero => intro s0 x0 x1 x2 x3 h; cases h
  | succ n ih => intro s0 x0 x1 x2 x3 h; exact T_J7_fill_53178_5_b C hE ih s0 x0 x1 x2 x3 h
def F_J7_fill_53178_0 (s0 : St) (x0 : Nat) (x1 : Int32) : Option (St) :=
  oL (0 : Int32) fun y1 =>
  oY x0 <|
  oL (Int32.ofNat (lnC x0)) fun y3 =>
  F_J7_fill_53178_5 100000 s0 x0 x1 y1 y3
set_option maxHeartbeats 4000000 in
set_option maxRecDepth 100000 in
theorem T_J7_fill_53178_0 {z1 : St} (C : Cx p rm_J7_fill_53178 s m args c D A cJ7_fill_53178 4 RJ7 rm_J7_fill_53178 N) (hE : En p l e rm_J7_fill_53178 s m args below meth c Q D A cJ7_fill_53178 .return_ (wC N z1) [])  (s0 : St) (x0 : Nat) (x1 : Int32) (h : F_J7_fill_53178_0 s0 x0 x1 = some z1) : Aw p l e rm_J7_fill_53178 s m args below meth c Q D A 4 (wC N s0) 0 [(0, .ref (N.2.1 x0)), (1, .int x1)] [] := by
  unfold F_J7_fill_53178_0 at h
  refine aw_iconst (v := 0) C dJ7_fill_53178_0 (by decide) ?_
  refine aw_topi (fun y1 ey1 => ?_)
  have h := oL_e ey1 h
  refine aw_istore_n (lv' := [(0, .ref (N.2.1 x0)), (1, .int x1), (2, .int y1)]) C [1, 2, 0] dJ7_fill_53178_1 rfl (by decide) rfl ?_
  refine aw_aload_n C 0 dJ7_fill_53178_2 rfl ?_
  obtain ⟨q2a, q2b, h⟩ := oY_e h
  refine ca_alen (k := x0) C q2a q2b dJ7_fill_53178_3 ?_
  refine aw_topi (fun y3 ey3 => ?_)
  have h := oL_e ey3 h
  refine aw_istore_n (lv' := [(0, .ref (N.2.1 x0)), (1, .int x1), (2, .int y1), (3, .int y3)]) C [1, 2, 3, 0] dJ7_fill_53178_4 rfl (by decide) rfl ?_
  refine aw_sub (lv' := [(0, .ref (N.2.1 x0)), (1, .int x1), (2, .int y1), (3, .int y3)]) [0, 1, 2, 3] rfl ?_
  exact T_J7_fill_53178_5 C hE 100000 s0 x0 x1 y1 y3 h
def f_J7_fill_53178 (s0 : St) (x0 : Nat) (x1 : Int32) : Option (St) := F_J7_fill_53178_0 s0 x0 x1
theorem c_J7_fill_53178 (l : Launch) (D : va_G) (N : Nm) (s0 z1 : St) (x0 : Nat) (x1 : Int32) (h : f_J7_fill_53178 s0 x0 x1 = some z1) : Metv l yJ7_fill_53178 (tsU yJ7_fill_53178 cJ7_fill_53178 4 none) rm_J7_fill_53178 D N [.ref (N.2.1 x0), .int x1] (wC N s0) (wC N z1) :=
  met_v (cc := cJ7_fill_53178) (nL := 4) (own := RJ7) (by decide) rfl (Nat.le_of_ble_eq_true rfl) (fun p e s m args below meth c Q A C hE => aw_sub [0, 1] rfl (T_J7_fill_53178_0 C hE s0 x0 x1 h))
end WK
