section WK
variable {p : Program} {l : Launch} {e : Env} {s : State} {m : MethodId} {args : Array Value} {below : List Frame} {meth : Method} {c : Code} {Q : State → Prop} {D : va_G} {A : Nat → Prop} {N : Nm}
/-! AwardLine$Reader.hasRoom()Z -/
def rm_X6_hasRoom : Room := { frames := 0, cells := 0, slots := 0, locals := 0 }
def F_X6_hasRoom_18 (s0 : St) (t0 : Int32) : Option (Int32 × St) :=
  some (t0, s0)
set_option maxHeartbeats 4000000 in
set_option maxRecDepth 100000 in
theorem T_X6_hasRoom_18 {r : Int32} {z1 : St} (C : Cx p rm_X6_hasRoom s m args c D A cX6_hasRoom 1 RX6 rm_X6_hasRoom N) (hE : En p l e rm_X6_hasRoom s m args below meth c Q D A cX6_hasRoom .ireturn (wC N z1) [.int r])  (s0 : St) (t0 : Int32) (h : F_X6_hasRoom_18 s0 t0 = some (r, z1)) : Aw p l e rm_X6_hasRoom s m args below meth c Q D A 1 (wC N s0) 18 [] [.int t0] := by
  unfold F_X6_hasRoom_18 at h
  cases h
  exact aw_ret hE dX6_hasRoom_18
def F_X6_hasRoom_0 (s0 : St) : Option (Int32 × St) :=
  if (400 : Int32) < (s0.1 1) + (20 : Int32) then (
    F_X6_hasRoom_18 s0 (0 : Int32))
  else (
    F_X6_hasRoom_18 s0 (1 : Int32))
set_option maxHeartbeats 4000000 in
set_option maxRecDepth 100000 in
theorem T_X6_hasRoom_0 {r : Int32} {z1 : St} (C : Cx p rm_X6_hasRoom s m args c D A cX6_hasRoom 1 RX6 rm_X6_hasRoom N) (hE : En p l e rm_X6_hasRoom s m args below meth c Q D A cX6_hasRoom .ireturn (wC N z1) [.int r])  (s0 : St) (h : F_X6_hasRoom_0 s0 = some (r, z1)) : Aw p l e rm_X6_hasRoom s m args below meth c Q D A 1 (wC N s0) 0 [(0, .ref (N.1 1))] [] := by
  unfold F_X6_hasRoom_0 at h
  refine aw_aload_n C 0 dX6_hasRoom_0 rfl ?_
  refine cg_rd_held C lw_10_2 dX6_hasRoom_1 ?_
  refine aw_bipush (v := 20) C dX6_hasRoom_4 (by decide) ?_
  refine aw_iadd C dX6_hasRoom_6 ?_
  refine aw_sipush (v := 400) C dX6_hasRoom_7 (by decide) ?_
  refine aw_icmp_gt (tgt := 17) C dX6_hasRoom_10 (by decide) (fun q => ?_) (fun q => ?_)
  · have h := bq_t q h
    refine aw_iconst (v := 0) C dX6_hasRoom_17 (by decide) ?_
    refine aw_sub (lv' := []) [] rfl ?_
    exact T_X6_hasRoom_18 C hE s0 (0 : Int32) h
  · have h := bq_f q h
    refine aw_iconst (v := 1) C dX6_hasRoom_13 (by decide) ?_
    refine aw_goto (tgt := 18) C dX6_hasRoom_14 (by decide) ?_
    refine aw_sub (lv' := []) [] rfl ?_
    exact T_X6_hasRoom_18 C hE s0 (1 : Int32) h
def f_X6_hasRoom (s0 : St) : Option (Int32 × St) := oC (F_X6_hasRoom_0 s0) fun w => oZ w.1 (some w)
theorem c_X6_hasRoom (l : Launch) (D : va_G) (N : Nm) (s0 z1 : St) (r : Int32) (h : f_X6_hasRoom s0 = some (r, z1)) : Meti l yX6_hasRoom (tsU yX6_hasRoom cX6_hasRoom 1 (some .boolean)) rm_X6_hasRoom D N [.ref (N.1 1)] (wC N s0) r (wC N z1) := by
  obtain ⟨w, h1, h2⟩ := oC_e h
  obtain ⟨hz, h2⟩ := oZ_e h2
  cases h2
  exact met_z (cc := cX6_hasRoom) (nL := 1) (own := RX6) (by decide) rfl (Nat.le_of_ble_eq_true rfl) (zN hz) (fun p e s m args below meth c Q A C hE => aw_sub [0] rfl (T_X6_hasRoom_0 C hE s0 h1))
/-! AwardLine$Reader.store(I)V -/
def rm_X6_store : Room := { frames := 0, cells := 0, slots := 0, locals := 0 }
def F_X6_store_49 (s0 : St) : Option (St) :=
  some s0
set_option maxHeartbeats 4000000 in
set_option maxRecDepth 100000 in
theorem T_X6_store_49 {z1 : St} (C : Cx p rm_X6_store s m args c D A cX6_store 3 RX6 rm_X6_store N) (hE : En p l e rm_X6_store s m args below meth c Q D A cX6_store .return_ (wC N z1) [])  (s0 : St) (h : F_X6_store_49 s0 = some z1) : Aw p l e rm_X6_store s m args below meth c Q D A 3 (wC N s0) 49 [] [] := by
  unfold F_X6_store_49 at h
  cases h
  exact aw_ret hE dX6_store_49
def F_X6_store_3_b (k3 : St → Int32 → Int32 → Option (St)) (s0 : St) (x1 : Int32) (x2 : Int32) : Option (St) :=
  if x2 < 0 then (
    F_X6_store_49 s0)
  else (
    if (400 : Int32) ≤ (s0.1 1) then (
      F_X6_store_49 s0)
    else (
      oA (s0.1 1) 400 <|
      oL (sA s0 0 (upd (s0.2.1 0) (Int32.toNatClampNeg (s0.1 1)) ((ushr x1 x2) &&& (255 : Int32)))) fun s2 =>
      oL (sI s2 1 ((s2.1 1) + (1 : Int32))) fun s3 =>
      oL (x2 + (-8 : Int32)) fun y4 =>
      k3 s3 x1 y4))
set_option maxHeartbeats 4000000 in
set_option maxRecDepth 100000 in
theorem T_X6_store_3_b {z1 : St} {k3 : St → Int32 → Int32 → Option (St)} (C : Cx p rm_X6_store s m args c D A cX6_store 3 RX6 rm_X6_store N) (hE : En p l e rm_X6_store s m args below meth c Q D A cX6_store .return_ (wC N z1) []) (hk3 : ∀ (s0 : St) (x1 : Int32) (x2 : Int32), k3 s0 x1 x2 = some z1 → Aw p l e rm_X6_store s m args below meth c Q D A 3 (wC N s0) 3 [(0, .ref (N.1 1)), (1, .int x1), (2, .int x2)] []) (s0 : St) (x1 : Int32) (x2 : Int32) (h : F_X6_store_3_b k3 s0 x1 x2 = some z1) : Aw p l e rm_X6_store s m args below meth c Q D A 3 (wC N s0) 3 [(0, .ref (N.1 1)), (1, .int x1), (2, .int x2)] [] := by
  unfold F_X6_store_3_b at h
  refine aw_iload_n C 2 dX6_store_3 rfl ?_
  refine aw_if_lt (tgt := 49) C dX6_store_4 (by decide) (fun q => ?_) (fun q => ?_)
  · have h := bq_t q h
    refine aw_sub (lv' := []) [] rfl ?_
    exact T_X6_store_49 C hE s0 h
  · have h := bq_f q h
    refine aw_aload_n C 0 dX6_store_7 rfl ?_
    refine cg_rd_held C lw_10_2 dX6_store_8 ?_
    refine aw_sipush (v := 400) C dX6_store_11 (by decide) ?_
    refine aw_icmp_ge (tgt := 49) C dX6_store_14 (by decide) (fun q => ?_) (fun q => ?_)
    · have h := bq_t q h
      refine aw_sub (lv' := []) [] rfl ?_
      exact T_X6_store_49 C hE s0 h
    · have h := bq_f q h
      refine aw_aload_n C 0 dX6_store_17 rfl ?_
      refine cg_rd_tape C lw_5_10 dX6_store_18 ?_
      refine aw_aload_n C 0 dX6_store_21 rfl ?_
      refine cg_rd_held C lw_10_2 dX6_store_22 ?_
      refine aw_iload_n C 1 dX6_store_25 rfl ?_
      refine aw_iload_n C 2 dX6_store_26 rfl ?_
      refine aw_iushr C dX6_store_27 ?_
      refine aw_sipush (v := 255) C dX6_store_28 (by decide) ?_
      refine aw_iand C dX6_store_31 ?_
      obtain ⟨q1, h⟩ := oA_e h
      refine ca_iast (k := 0) C (by decide) rfl q1 dX6_store_32 ?_
      refine ca_name (fun s2 es2 => ?_)
      have h := oL_e es2 h
      refine aw_aload_n C 0 dX6_store_33 rfl ?_
      refine aw_dup C dX6_store_34 rfl ?_
      refine cg_rd_held C lw_10_2 dX6_store_35 ?_
      refine aw_iconst (v := 1) C dX6_store_38 (by decide) ?_
      refine aw_iadd C dX6_store_39 ?_
      refine cp_rd_held C lw_10_2 dX6_store_40 ?_
      refine ca_name (fun s3 es3 => ?_)
      have h := oL_e es3 h
      obtain ⟨y4, ey4⟩ : ∃ q : Int32, q = x2 + (-8 : Int32) := ⟨_, rfl⟩
      have h := oL_e ey4 h
      refine aw_iinc (v := y4) (k := 2) (lv' := [(0, .ref (N.1 1)), (1, .int x1), (2, .int y4)]) C [1, 2, 0] dX6_store_43 rfl (by rw [ey4]; rfl) (by decide) rfl ?_
      refine aw_goto (tgt := 3) C dX6_store_46 (by decide) ?_
      refine aw_sub (lv' := [(0, .ref (N.1 1)), (1, .int x1), (2, .int y4)]) [0, 1, 2] rfl ?_
      exact hk3 s3 x1 y4 h
def F_X6_store_3 : Nat → St → Int32 → Int32 → Option (St)
  | 0 => fun _ _ _ => none
  | n + 1 => F_X6_store_3_b (F_X6_store_3 n)
theorem T_X6_store_3 {z1 : St} (C : Cx p rm_X6_store s m args c D A cX6_store 3 RX6 rm_X6_store N) (hE : En p l e rm_X6_store s m args below meth c Q D A cX6_store .return_ (wC N z1) [])  : ∀ (n : Nat) (s0 : St) (x1 : Int32) (x2 : Int32), F_X6_store_3 n s0 x1 x2 = some z1 → Aw p l e rm_X6_store s m args below meth c Q D A 3 (wC N s0) 3 [(0, .ref (N.1 1)), (1, .int x1), (2, .int x2)] [] := by
  intro n
  induction n with
  | zero => intro s0 x1 x2 h; cases h
  | succ n ih => intro s0 x1 x2 h; exact T_X6_store_3_b C hE ih s0 x1 x2 h
def F_X6_store_0 (s0 : St) (x1 : Int32) : Option (St) :=
  oL (24 : Int32) fun y1 =>
  F_X6_store_3 100000 s0 x1 y1
set_option maxHeartbeats 4000000 in
set_option maxRecDepth 100000 in
theorem T_X6_store_0 {z1 : St} (C : Cx p rm_X6_store s m args c D A cX6_store 3 RX6 rm_X6_store N) (hE : En p l e rm_X6_store s m args below meth c Q D A cX6_store .return_ (wC N z1) [])  (s0 : St) (x1 : Int32) (h : F_X6_store_0 s0 x1 = some z1) : Aw p l e rm_X6_store s m args below meth c Q D A 3 (wC N s0) 0 [(0, .ref (N.1 1)), (1, .int x1)] [] := by
  unfold F_X6_store_0 at h
  refine aw_bipush (v := 24) C dX6_store_0 (by decide) ?_
  refine aw_topi (fun y1 ey1 => ?_)
  have h := oL_e ey1 h
  refine aw_istore_n (lv' := [(0, .ref (N.1 1)), (1, .int x1), (2, .int y1)]) C [1, 2, 0] dX6_store_2 rfl (by decide) rfl ?_
  refine aw_sub (lv' := [(0, .ref (N.1 1)), (1, .int x1), (2, .int y1)]) [0, 1, 2] rfl ?_
  exact T_X6_store_3 C hE 100000 s0 x1 y1 h
def f_X6_store (s0 : St) (x1 : Int32) : Option (St) := F_X6_store_0 s0 x1
theorem c_X6_store (l : Launch) (D : va_G) (N : Nm) (s0 z1 : St) (x1 : Int32) (h : f_X6_store s0 x1 = some z1) : Metv l yX6_store (tsU yX6_store cX6_store 3 none) rm_X6_store D N [.ref (N.1 1), .int x1] (wC N s0) (wC N z1) :=
  met_v (cc := cX6_store) (nL := 3) (own := RX6) (by decide) rfl (Nat.le_of_ble_eq_true rfl) (fun p e s m args below meth c Q A C hE => aw_sub [0, 1] rfl (T_X6_store_0 C hE s0 x1 h))
/-! AwardLine$Reader.refuse(I)Z -/
def rm_X6_refuse : Room := { frames := 0, cells := 0, slots := 0, locals := 0 }
def F_X6_refuse_0 (s0 : St) (x1 : Int32) : Option (Int32 × St) :=
  oL (sI s0 2 x1) fun s1 =>
  oL (sI s1 3 (s1.1 7)) fun s2 =>
  some ((0 : Int32), s2)
set_option maxHeartbeats 4000000 in
set_option maxRecDepth 100000 in
theorem T_X6_refuse_0 {r : Int32} {z1 : St} (C : Cx p rm_X6_refuse s m args c D A cX6_refuse 2 RX6 rm_X6_refuse N) (hE : En p l e rm_X6_refuse s m args below meth c Q D A cX6_refuse .ireturn (wC N z1) [.int r])  (s0 : St) (x1 : Int32) (h : F_X6_refuse_0 s0 x1 = some (r, z1)) : Aw p l e rm_X6_refuse s m args below meth c Q D A 2 (wC N s0) 0 [(0, .ref (N.1 1)), (1, .int x1)] [] := by
  unfold F_X6_refuse_0 at h
  refine aw_aload_n C 0 dX6_refuse_0 rfl ?_
  refine aw_iload_n C 1 dX6_refuse_1 rfl ?_
  refine cp_rd_fault C lw_11_4 dX6_refuse_2 ?_
  refine ca_name (fun s1 es1 => ?_)
  have h := oL_e es1 h
  refine aw_aload_n C 0 dX6_refuse_5 rfl ?_
  refine aw_aload_n C 0 dX6_refuse_6 rfl ?_
  refine cg_rd_place C lw_11_13 dX6_refuse_7 ?_
  refine cp_rd_faultPlace C lw_5_9 dX6_refuse_10 ?_
  refine ca_name (fun s2 es2 => ?_)
  have h := oL_e es2 h
  refine aw_iconst (v := 0) C dX6_refuse_13 (by decide) ?_
  cases h
  exact aw_ret hE dX6_refuse_14
def f_X6_refuse (s0 : St) (x1 : Int32) : Option (Int32 × St) := oC (F_X6_refuse_0 s0 x1) fun w => oZ w.1 (some w)
theorem c_X6_refuse (l : Launch) (D : va_G) (N : Nm) (s0 z1 : St) (x1 : Int32) (r : Int32) (h : f_X6_refuse s0 x1 = some (r, z1)) : Meti l yX6_refuse (tsU yX6_refuse cX6_refuse 2 (some .boolean)) rm_X6_refuse D N [.ref (N.1 1), .int x1] (wC N s0) r (wC N z1) := by
  obtain ⟨w, h1, h2⟩ := oC_e h
  obtain ⟨hz, h2⟩ := oZ_e h2
  cases h2
  exact met_z (cc := cX6_refuse) (nL := 2) (own := RX6) (by decide) rfl (Nat.le_of_ble_eq_true rfl) (zN hz) (fun p e s m args below meth c Q A C hE => aw_sub [0, 1] rfl (T_X6_refuse_0 C hE s0 x1 h1))
/-! AwardLine$Reader.isLetter(I)Z -/
def rm_X6_isLetter : Room := { frames := 0, cells := 0, slots := 0, locals := 0 }
def F_X6_isLetter_17 (s0 : St) (t0 : Int32) : Option (Int32 × St) :=
  some (t0, s0)
set_option maxHeartbeats 4000000 in
set_option maxRecDepth 100000 in
theorem T_X6_isLetter_17 {r : Int32} {z1 : St} (C : Cx p rm_X6_isLetter s m args c D A cX6_isLetter 1 RX6 rm_X6_isLetter N) (hE : En p l e rm_X6_isLetter s m args below meth c Q D A cX6_isLetter .ireturn (wC N z1) [.int r])  (s0 : St) (t0 : Int32) (h : F_X6_isLetter_17 s0 t0 = some (r, z1)) : Aw p l e rm_X6_isLetter s m args below meth c Q D A 1 (wC N s0) 17 [] [.int t0] := by
  unfold F_X6_isLetter_17 at h
  cases h
  exact aw_ret hE dX6_isLetter_17
def F_X6_isLetter_16 (s0 : St) : Option (Int32 × St) :=
  F_X6_isLetter_17 s0 (0 : Int32)
set_option maxHeartbeats 4000000 in
set_option maxRecDepth 100000 in
theorem T_X6_isLetter_16 {r : Int32} {z1 : St} (C : Cx p rm_X6_isLetter s m args c D A cX6_isLetter 1 RX6 rm_X6_isLetter N) (hE : En p l e rm_X6_isLetter s m args below meth c Q D A cX6_isLetter .ireturn (wC N z1) [.int r])  (s0 : St) (h : F_X6_isLetter_16 s0 = some (r, z1)) : Aw p l e rm_X6_isLetter s m args below meth c Q D A 1 (wC N s0) 16 [] [] := by
  unfold F_X6_isLetter_16 at h
  refine aw_iconst (v := 0) C dX6_isLetter_16 (by decide) ?_
  refine aw_sub (lv' := []) [] rfl ?_
  exact T_X6_isLetter_17 C hE s0 (0 : Int32) h
def F_X6_isLetter_0 (s0 : St) (x0 : Int32) : Option (Int32 × St) :=
  if x0 < (97 : Int32) then (
    F_X6_isLetter_16 s0)
  else (
    if (122 : Int32) < x0 then (
      F_X6_isLetter_16 s0)
    else (
      F_X6_isLetter_17 s0 (1 : Int32)))
set_option maxHeartbeats 4000000 in
set_option maxRecDepth 100000 in
theorem T_X6_isLetter_0 {r : Int32} {z1 : St} (C : Cx p rm_X6_isLetter s m args c D A cX6_isLetter 1 RX6 rm_X6_isLetter N) (hE : En p l e rm_X6_isLetter s m args below meth c Q D A cX6_isLetter .ireturn (wC N z1) [.int r])  (s0 : St) (x0 : Int32) (h : F_X6_isLetter_0 s0 x0 = some (r, z1)) : Aw p l e rm_X6_isLetter s m args below meth c Q D A 1 (wC N s0) 0 [(0, .int x0)] [] := by
  unfold F_X6_isLetter_0 at h
  refine aw_iload_n C 0 dX6_isLetter_0 rfl ?_
  refine aw_bipush (v := 97) C dX6_isLetter_1 (by decide) ?_
  refine aw_icmp_lt (tgt := 16) C dX6_isLetter_3 (by decide) (fun q => ?_) (fun q => ?_)
  · have h := bq_t q h
    refine aw_sub (lv' := []) [] rfl ?_
    exact T_X6_isLetter_16 C hE s0 h
  · have h := bq_f q h
    refine aw_iload_n C 0 dX6_isLetter_6 rfl ?_
    refine aw_bipush (v := 122) C dX6_isLetter_7 (by decide) ?_
    refine aw_icmp_gt (tgt := 16) C dX6_isLetter_9 (by decide) (fun q => ?_) (fun q => ?_)
    · have h := bq_t q h
      refine aw_sub (lv' := []) [] rfl ?_
      exact T_X6_isLetter_16 C hE s0 h
    · have h := bq_f q h
      refine aw_iconst (v := 1) C dX6_isLetter_12 (by decide) ?_
      refine aw_goto (tgt := 17) C dX6_isLetter_13 (by decide) ?_
      refine aw_sub (lv' := []) [] rfl ?_
      exact T_X6_isLetter_17 C hE s0 (1 : Int32) h
def f_X6_isLetter (s0 : St) (x0 : Int32) : Option (Int32 × St) := oC (F_X6_isLetter_0 s0 x0) fun w => oZ w.1 (some w)
theorem c_X6_isLetter (l : Launch) (D : va_G) (N : Nm) (s0 z1 : St) (x0 : Int32) (r : Int32) (h : f_X6_isLetter s0 x0 = some (r, z1)) : Meti l yX6_isLetter (tsU yX6_isLetter cX6_isLetter 1 (some .boolean)) rm_X6_isLetter D N [.int x0] (wC N s0) r (wC N z1) := by
  obtain ⟨w, h1, h2⟩ := oC_e h
  obtain ⟨hz, h2⟩ := oZ_e h2
  cases h2
  exact met_z (cc := cX6_isLetter) (nL := 1) (own := RX6) (by decide) rfl (Nat.le_of_ble_eq_true rfl) (zN hz) (fun p e s m args below meth c Q A C hE => aw_sub [0] rfl (T_X6_isLetter_0 C hE s0 x0 h1))
/-! AwardLine$Reader.isDigit(I)Z -/
def rm_X6_isDigit : Room := { frames := 0, cells := 0, slots := 0, locals := 0 }
def F_X6_isDigit_17 (s0 : St) (t0 : Int32) : Option (Int32 × St) :=
  some (t0, s0)
set_option maxHeartbeats 4000000 in
set_option maxRecDepth 100000 in
theorem T_X6_isDigit_17 {r : Int32} {z1 : St} (C : Cx p rm_X6_isDigit s m args c D A cX6_isDigit 1 RX6 rm_X6_isDigit N) (hE : En p l e rm_X6_isDigit s m args below meth c Q D A cX6_isDigit .ireturn (wC N z1) [.int r])  (s0 : St) (t0 : Int32) (h : F_X6_isDigit_17 s0 t0 = some (r, z1)) : Aw p l e rm_X6_isDigit s m args below meth c Q D A 1 (wC N s0) 17 [] [.int t0] := by
  unfold F_X6_isDigit_17 at h
  cases h
  exact aw_ret hE dX6_isDigit_17
def F_X6_isDigit_16 (s0 : St) : Option (Int32 × St) :=
  F_X6_isDigit_17 s0 (0 : Int32)
set_option maxHeartbeats 4000000 in
set_option maxRecDepth 100000 in
theorem T_X6_isDigit_16 {r : Int32} {z1 : St} (C : Cx p rm_X6_isDigit s m args c D A cX6_isDigit 1 RX6 rm_X6_isDigit N) (hE : En p l e rm_X6_isDigit s m args below meth c Q D A cX6_isDigit .ireturn (wC N z1) [.int r])  (s0 : St) (h : F_X6_isDigit_16 s0 = some (r, z1)) : Aw p l e rm_X6_isDigit s m args below meth c Q D A 1 (wC N s0) 16 [] [] := by
  unfold F_X6_isDigit_16 at h
  refine aw_iconst (v := 0) C dX6_isDigit_16 (by decide) ?_
  refine aw_sub (lv' := []) [] rfl ?_
  exact T_X6_isDigit_17 C hE s0 (0 : Int32) h
def F_X6_isDigit_0 (s0 : St) (x0 : Int32) : Option (Int32 × St) :=
  if x0 < (48 : Int32) then (
    F_X6_isDigit_16 s0)
  else (
    if (57 : Int32) < x0 then (
      F_X6_isDigit_16 s0)
    else (
      F_X6_isDigit_17 s0 (1 : Int32)))
set_option maxHeartbeats 4000000 in
set_option maxRecDepth 100000 in
theorem T_X6_isDigit_0 {r : Int32} {z1 : St} (C : Cx p rm_X6_isDigit s m args c D A cX6_isDigit 1 RX6 rm_X6_isDigit N) (hE : En p l e rm_X6_isDigit s m args below meth c Q D A cX6_isDigit .ireturn (wC N z1) [.int r])  (s0 : St) (x0 : Int32) (h : F_X6_isDigit_0 s0 x0 = some (r, z1)) : Aw p l e rm_X6_isDigit s m args below meth c Q D A 1 (wC N s0) 0 [(0, .int x0)] [] := by
  unfold F_X6_isDigit_0 at h
  refine aw_iload_n C 0 dX6_isDigit_0 rfl ?_
  refine aw_bipush (v := 48) C dX6_isDigit_1 (by decide) ?_
  refine aw_icmp_lt (tgt := 16) C dX6_isDigit_3 (by decide) (fun q => ?_) (fun q => ?_)
  · have h := bq_t q h
    refine aw_sub (lv' := []) [] rfl ?_
    exact T_X6_isDigit_16 C hE s0 h
  · have h := bq_f q h
    refine aw_iload_n C 0 dX6_isDigit_6 rfl ?_
    refine aw_bipush (v := 57) C dX6_isDigit_7 (by decide) ?_
    refine aw_icmp_gt (tgt := 16) C dX6_isDigit_9 (by decide) (fun q => ?_) (fun q => ?_)
    · have h := bq_t q h
      refine aw_sub (lv' := []) [] rfl ?_
      exact T_X6_isDigit_16 C hE s0 h
    · have h := bq_f q h
      refine aw_iconst (v := 1) C dX6_isDigit_12 (by decide) ?_
      refine aw_goto (tgt := 17) C dX6_isDigit_13 (by decide) ?_
      refine aw_sub (lv' := []) [] rfl ?_
      exact T_X6_isDigit_17 C hE s0 (1 : Int32) h
def f_X6_isDigit (s0 : St) (x0 : Int32) : Option (Int32 × St) := oC (F_X6_isDigit_0 s0 x0) fun w => oZ w.1 (some w)
theorem c_X6_isDigit (l : Launch) (D : va_G) (N : Nm) (s0 z1 : St) (x0 : Int32) (r : Int32) (h : f_X6_isDigit s0 x0 = some (r, z1)) : Meti l yX6_isDigit (tsU yX6_isDigit cX6_isDigit 1 (some .boolean)) rm_X6_isDigit D N [.int x0] (wC N s0) r (wC N z1) := by
  obtain ⟨w, h1, h2⟩ := oC_e h
  obtain ⟨hz, h2⟩ := oZ_e h2
  cases h2
  exact met_z (cc := cX6_isDigit) (nL := 1) (own := RX6) (by decide) rfl (Nat.le_of_ble_eq_true rfl) (zN hz) (fun p e s m args below meth c Q A C hE => aw_sub [0] rfl (T_X6_isDigit_0 C hE s0 x0 h1))
/-! AwardLine$Reader.follows(I)Z -/
def rm_X6_follows : Room := { frames := 0, cells := 0, slots := 0, locals := 0 }
def F_X6_follows_36 (s0 : St) : Option (Int32 × St) :=
  some ((0 : Int32), s0)
set_option maxHeartbeats 4000000 in
set_option maxRecDepth 100000 in
theorem T_X6_follows_36 {r : Int32} {z1 : St} (C : Cx p rm_X6_follows s m args c D A cX6_follows 2 RX6 rm_X6_follows N) (hE : En p l e rm_X6_follows s m args below meth c Q D A cX6_follows .ireturn (wC N z1) [.int r])  (s0 : St) (h : F_X6_follows_36 s0 = some (r, z1)) : Aw p l e rm_X6_follows s m args below meth c Q D A 2 (wC N s0) 36 [] [] := by
  unfold F_X6_follows_36 at h
  refine aw_iconst (v := 0) C dX6_follows_36 (by decide) ?_
  cases h
  exact aw_ret hE dX6_follows_37
def F_X6_follows_0 (s0 : St) (x1 : Int32) : Option (Int32 × St) :=
  if (s0.1 4) ≤ (s0.1 5) then (
    F_X6_follows_36 s0)
  else (
    oA (s0.1 5) 400 <|
    if (s0.2.1 0 (Int32.toNatClampNeg (s0.1 5))) = x1 then (
      oL (sI s0 5 ((s0.1 5) + (1 : Int32))) fun s2 =>
      some ((1 : Int32), s2))
    else (
      F_X6_follows_36 s0))
set_option maxHeartbeats 4000000 in
set_option maxRecDepth 100000 in
theorem T_X6_follows_0 {r : Int32} {z1 : St} (C : Cx p rm_X6_follows s m args c D A cX6_follows 2 RX6 rm_X6_follows N) (hE : En p l e rm_X6_follows s m args below meth c Q D A cX6_follows .ireturn (wC N z1) [.int r])  (s0 : St) (x1 : Int32) (h : F_X6_follows_0 s0 x1 = some (r, z1)) : Aw p l e rm_X6_follows s m args below meth c Q D A 2 (wC N s0) 0 [(0, .ref (N.1 1)), (1, .int x1)] [] := by
  unfold F_X6_follows_0 at h
  refine aw_aload_n C 0 dX6_follows_0 rfl ?_
  refine cg_rd_at C lw_11_3 dX6_follows_1 ?_
  refine aw_aload_n C 0 dX6_follows_4 rfl ?_
  refine cg_rd_length C lw_11_2 dX6_follows_5 ?_
  refine aw_icmp_ge (tgt := 36) C dX6_follows_8 (by decide) (fun q => ?_) (fun q => ?_)
  · have h := bq_t q h
    refine aw_sub (lv' := []) [] rfl ?_
    exact T_X6_follows_36 C hE s0 h
  · have h := bq_f q h
    refine aw_aload_n C 0 dX6_follows_11 rfl ?_
    refine cg_rd_tape C lw_5_10 dX6_follows_12 ?_
    refine aw_aload_n C 0 dX6_follows_15 rfl ?_
    refine cg_rd_at C lw_11_3 dX6_follows_16 ?_
    obtain ⟨q1, h⟩ := oA_e h
    refine ca_iald (k := 0) C (by decide) rfl q1 dX6_follows_19 ?_
    refine aw_iload_n C 1 dX6_follows_20 rfl ?_
    refine aw_icmp_ne (tgt := 36) C dX6_follows_21 (by decide) (fun q => ?_) (fun q => ?_)
    · have h := bq_f q h
      refine aw_sub (lv' := []) [] rfl ?_
      exact T_X6_follows_36 C hE s0 h
    · have h := bq_t q h
      refine aw_aload_n C 0 dX6_follows_24 rfl ?_
      refine aw_dup C dX6_follows_25 rfl ?_
      refine cg_rd_at C lw_11_3 dX6_follows_26 ?_
      refine aw_iconst (v := 1) C dX6_follows_29 (by decide) ?_
      refine aw_iadd C dX6_follows_30 ?_
      refine cp_rd_at C lw_11_3 dX6_follows_31 ?_
      refine ca_name (fun s2 es2 => ?_)
      have h := oL_e es2 h
      refine aw_iconst (v := 1) C dX6_follows_34 (by decide) ?_
      cases h
      exact aw_ret hE dX6_follows_35
def f_X6_follows (s0 : St) (x1 : Int32) : Option (Int32 × St) := oC (F_X6_follows_0 s0 x1) fun w => oZ w.1 (some w)
theorem c_X6_follows (l : Launch) (D : va_G) (N : Nm) (s0 z1 : St) (x1 : Int32) (r : Int32) (h : f_X6_follows s0 x1 = some (r, z1)) : Meti l yX6_follows (tsU yX6_follows cX6_follows 2 (some .boolean)) rm_X6_follows D N [.ref (N.1 1), .int x1] (wC N s0) r (wC N z1) := by
  obtain ⟨w, h1, h2⟩ := oC_e h
  obtain ⟨hz, h2⟩ := oZ_e h2
  cases h2
  exact met_z (cc := cX6_follows) (nL := 2) (own := RX6) (by decide) rfl (Nat.le_of_ble_eq_true rfl) (zN hz) (fun p e s m args below meth c Q A C hE => aw_sub [0, 1] rfl (T_X6_follows_0 C hE s0 x1 h1))
/-! AwardLine$Reader.readSign(I)V -/
def rm_X6_readSign : Room := { frames := 1, cells := 0, slots := 0, locals := 21 }
def F_X6_readSign_254 (s0 : St) : Option (St) :=
  some s0
set_option maxHeartbeats 4000000 in
set_option maxRecDepth 100000 in
theorem T_X6_readSign_254 {z1 : St} (C : Cx p rm_X6_readSign s m args c D A cX6_readSign 2 RX6 rm_X6_readSign N) (hE : En p l e rm_X6_readSign s m args below meth c Q D A cX6_readSign .return_ (wC N z1) [])  (s0 : St) (h : F_X6_readSign_254 s0 = some z1) : Aw p l e rm_X6_readSign s m args below meth c Q D A 2 (wC N s0) 254 [] [] := by
  unfold F_X6_readSign_254 at h
  cases h
  exact aw_ret hE dX6_readSign_254
def F_X6_readSign_248 (s0 : St) : Option (St) :=
  oL (sI s0 6 (35 : Int32)) fun s1 =>
  F_X6_readSign_254 s1
set_option maxHeartbeats 4000000 in
set_option maxRecDepth 100000 in
theorem T_X6_readSign_248 {z1 : St} (C : Cx p rm_X6_readSign s m args c D A cX6_readSign 2 RX6 rm_X6_readSign N) (hE : En p l e rm_X6_readSign s m args below meth c Q D A cX6_readSign .return_ (wC N z1) [])  (s0 : St) (h : F_X6_readSign_248 s0 = some z1) : Aw p l e rm_X6_readSign s m args below meth c Q D A 2 (wC N s0) 248 [(0, .ref (N.1 1))] [] := by
  unfold F_X6_readSign_248 at h
  refine aw_aload_n C 0 dX6_readSign_248 rfl ?_
  refine aw_bipush (v := 35) C dX6_readSign_249 (by decide) ?_
  refine cp_rd_token C lw_11_7 dX6_readSign_251 ?_
  refine ca_name (fun s1 es1 => ?_)
  have h := oL_e es1 h
  refine aw_sub (lv' := []) [] rfl ?_
  exact T_X6_readSign_254 C hE s1 h
def F_X6_readSign_147 (s0 : St) (t0 : Int32) : Option (St) :=
  oL (sI s0 6 t0) fun s1 =>
  F_X6_readSign_254 s1
set_option maxHeartbeats 4000000 in
set_option maxRecDepth 100000 in
theorem T_X6_readSign_147 {z1 : St} (C : Cx p rm_X6_readSign s m args c D A cX6_readSign 2 RX6 rm_X6_readSign N) (hE : En p l e rm_X6_readSign s m args below meth c Q D A cX6_readSign .return_ (wC N z1) [])  (s0 : St) (t0 : Int32) (h : F_X6_readSign_147 s0 t0 = some z1) : Aw p l e rm_X6_readSign s m args below meth c Q D A 2 (wC N s0) 147 [] [.int t0, .ref (N.1 1)] := by
  unfold F_X6_readSign_147 at h
  refine cp_rd_token C lw_11_7 dX6_readSign_147 ?_
  refine ca_name (fun s1 es1 => ?_)
  have h := oL_e es1 h
  refine aw_goto (tgt := 254) C dX6_readSign_150 (by decide) ?_
  refine aw_sub (lv' := []) [] rfl ?_
  exact T_X6_readSign_254 C hE s1 h
def F_X6_readSign_170 (s0 : St) (t0 : Int32) : Option (St) :=
  oL (sI s0 6 t0) fun s1 =>
  F_X6_readSign_254 s1
set_option maxHeartbeats 4000000 in
set_option maxRecDepth 100000 in
theorem T_X6_readSign_170 {z1 : St} (C : Cx p rm_X6_readSign s m args c D A cX6_readSign 2 RX6 rm_X6_readSign N) (hE : En p l e rm_X6_readSign s m args below meth c Q D A cX6_readSign .return_ (wC N z1) [])  (s0 : St) (t0 : Int32) (h : F_X6_readSign_170 s0 t0 = some z1) : Aw p l e rm_X6_readSign s m args below meth c Q D A 2 (wC N s0) 170 [] [.int t0, .ref (N.1 1)] := by
  unfold F_X6_readSign_170 at h
  refine cp_rd_token C lw_11_7 dX6_readSign_170 ?_
  refine ca_name (fun s1 es1 => ?_)
  have h := oL_e es1 h
  refine aw_goto (tgt := 254) C dX6_readSign_173 (by decide) ?_
  refine aw_sub (lv' := []) [] rfl ?_
  exact T_X6_readSign_254 C hE s1 h
def F_X6_readSign_0 (s0 : St) (x1 : Int32) : Option (St) :=
  oL (sI s0 5 ((s0.1 5) + (1 : Int32))) fun s1 =>
  if x1 = 40 then (
    oL (sI s1 6 (31 : Int32)) fun s2 =>
    F_X6_readSign_254 s2)
  else (
  if x1 = 41 then (
    oL (sI s1 6 (32 : Int32)) fun s3 =>
    F_X6_readSign_254 s3)
  else (
  if x1 = 42 then (
    oL (sI s1 6 (23 : Int32)) fun s4 =>
    F_X6_readSign_254 s4)
  else (
  if x1 = 43 then (
    oL (sI s1 6 (21 : Int32)) fun s5 =>
    F_X6_readSign_254 s5)
  else (
  if x1 = 44 then (
    F_X6_readSign_248 s1)
  else (
  if x1 = 45 then (
    oL (sI s1 6 (22 : Int32)) fun s6 =>
    F_X6_readSign_254 s6)
  else (
  if x1 = 46 then (
    F_X6_readSign_248 s1)
  else (
  if x1 = 47 then (
    oL (sI s1 6 (24 : Int32)) fun s7 =>
    F_X6_readSign_254 s7)
  else (
  if x1 = 48 then (
    F_X6_readSign_248 s1)
  else (
  if x1 = 49 then (
    F_X6_readSign_248 s1)
  else (
  if x1 = 50 then (
    F_X6_readSign_248 s1)
  else (
  if x1 = 51 then (
    F_X6_readSign_248 s1)
  else (
  if x1 = 52 then (
    F_X6_readSign_248 s1)
  else (
  if x1 = 53 then (
    F_X6_readSign_248 s1)
  else (
  if x1 = 54 then (
    F_X6_readSign_248 s1)
  else (
  if x1 = 55 then (
    F_X6_readSign_248 s1)
  else (
  if x1 = 56 then (
    F_X6_readSign_248 s1)
  else (
  if x1 = 57 then (
    F_X6_readSign_248 s1)
  else (
  if x1 = 58 then (
    F_X6_readSign_248 s1)
  else (
  if x1 = 59 then (
    oL (sI s1 6 (33 : Int32)) fun s8 =>
    F_X6_readSign_254 s8)
  else (
  if x1 = 60 then (
    oC (f_X6_follows s1 (61 : Int32)) fun w11 =>
    oL w11.1 fun v9 => oL w11.2 fun s10 =>
    if v9 = 0 then (
      oC (f_X6_follows s10 (62 : Int32)) fun w14 =>
      oL w14.1 fun v12 => oL w14.2 fun s13 =>
      if v12 = 0 then (
        F_X6_readSign_147 s13 (25 : Int32))
      else (
        F_X6_readSign_147 s13 (28 : Int32)))
    else (
      F_X6_readSign_147 s10 (26 : Int32)))
  else (
  if x1 = 61 then (
    oL (sI s1 6 (27 : Int32)) fun s15 =>
    F_X6_readSign_254 s15)
  else (
  if x1 = 62 then (
    oC (f_X6_follows s1 (61 : Int32)) fun w18 =>
    oL w18.1 fun v16 => oL w18.2 fun s17 =>
    if v16 = 0 then (
      F_X6_readSign_170 s17 (30 : Int32))
    else (
      F_X6_readSign_170 s17 (29 : Int32)))
  else (
    F_X6_readSign_248 s1)))))))))))))))))))))))
set_option maxHeartbeats 4000000 in
set_option maxRecDepth 100000 in
theorem T_X6_readSign_0 {z1 : St} (C : Cx p rm_X6_readSign s m args c D A cX6_readSign 2 RX6 rm_X6_readSign N) (hE : En p l e rm_X6_readSign s m args below meth c Q D A cX6_readSign .return_ (wC N z1) [])  (s0 : St) (x1 : Int32) (h : F_X6_readSign_0 s0 x1 = some z1) : Aw p l e rm_X6_readSign s m args below meth c Q D A 2 (wC N s0) 0 [(0, .ref (N.1 1)), (1, .int x1)] [] := by
  unfold F_X6_readSign_0 at h
  refine aw_aload_n C 0 dX6_readSign_0 rfl ?_
  refine aw_dup C dX6_readSign_1 rfl ?_
  refine cg_rd_at C lw_11_3 dX6_readSign_2 ?_
  refine aw_iconst (v := 1) C dX6_readSign_5 (by decide) ?_
  refine aw_iadd C dX6_readSign_6 ?_
  refine cp_rd_at C lw_11_3 dX6_readSign_7 ?_
  refine ca_name (fun s1 es1 => ?_)
  have h := oL_e es1 h
  refine aw_iload_n C 1 dX6_readSign_10 rfl ?_
  by_cases q0 : x1 = (40 : Int32)
  · have h := bq_t q0 h
    refine aw_table (tgt := 221) C 210 dX6_readSign_11 (by rw [q0]; decide) (by rw [q0]; decide) (by rw [q0]; decide) (by decide) ?_
    refine aw_aload_n C 0 dX6_readSign_221 rfl ?_
    refine aw_bipush (v := 31) C dX6_readSign_222 (by decide) ?_
    refine cp_rd_token C lw_11_7 dX6_readSign_224 ?_
    refine ca_name (fun s2 es2 => ?_)
    have h := oL_e es2 h
    refine aw_goto (tgt := 254) C dX6_readSign_227 (by decide) ?_
    refine aw_sub (lv' := []) [] rfl ?_
    exact T_X6_readSign_254 C hE s2 h
  have h := bq_f q0 h
  by_cases q1 : x1 = (41 : Int32)
  · have h := bq_t q1 h
    refine aw_table (tgt := 230) C 219 dX6_readSign_11 (by rw [q1]; decide) (by rw [q1]; decide) (by rw [q1]; decide) (by decide) ?_
    refine aw_aload_n C 0 dX6_readSign_230 rfl ?_
    refine aw_bipush (v := 32) C dX6_readSign_231 (by decide) ?_
    refine cp_rd_token C lw_11_7 dX6_readSign_233 ?_
    refine ca_name (fun s3 es3 => ?_)
    have h := oL_e es3 h
    refine aw_goto (tgt := 254) C dX6_readSign_236 (by decide) ?_
    refine aw_sub (lv' := []) [] rfl ?_
    exact T_X6_readSign_254 C hE s3 h
  have h := bq_f q1 h
  by_cases q2 : x1 = (42 : Int32)
  · have h := bq_t q2 h
    refine aw_table (tgt := 203) C 192 dX6_readSign_11 (by rw [q2]; decide) (by rw [q2]; decide) (by rw [q2]; decide) (by decide) ?_
    refine aw_aload_n C 0 dX6_readSign_203 rfl ?_
    refine aw_bipush (v := 23) C dX6_readSign_204 (by decide) ?_
    refine cp_rd_token C lw_11_7 dX6_readSign_206 ?_
    refine ca_name (fun s4 es4 => ?_)
    have h := oL_e es4 h
    refine aw_goto (tgt := 254) C dX6_readSign_209 (by decide) ?_
    refine aw_sub (lv' := []) [] rfl ?_
    exact T_X6_readSign_254 C hE s4 h
  have h := bq_f q2 h
  by_cases q3 : x1 = (43 : Int32)
  · have h := bq_t q3 h
    refine aw_table (tgt := 185) C 174 dX6_readSign_11 (by rw [q3]; decide) (by rw [q3]; decide) (by rw [q3]; decide) (by decide) ?_
    refine aw_aload_n C 0 dX6_readSign_185 rfl ?_
    refine aw_bipush (v := 21) C dX6_readSign_186 (by decide) ?_
    refine cp_rd_token C lw_11_7 dX6_readSign_188 ?_
    refine ca_name (fun s5 es5 => ?_)
    have h := oL_e es5 h
    refine aw_goto (tgt := 254) C dX6_readSign_191 (by decide) ?_
    refine aw_sub (lv' := []) [] rfl ?_
    exact T_X6_readSign_254 C hE s5 h
  have h := bq_f q3 h
  by_cases q4 : x1 = (44 : Int32)
  · have h := bq_t q4 h
    refine aw_table (tgt := 248) C 237 dX6_readSign_11 (by rw [q4]; decide) (by rw [q4]; decide) (by rw [q4]; decide) (by decide) ?_
    refine aw_sub (lv' := [(0, .ref (N.1 1))]) [0] rfl ?_
    exact T_X6_readSign_248 C hE s1 h
  have h := bq_f q4 h
  by_cases q5 : x1 = (45 : Int32)
  · have h := bq_t q5 h
    refine aw_table (tgt := 194) C 183 dX6_readSign_11 (by rw [q5]; decide) (by rw [q5]; decide) (by rw [q5]; decide) (by decide) ?_
    refine aw_aload_n C 0 dX6_readSign_194 rfl ?_
    refine aw_bipush (v := 22) C dX6_readSign_195 (by decide) ?_
    refine cp_rd_token C lw_11_7 dX6_readSign_197 ?_
    refine ca_name (fun s6 es6 => ?_)
    have h := oL_e es6 h
    refine aw_goto (tgt := 254) C dX6_readSign_200 (by decide) ?_
    refine aw_sub (lv' := []) [] rfl ?_
    exact T_X6_readSign_254 C hE s6 h
  have h := bq_f q5 h
  by_cases q6 : x1 = (46 : Int32)
  · have h := bq_t q6 h
    refine aw_table (tgt := 248) C 237 dX6_readSign_11 (by rw [q6]; decide) (by rw [q6]; decide) (by rw [q6]; decide) (by decide) ?_
    refine aw_sub (lv' := [(0, .ref (N.1 1))]) [0] rfl ?_
    exact T_X6_readSign_248 C hE s1 h
  have h := bq_f q6 h
  by_cases q7 : x1 = (47 : Int32)
  · have h := bq_t q7 h
    refine aw_table (tgt := 212) C 201 dX6_readSign_11 (by rw [q7]; decide) (by rw [q7]; decide) (by rw [q7]; decide) (by decide) ?_
    refine aw_aload_n C 0 dX6_readSign_212 rfl ?_
    refine aw_bipush (v := 24) C dX6_readSign_213 (by decide) ?_
    refine cp_rd_token C lw_11_7 dX6_readSign_215 ?_
    refine ca_name (fun s7 es7 => ?_)
    have h := oL_e es7 h
    refine aw_goto (tgt := 254) C dX6_readSign_218 (by decide) ?_
    refine aw_sub (lv' := []) [] rfl ?_
    exact T_X6_readSign_254 C hE s7 h
  have h := bq_f q7 h
  by_cases q8 : x1 = (48 : Int32)
  · have h := bq_t q8 h
    refine aw_table (tgt := 248) C 237 dX6_readSign_11 (by rw [q8]; decide) (by rw [q8]; decide) (by rw [q8]; decide) (by decide) ?_
    refine aw_sub (lv' := [(0, .ref (N.1 1))]) [0] rfl ?_
    exact T_X6_readSign_248 C hE s1 h
  have h := bq_f q8 h
  by_cases q9 : x1 = (49 : Int32)
  · have h := bq_t q9 h
    refine aw_table (tgt := 248) C 237 dX6_readSign_11 (by rw [q9]; decide) (by rw [q9]; decide) (by rw [q9]; decide) (by decide) ?_
    refine aw_sub (lv' := [(0, .ref (N.1 1))]) [0] rfl ?_
    exact T_X6_readSign_248 C hE s1 h
  have h := bq_f q9 h
  by_cases q10 : x1 = (50 : Int32)
  · have h := bq_t q10 h
    refine aw_table (tgt := 248) C 237 dX6_readSign_11 (by rw [q10]; decide) (by rw [q10]; decide) (by rw [q10]; decide) (by decide) ?_
    refine aw_sub (lv' := [(0, .ref (N.1 1))]) [0] rfl ?_
    exact T_X6_readSign_248 C hE s1 h
  have h := bq_f q10 h
  by_cases q11 : x1 = (51 : Int32)
  · have h := bq_t q11 h
    refine aw_table (tgt := 248) C 237 dX6_readSign_11 (by rw [q11]; decide) (by rw [q11]; decide) (by rw [q11]; decide) (by decide) ?_
    refine aw_sub (lv' := [(0, .ref (N.1 1))]) [0] rfl ?_
    exact T_X6_readSign_248 C hE s1 h
  have h := bq_f q11 h
  by_cases q12 : x1 = (52 : Int32)
  · have h := bq_t q12 h
    refine aw_table (tgt := 248) C 237 dX6_readSign_11 (by rw [q12]; decide) (by rw [q12]; decide) (by rw [q12]; decide) (by decide) ?_
    refine aw_sub (lv' := [(0, .ref (N.1 1))]) [0] rfl ?_
    exact T_X6_readSign_248 C hE s1 h
  have h := bq_f q12 h
  by_cases q13 : x1 = (53 : Int32)
  · have h := bq_t q13 h
    refine aw_table (tgt := 248) C 237 dX6_readSign_11 (by rw [q13]; decide) (by rw [q13]; decide) (by rw [q13]; decide) (by decide) ?_
    refine aw_sub (lv' := [(0, .ref (N.1 1))]) [0] rfl ?_
    exact T_X6_readSign_248 C hE s1 h
  have h := bq_f q13 h
  by_cases q14 : x1 = (54 : Int32)
  · have h := bq_t q14 h
    refine aw_table (tgt := 248) C 237 dX6_readSign_11 (by rw [q14]; decide) (by rw [q14]; decide) (by rw [q14]; decide) (by decide) ?_
    refine aw_sub (lv' := [(0, .ref (N.1 1))]) [0] rfl ?_
    exact T_X6_readSign_248 C hE s1 h
  have h := bq_f q14 h
  by_cases q15 : x1 = (55 : Int32)
  · have h := bq_t q15 h
    refine aw_table (tgt := 248) C 237 dX6_readSign_11 (by rw [q15]; decide) (by rw [q15]; decide) (by rw [q15]; decide) (by decide) ?_
    refine aw_sub (lv' := [(0, .ref (N.1 1))]) [0] rfl ?_
    exact T_X6_readSign_248 C hE s1 h
  have h := bq_f q15 h
  by_cases q16 : x1 = (56 : Int32)
  · have h := bq_t q16 h
    refine aw_table (tgt := 248) C 237 dX6_readSign_11 (by rw [q16]; decide) (by rw [q16]; decide) (by rw [q16]; decide) (by decide) ?_
    refine aw_sub (lv' := [(0, .ref (N.1 1))]) [0] rfl ?_
    exact T_X6_readSign_248 C hE s1 h
  have h := bq_f q16 h
  by_cases q17 : x1 = (57 : Int32)
  · have h := bq_t q17 h
    refine aw_table (tgt := 248) C 237 dX6_readSign_11 (by rw [q17]; decide) (by rw [q17]; decide) (by rw [q17]; decide) (by decide) ?_
    refine aw_sub (lv' := [(0, .ref (N.1 1))]) [0] rfl ?_
    exact T_X6_readSign_248 C hE s1 h
  have h := bq_f q17 h
  by_cases q18 : x1 = (58 : Int32)
  · have h := bq_t q18 h
    refine aw_table (tgt := 248) C 237 dX6_readSign_11 (by rw [q18]; decide) (by rw [q18]; decide) (by rw [q18]; decide) (by decide) ?_
    refine aw_sub (lv' := [(0, .ref (N.1 1))]) [0] rfl ?_
    exact T_X6_readSign_248 C hE s1 h
  have h := bq_f q18 h
  by_cases q19 : x1 = (59 : Int32)
  · have h := bq_t q19 h
    refine aw_table (tgt := 239) C 228 dX6_readSign_11 (by rw [q19]; decide) (by rw [q19]; decide) (by rw [q19]; decide) (by decide) ?_
    refine aw_aload_n C 0 dX6_readSign_239 rfl ?_
    refine aw_bipush (v := 33) C dX6_readSign_240 (by decide) ?_
    refine cp_rd_token C lw_11_7 dX6_readSign_242 ?_
    refine ca_name (fun s8 es8 => ?_)
    have h := oL_e es8 h
    refine aw_goto (tgt := 254) C dX6_readSign_245 (by decide) ?_
    refine aw_sub (lv' := []) [] rfl ?_
    exact T_X6_readSign_254 C hE s8 h
  have h := bq_f q19 h
  by_cases q20 : x1 = (60 : Int32)
  · have h := bq_t q20 h
    refine aw_table (tgt := 116) C 105 dX6_readSign_11 (by rw [q20]; decide) (by rw [q20]; decide) (by rw [q20]; decide) (by decide) ?_
    refine aw_aload_n C 0 dX6_readSign_116 rfl ?_
    refine aw_aload_n C 0 dX6_readSign_117 rfl ?_
    refine aw_bipush (v := 61) C dX6_readSign_118 (by decide) ?_
    obtain ⟨⟨v9, s10⟩, cw11, h⟩ := oC_e h
    have h := oL_e (x := s10) rfl (oL_e (x := v9) rfl h)
    refine aw_callVi (n := 1) (As := [.int (61 : Int32)]) (rest := [.ref (N.1 1)]) (q0 := 1) C (c_X6_follows l D N s1 s10 (61 : Int32) v9 cw11) lw_14_14 lw_14_15 lw_14_16 lw_2_1 lw_14_17 rfl rfl (by decide +kernel) ⟨Nat.le_of_ble_eq_true rfl, Nat.le_of_ble_eq_true rfl⟩ rfl rfl rfl rfl rfl (Nat.le_of_ble_eq_true rfl) dX6_readSign_120 ?_
    refine aw_if_eq (tgt := 131) C dX6_readSign_123 (by decide) (fun q => ?_) (fun q => ?_)
    · have h := bq_t q h
      refine aw_aload_n C 0 dX6_readSign_131 rfl ?_
      refine aw_bipush (v := 62) C dX6_readSign_132 (by decide) ?_
      obtain ⟨⟨v12, s13⟩, cw14, h⟩ := oC_e h
      have h := oL_e (x := s13) rfl (oL_e (x := v12) rfl h)
      refine aw_callVi (n := 1) (As := [.int (62 : Int32)]) (rest := [.ref (N.1 1)]) (q0 := 1) C (c_X6_follows l D N s10 s13 (62 : Int32) v12 cw14) lw_14_14 lw_14_15 lw_14_16 lw_2_1 lw_14_17 rfl rfl (by decide +kernel) ⟨Nat.le_of_ble_eq_true rfl, Nat.le_of_ble_eq_true rfl⟩ rfl rfl rfl rfl rfl (Nat.le_of_ble_eq_true rfl) dX6_readSign_134 ?_
      refine aw_if_eq (tgt := 145) C dX6_readSign_137 (by decide) (fun q => ?_) (fun q => ?_)
      · have h := bq_t q h
        refine aw_bipush (v := 25) C dX6_readSign_145 (by decide) ?_
        refine aw_sub (lv' := []) [] rfl ?_
        exact T_X6_readSign_147 C hE s13 (25 : Int32) h
      · have h := bq_f q h
        refine aw_bipush (v := 28) C dX6_readSign_140 (by decide) ?_
        refine aw_goto (tgt := 147) C dX6_readSign_142 (by decide) ?_
        refine aw_sub (lv' := []) [] rfl ?_
        exact T_X6_readSign_147 C hE s13 (28 : Int32) h
    · have h := bq_f q h
      refine aw_bipush (v := 26) C dX6_readSign_126 (by decide) ?_
      refine aw_goto (tgt := 147) C dX6_readSign_128 (by decide) ?_
      refine aw_sub (lv' := []) [] rfl ?_
      exact T_X6_readSign_147 C hE s10 (26 : Int32) h
  have h := bq_f q20 h
  by_cases q21 : x1 = (61 : Int32)
  · have h := bq_t q21 h
    refine aw_table (tgt := 176) C 165 dX6_readSign_11 (by rw [q21]; decide) (by rw [q21]; decide) (by rw [q21]; decide) (by decide) ?_
    refine aw_aload_n C 0 dX6_readSign_176 rfl ?_
    refine aw_bipush (v := 27) C dX6_readSign_177 (by decide) ?_
    refine cp_rd_token C lw_11_7 dX6_readSign_179 ?_
    refine ca_name (fun s15 es15 => ?_)
    have h := oL_e es15 h
    refine aw_goto (tgt := 254) C dX6_readSign_182 (by decide) ?_
    refine aw_sub (lv' := []) [] rfl ?_
    exact T_X6_readSign_254 C hE s15 h
  have h := bq_f q21 h
  by_cases q22 : x1 = (62 : Int32)
  · have h := bq_t q22 h
    refine aw_table (tgt := 153) C 142 dX6_readSign_11 (by rw [q22]; decide) (by rw [q22]; decide) (by rw [q22]; decide) (by decide) ?_
    refine aw_aload_n C 0 dX6_readSign_153 rfl ?_
    refine aw_aload_n C 0 dX6_readSign_154 rfl ?_
    refine aw_bipush (v := 61) C dX6_readSign_155 (by decide) ?_
    obtain ⟨⟨v16, s17⟩, cw18, h⟩ := oC_e h
    have h := oL_e (x := s17) rfl (oL_e (x := v16) rfl h)
    refine aw_callVi (n := 1) (As := [.int (61 : Int32)]) (rest := [.ref (N.1 1)]) (q0 := 1) C (c_X6_follows l D N s1 s17 (61 : Int32) v16 cw18) lw_14_14 lw_14_15 lw_14_16 lw_2_1 lw_14_17 rfl rfl (by decide +kernel) ⟨Nat.le_of_ble_eq_true rfl, Nat.le_of_ble_eq_true rfl⟩ rfl rfl rfl rfl rfl (Nat.le_of_ble_eq_true rfl) dX6_readSign_157 ?_
    refine aw_if_eq (tgt := 168) C dX6_readSign_160 (by decide) (fun q => ?_) (fun q => ?_)
    · have h := bq_t q h
      refine aw_bipush (v := 30) C dX6_readSign_168 (by decide) ?_
      refine aw_sub (lv' := []) [] rfl ?_
      exact T_X6_readSign_170 C hE s17 (30 : Int32) h
    · have h := bq_f q h
      refine aw_bipush (v := 29) C dX6_readSign_163 (by decide) ?_
      refine aw_goto (tgt := 170) C dX6_readSign_165 (by decide) ?_
      refine aw_sub (lv' := []) [] rfl ?_
      exact T_X6_readSign_170 C hE s17 (29 : Int32) h
  have h := bq_f q22 h
  refine aw_tableO (tgt := 248) C dX6_readSign_11 (by have n0 := sw_ne (k := 40) (by decide) q0; have n1 := sw_ne (k := 41) (by decide) q1; have n2 := sw_ne (k := 42) (by decide) q2; have n3 := sw_ne (k := 43) (by decide) q3; have n4 := sw_ne (k := 44) (by decide) q4; have n5 := sw_ne (k := 45) (by decide) q5; have n6 := sw_ne (k := 46) (by decide) q6; have n7 := sw_ne (k := 47) (by decide) q7; have n8 := sw_ne (k := 48) (by decide) q8; have n9 := sw_ne (k := 49) (by decide) q9; have n10 := sw_ne (k := 50) (by decide) q10; have n11 := sw_ne (k := 51) (by decide) q11; have n12 := sw_ne (k := 52) (by decide) q12; have n13 := sw_ne (k := 53) (by decide) q13; have n14 := sw_ne (k := 54) (by decide) q14; have n15 := sw_ne (k := 55) (by decide) q15; have n16 := sw_ne (k := 56) (by decide) q16; have n17 := sw_ne (k := 57) (by decide) q17; have n18 := sw_ne (k := 58) (by decide) q18; have n19 := sw_ne (k := 59) (by decide) q19; have n20 := sw_ne (k := 60) (by decide) q20; have n21 := sw_ne (k := 61) (by decide) q21; have n22 := sw_ne (k := 62) (by decide) q22; omega) (by decide) ?_
  refine aw_sub (lv' := [(0, .ref (N.1 1))]) [0] rfl ?_
  exact T_X6_readSign_248 C hE s1 h
def f_X6_readSign (s0 : St) (x1 : Int32) : Option (St) := F_X6_readSign_0 s0 x1
theorem c_X6_readSign (l : Launch) (D : va_G) (N : Nm) (s0 z1 : St) (x1 : Int32) (h : f_X6_readSign s0 x1 = some z1) : Metv l yX6_readSign (tsU yX6_readSign cX6_readSign 2 none) rm_X6_readSign D N [.ref (N.1 1), .int x1] (wC N s0) (wC N z1) :=
  met_v (cc := cX6_readSign) (nL := 2) (own := RX6) (by decide) rfl (Nat.le_of_ble_eq_true rfl) (fun p e s m args below meth c Q A C hE => aw_sub [0, 1] rfl (T_X6_readSign_0 C hE s0 x1 h))
/-! AwardLine$Reader.readNumber()V -/
def rm_X6_readNumber : Room := { frames := 1, cells := 0, slots := 0, locals := 20 }
def F_X6_readNumber_78 (s0 : St) : Option (St) :=
  oL (sI s0 6 (20 : Int32)) fun s1 =>
  some s1
set_option maxHeartbeats 4000000 in
set_option maxRecDepth 100000 in
theorem T_X6_readNumber_78 {z1 : St} (C : Cx p rm_X6_readNumber s m args c D A cX6_readNumber 1 RX6 rm_X6_readNumber N) (hE : En p l e rm_X6_readNumber s m args below meth c Q D A cX6_readNumber .return_ (wC N z1) [])  (s0 : St) (h : F_X6_readNumber_78 s0 = some z1) : Aw p l e rm_X6_readNumber s m args below meth c Q D A 1 (wC N s0) 78 [(0, .ref (N.1 1))] [] := by
  unfold F_X6_readNumber_78 at h
  refine aw_aload_n C 0 dX6_readNumber_78 rfl ?_
  refine aw_bipush (v := 20) C dX6_readNumber_79 (by decide) ?_
  refine cp_rd_token C lw_11_7 dX6_readNumber_81 ?_
  refine ca_name (fun s1 es1 => ?_)
  have h := oL_e es1 h
  cases h
  exact aw_ret hE dX6_readNumber_84
def F_X6_readNumber_65 (k5 : St → Option (St)) (s0 : St) : Option (St) :=
  oL (sI s0 5 ((s0.1 5) + (1 : Int32))) fun s1 =>
  k5 s1
set_option maxHeartbeats 4000000 in
set_option maxRecDepth 100000 in
theorem T_X6_readNumber_65 {z1 : St} {k5 : St → Option (St)} (C : Cx p rm_X6_readNumber s m args c D A cX6_readNumber 1 RX6 rm_X6_readNumber N) (hE : En p l e rm_X6_readNumber s m args below meth c Q D A cX6_readNumber .return_ (wC N z1) []) (hk5 : ∀ (s0 : St), k5 s0 = some z1 → Aw p l e rm_X6_readNumber s m args below meth c Q D A 1 (wC N s0) 5 [(0, .ref (N.1 1))] []) (s0 : St) (h : F_X6_readNumber_65 k5 s0 = some z1) : Aw p l e rm_X6_readNumber s m args below meth c Q D A 1 (wC N s0) 65 [(0, .ref (N.1 1))] [] := by
  unfold F_X6_readNumber_65 at h
  refine aw_aload_n C 0 dX6_readNumber_65 rfl ?_
  refine aw_dup C dX6_readNumber_66 rfl ?_
  refine cg_rd_at C lw_11_3 dX6_readNumber_67 ?_
  refine aw_iconst (v := 1) C dX6_readNumber_70 (by decide) ?_
  refine aw_iadd C dX6_readNumber_71 ?_
  refine cp_rd_at C lw_11_3 dX6_readNumber_72 ?_
  refine ca_name (fun s1 es1 => ?_)
  have h := oL_e es1 h
  refine aw_goto (tgt := 5) C dX6_readNumber_75 (by decide) ?_
  refine aw_sub (lv' := [(0, .ref (N.1 1))]) [0] rfl ?_
  exact hk5 s1 h
def F_X6_readNumber_5_b (k5 : St → Option (St)) (s0 : St) : Option (St) :=
  if (s0.1 4) ≤ (s0.1 5) then (
    F_X6_readNumber_78 s0)
  else (
    oA (s0.1 5) 400 <|
    oC (f_X6_isDigit s0 (s0.2.1 0 (Int32.toNatClampNeg (s0.1 5)))) fun w4 =>
    oL w4.1 fun v2 => oL w4.2 fun s3 =>
    if v2 = 0 then (
      F_X6_readNumber_78 s3)
    else (
      if (9999 : Int32) < (s3.1 8) then (
        F_X6_readNumber_65 k5 s3)
      else (
        oA (s3.1 5) 400 <|
        oL (sI s3 8 ((((s3.1 8) * (10 : Int32)) + (s3.2.1 0 (Int32.toNatClampNeg (s3.1 5)))) - (48 : Int32))) fun s6 =>
        F_X6_readNumber_65 k5 s6)))
set_option maxHeartbeats 4000000 in
set_option maxRecDepth 100000 in
theorem T_X6_readNumber_5_b {z1 : St} {k5 : St → Option (St)} (C : Cx p rm_X6_readNumber s m args c D A cX6_readNumber 1 RX6 rm_X6_readNumber N) (hE : En p l e rm_X6_readNumber s m args below meth c Q D A cX6_readNumber .return_ (wC N z1) []) (hk5 : ∀ (s0 : St), k5 s0 = some z1 → Aw p l e rm_X6_readNumber s m args below meth c Q D A 1 (wC N s0) 5 [(0, .ref (N.1 1))] []) (s0 : St) (h : F_X6_readNumber_5_b k5 s0 = some z1) : Aw p l e rm_X6_readNumber s m args below meth c Q D A 1 (wC N s0) 5 [(0, .ref (N.1 1))] [] := by
  unfold F_X6_readNumber_5_b at h
  refine aw_aload_n C 0 dX6_readNumber_5 rfl ?_
  refine cg_rd_at C lw_11_3 dX6_readNumber_6 ?_
  refine aw_aload_n C 0 dX6_readNumber_9 rfl ?_
  refine cg_rd_length C lw_11_2 dX6_readNumber_10 ?_
  refine aw_icmp_ge (tgt := 78) C dX6_readNumber_13 (by decide) (fun q => ?_) (fun q => ?_)
  · have h := bq_t q h
    refine aw_sub (lv' := [(0, .ref (N.1 1))]) [0] rfl ?_
    exact T_X6_readNumber_78 C hE s0 h
  · have h := bq_f q h
    refine aw_aload_n C 0 dX6_readNumber_16 rfl ?_
    refine cg_rd_tape C lw_5_10 dX6_readNumber_17 ?_
    refine aw_aload_n C 0 dX6_readNumber_20 rfl ?_
    refine cg_rd_at C lw_11_3 dX6_readNumber_21 ?_
    obtain ⟨q1, h⟩ := oA_e h
    refine ca_iald (k := 0) C (by decide) rfl q1 dX6_readNumber_24 ?_
    obtain ⟨⟨v2, s3⟩, cw4, h⟩ := oC_e h
    have h := oL_e (x := s3) rfl (oL_e (x := v2) rfl h)
    refine aw_callSi (n := 1) (As := [.int (s0.2.1 0 (Int32.toNatClampNeg (s0.1 5)))]) (rest := []) C (c_X6_isDigit l D N s0 s3 (s0.2.1 0 (Int32.toNatClampNeg (s0.1 5))) v2 cw4) lw_14_2 lw_14_3 lw_2_1 lw_14_4 rfl rfl (by decide +kernel) ⟨Nat.le_of_ble_eq_true rfl, Nat.le_of_ble_eq_true rfl⟩ rfl rfl (Nat.le_of_ble_eq_true rfl) dX6_readNumber_25 ?_
    refine aw_if_eq (tgt := 78) C dX6_readNumber_28 (by decide) (fun q => ?_) (fun q => ?_)
    · have h := bq_t q h
      refine aw_sub (lv' := [(0, .ref (N.1 1))]) [0] rfl ?_
      exact T_X6_readNumber_78 C hE s3 h
    · have h := bq_f q h
      refine aw_aload_n C 0 dX6_readNumber_31 rfl ?_
      refine cg_rd_number C lw_14_9 dX6_readNumber_32 ?_
      refine aw_sipush (v := 9999) C dX6_readNumber_35 (by decide) ?_
      refine aw_icmp_gt (tgt := 65) C dX6_readNumber_38 (by decide) (fun q => ?_) (fun q => ?_)
      · have h := bq_t q h
        refine aw_sub (lv' := [(0, .ref (N.1 1))]) [0] rfl ?_
        exact T_X6_readNumber_65 C hE hk5 s3 h
      · have h := bq_f q h
        refine aw_aload_n C 0 dX6_readNumber_41 rfl ?_
        refine aw_aload_n C 0 dX6_readNumber_42 rfl ?_
        refine cg_rd_number C lw_14_9 dX6_readNumber_43 ?_
        refine aw_bipush (v := 10) C dX6_readNumber_46 (by decide) ?_
        refine aw_imul C dX6_readNumber_48 ?_
        refine aw_aload_n C 0 dX6_readNumber_49 rfl ?_
        refine cg_rd_tape C lw_5_10 dX6_readNumber_50 ?_
        refine aw_aload_n C 0 dX6_readNumber_53 rfl ?_
        refine cg_rd_at C lw_11_3 dX6_readNumber_54 ?_
        obtain ⟨q5, h⟩ := oA_e h
        refine ca_iald (k := 0) C (by decide) rfl q5 dX6_readNumber_57 ?_
        refine aw_iadd C dX6_readNumber_58 ?_
        refine aw_bipush (v := 48) C dX6_readNumber_59 (by decide) ?_
        refine aw_isub C dX6_readNumber_61 ?_
        refine cp_rd_number C lw_14_9 dX6_readNumber_62 ?_
        refine ca_name (fun s6 es6 => ?_)
        have h := oL_e es6 h
        refine aw_sub (lv' := [(0, .ref (N.1 1))]) [0] rfl ?_
        exact T_X6_readNumber_65 C hE hk5 s6 h
def F_X6_readNumber_5 : Nat → St → Option (St)
  | 0 => fun _ => none
  | n + 1 => F_X6_readNumber_5_b (F_X6_readNumber_5 n)
theorem T_X6_readNumber_5 {z1 : St} (C : Cx p rm_X6_readNumber s m args c D A cX6_readNumber 1 RX6 rm_X6_readNumber N) (hE : En p l e rm_X6_readNumber s m args below meth c Q D A cX6_readNumber .return_ (wC N z1) [])  : ∀ (n : Nat) (s0 : St), F_X6_readNumber_5 n s0 = some z1 → Aw p l e rm_X6_readNumber s m args below meth c Q D A 1 (wC N s0) 5 [(0, .ref (N.1 1))] [] := by
  intro n
  induction n with
  | zero => intro s0 h; cases h
  | succ n ih => intro s0 h; exact T_X6_readNumber_5_b C hE ih s0 h
def F_X6_readNumber_0 (s0 : St) : Option (St) :=
  oL (sI s0 8 (0 : Int32)) fun s1 =>
  F_X6_readNumber_5 100000 s1
set_option maxHeartbeats 4000000 in
set_option maxRecDepth 100000 in
theorem T_X6_readNumber_0 {z1 : St} (C : Cx p rm_X6_readNumber s m args c D A cX6_readNumber 1 RX6 rm_X6_readNumber N) (hE : En p l e rm_X6_readNumber s m args below meth c Q D A cX6_readNumber .return_ (wC N z1) [])  (s0 : St) (h : F_X6_readNumber_0 s0 = some z1) : Aw p l e rm_X6_readNumber s m args below meth c Q D A 1 (wC N s0) 0 [(0, .ref (N.1 1))] [] := by
  unfold F_X6_readNumber_0 at h
  refine aw_aload_n C 0 dX6_readNumber_0 rfl ?_
  refine aw_iconst (v := 0) C dX6_readNumber_1 (by decide) ?_
  refine cp_rd_number C lw_14_9 dX6_readNumber_2 ?_
  refine ca_name (fun s1 es1 => ?_)
  have h := oL_e es1 h
  refine aw_sub (lv' := [(0, .ref (N.1 1))]) [0] rfl ?_
  exact T_X6_readNumber_5 C hE 100000 s1 h
def f_X6_readNumber (s0 : St) : Option (St) := F_X6_readNumber_0 s0
theorem c_X6_readNumber (l : Launch) (D : va_G) (N : Nm) (s0 z1 : St) (h : f_X6_readNumber s0 = some z1) : Metv l yX6_readNumber (tsU yX6_readNumber cX6_readNumber 1 none) rm_X6_readNumber D N [.ref (N.1 1)] (wC N s0) (wC N z1) :=
  met_v (cc := cX6_readNumber) (nL := 1) (own := RX6) (by decide) rfl (Nat.le_of_ble_eq_true rfl) (fun p e s m args below meth c Q A C hE => aw_sub [0] rfl (T_X6_readNumber_0 C hE s0 h))
/-! AwardLine$Reader.rankOf(I)I -/
def rm_X6_rankOf : Room := { frames := 0, cells := 0, slots := 0, locals := 0 }
def F_X6_rankOf_69 (s0 : St) (t0 : Int32) : Option (Int32 × St) :=
  some (t0, s0)
set_option maxHeartbeats 4000000 in
set_option maxRecDepth 100000 in
theorem T_X6_rankOf_69 {r : Int32} {z1 : St} (C : Cx p rm_X6_rankOf s m args c D A cX6_rankOf 1 RX6 rm_X6_rankOf N) (hE : En p l e rm_X6_rankOf s m args below meth c Q D A cX6_rankOf .ireturn (wC N z1) [.int r])  (s0 : St) (t0 : Int32) (h : F_X6_rankOf_69 s0 t0 = some (r, z1)) : Aw p l e rm_X6_rankOf s m args below meth c Q D A 1 (wC N s0) 69 [] [.int t0] := by
  unfold F_X6_rankOf_69 at h
  cases h
  exact aw_ret hE dX6_rankOf_69
def F_X6_rankOf_68 (s0 : St) : Option (Int32 × St) :=
  F_X6_rankOf_69 s0 (-1 : Int32)
set_option maxHeartbeats 4000000 in
set_option maxRecDepth 100000 in
theorem T_X6_rankOf_68 {r : Int32} {z1 : St} (C : Cx p rm_X6_rankOf s m args c D A cX6_rankOf 1 RX6 rm_X6_rankOf N) (hE : En p l e rm_X6_rankOf s m args below meth c Q D A cX6_rankOf .ireturn (wC N z1) [.int r])  (s0 : St) (h : F_X6_rankOf_68 s0 = some (r, z1)) : Aw p l e rm_X6_rankOf s m args below meth c Q D A 1 (wC N s0) 68 [] [] := by
  unfold F_X6_rankOf_68 at h
  refine aw_iconst (v := -1) C dX6_rankOf_68 (by decide) ?_
  refine aw_sub (lv' := []) [] rfl ?_
  exact T_X6_rankOf_69 C hE s0 (-1 : Int32) h
def F_X6_rankOf_52 (s0 : St) (x0 : Int32) : Option (Int32 × St) :=
  if x0 < (25 : Int32) then (
    F_X6_rankOf_68 s0)
  else (
    if (30 : Int32) < x0 then (
      F_X6_rankOf_68 s0)
    else (
      F_X6_rankOf_69 s0 (3 : Int32)))
set_option maxHeartbeats 4000000 in
set_option maxRecDepth 100000 in
theorem T_X6_rankOf_52 {r : Int32} {z1 : St} (C : Cx p rm_X6_rankOf s m args c D A cX6_rankOf 1 RX6 rm_X6_rankOf N) (hE : En p l e rm_X6_rankOf s m args below meth c Q D A cX6_rankOf .ireturn (wC N z1) [.int r])  (s0 : St) (x0 : Int32) (h : F_X6_rankOf_52 s0 x0 = some (r, z1)) : Aw p l e rm_X6_rankOf s m args below meth c Q D A 1 (wC N s0) 52 [(0, .int x0)] [] := by
  unfold F_X6_rankOf_52 at h
  refine aw_iload_n C 0 dX6_rankOf_52 rfl ?_
  refine aw_bipush (v := 25) C dX6_rankOf_53 (by decide) ?_
  refine aw_icmp_lt (tgt := 68) C dX6_rankOf_55 (by decide) (fun q => ?_) (fun q => ?_)
  · have h := bq_t q h
    refine aw_sub (lv' := []) [] rfl ?_
    exact T_X6_rankOf_68 C hE s0 h
  · have h := bq_f q h
    refine aw_iload_n C 0 dX6_rankOf_58 rfl ?_
    refine aw_bipush (v := 30) C dX6_rankOf_59 (by decide) ?_
    refine aw_icmp_gt (tgt := 68) C dX6_rankOf_61 (by decide) (fun q => ?_) (fun q => ?_)
    · have h := bq_t q h
      refine aw_sub (lv' := []) [] rfl ?_
      exact T_X6_rankOf_68 C hE s0 h
    · have h := bq_f q h
      refine aw_iconst (v := 3) C dX6_rankOf_64 (by decide) ?_
      refine aw_goto (tgt := 69) C dX6_rankOf_65 (by decide) ?_
      refine aw_sub (lv' := []) [] rfl ?_
      exact T_X6_rankOf_69 C hE s0 (3 : Int32) h
def F_X6_rankOf_48 (s0 : St) : Option (Int32 × St) :=
  some ((4 : Int32), s0)
set_option maxHeartbeats 4000000 in
set_option maxRecDepth 100000 in
theorem T_X6_rankOf_48 {r : Int32} {z1 : St} (C : Cx p rm_X6_rankOf s m args c D A cX6_rankOf 1 RX6 rm_X6_rankOf N) (hE : En p l e rm_X6_rankOf s m args below meth c Q D A cX6_rankOf .ireturn (wC N z1) [.int r])  (s0 : St) (h : F_X6_rankOf_48 s0 = some (r, z1)) : Aw p l e rm_X6_rankOf s m args below meth c Q D A 1 (wC N s0) 48 [] [] := by
  unfold F_X6_rankOf_48 at h
  refine aw_iconst (v := 4) C dX6_rankOf_48 (by decide) ?_
  cases h
  exact aw_ret hE dX6_rankOf_49
def F_X6_rankOf_50 (s0 : St) : Option (Int32 × St) :=
  some ((5 : Int32), s0)
set_option maxHeartbeats 4000000 in
set_option maxRecDepth 100000 in
theorem T_X6_rankOf_50 {r : Int32} {z1 : St} (C : Cx p rm_X6_rankOf s m args c D A cX6_rankOf 1 RX6 rm_X6_rankOf N) (hE : En p l e rm_X6_rankOf s m args below meth c Q D A cX6_rankOf .ireturn (wC N z1) [.int r])  (s0 : St) (h : F_X6_rankOf_50 s0 = some (r, z1)) : Aw p l e rm_X6_rankOf s m args below meth c Q D A 1 (wC N s0) 50 [] [] := by
  unfold F_X6_rankOf_50 at h
  refine aw_iconst (v := 5) C dX6_rankOf_50 (by decide) ?_
  cases h
  exact aw_ret hE dX6_rankOf_51
def F_X6_rankOf_0 (s0 : St) (x0 : Int32) : Option (Int32 × St) :=
  if x0 = 18 then (
    some ((1 : Int32), s0))
  else (
  if x0 = 19 then (
    some ((0 : Int32), s0))
  else (
  if x0 = 20 then (
    F_X6_rankOf_52 s0 x0)
  else (
  if x0 = 21 then (
    F_X6_rankOf_48 s0)
  else (
  if x0 = 22 then (
    F_X6_rankOf_48 s0)
  else (
  if x0 = 23 then (
    F_X6_rankOf_50 s0)
  else (
  if x0 = 24 then (
    F_X6_rankOf_50 s0)
  else (
    F_X6_rankOf_52 s0 x0)))))))
set_option maxHeartbeats 4000000 in
set_option maxRecDepth 100000 in
theorem T_X6_rankOf_0 {r : Int32} {z1 : St} (C : Cx p rm_X6_rankOf s m args c D A cX6_rankOf 1 RX6 rm_X6_rankOf N) (hE : En p l e rm_X6_rankOf s m args below meth c Q D A cX6_rankOf .ireturn (wC N z1) [.int r])  (s0 : St) (x0 : Int32) (h : F_X6_rankOf_0 s0 x0 = some (r, z1)) : Aw p l e rm_X6_rankOf s m args below meth c Q D A 1 (wC N s0) 0 [(0, .int x0)] [] := by
  unfold F_X6_rankOf_0 at h
  refine aw_iload_n C 0 dX6_rankOf_0 rfl ?_
  by_cases q0 : x0 = (18 : Int32)
  · have h := bq_t q0 h
    refine aw_table (tgt := 46) C 45 dX6_rankOf_1 (by rw [q0]; decide) (by rw [q0]; decide) (by rw [q0]; decide) (by decide) ?_
    refine aw_iconst (v := 1) C dX6_rankOf_46 (by decide) ?_
    cases h
    exact aw_ret hE dX6_rankOf_47
  have h := bq_f q0 h
  by_cases q1 : x0 = (19 : Int32)
  · have h := bq_t q1 h
    refine aw_table (tgt := 44) C 43 dX6_rankOf_1 (by rw [q1]; decide) (by rw [q1]; decide) (by rw [q1]; decide) (by decide) ?_
    refine aw_iconst (v := 0) C dX6_rankOf_44 (by decide) ?_
    cases h
    exact aw_ret hE dX6_rankOf_45
  have h := bq_f q1 h
  by_cases q2 : x0 = (20 : Int32)
  · have h := bq_t q2 h
    refine aw_table (tgt := 52) C 51 dX6_rankOf_1 (by rw [q2]; decide) (by rw [q2]; decide) (by rw [q2]; decide) (by decide) ?_
    refine aw_sub (lv' := [(0, .int x0)]) [0] rfl ?_
    exact T_X6_rankOf_52 C hE s0 x0 h
  have h := bq_f q2 h
  by_cases q3 : x0 = (21 : Int32)
  · have h := bq_t q3 h
    refine aw_table (tgt := 48) C 47 dX6_rankOf_1 (by rw [q3]; decide) (by rw [q3]; decide) (by rw [q3]; decide) (by decide) ?_
    refine aw_sub (lv' := []) [] rfl ?_
    exact T_X6_rankOf_48 C hE s0 h
  have h := bq_f q3 h
  by_cases q4 : x0 = (22 : Int32)
  · have h := bq_t q4 h
    refine aw_table (tgt := 48) C 47 dX6_rankOf_1 (by rw [q4]; decide) (by rw [q4]; decide) (by rw [q4]; decide) (by decide) ?_
    refine aw_sub (lv' := []) [] rfl ?_
    exact T_X6_rankOf_48 C hE s0 h
  have h := bq_f q4 h
  by_cases q5 : x0 = (23 : Int32)
  · have h := bq_t q5 h
    refine aw_table (tgt := 50) C 49 dX6_rankOf_1 (by rw [q5]; decide) (by rw [q5]; decide) (by rw [q5]; decide) (by decide) ?_
    refine aw_sub (lv' := []) [] rfl ?_
    exact T_X6_rankOf_50 C hE s0 h
  have h := bq_f q5 h
  by_cases q6 : x0 = (24 : Int32)
  · have h := bq_t q6 h
    refine aw_table (tgt := 50) C 49 dX6_rankOf_1 (by rw [q6]; decide) (by rw [q6]; decide) (by rw [q6]; decide) (by decide) ?_
    refine aw_sub (lv' := []) [] rfl ?_
    exact T_X6_rankOf_50 C hE s0 h
  have h := bq_f q6 h
  refine aw_tableO (tgt := 52) C dX6_rankOf_1 (by have n0 := sw_ne (k := 18) (by decide) q0; have n1 := sw_ne (k := 19) (by decide) q1; have n2 := sw_ne (k := 20) (by decide) q2; have n3 := sw_ne (k := 21) (by decide) q3; have n4 := sw_ne (k := 22) (by decide) q4; have n5 := sw_ne (k := 23) (by decide) q5; have n6 := sw_ne (k := 24) (by decide) q6; omega) (by decide) ?_
  refine aw_sub (lv' := [(0, .int x0)]) [0] rfl ?_
  exact T_X6_rankOf_52 C hE s0 x0 h
def f_X6_rankOf (s0 : St) (x0 : Int32) : Option (Int32 × St) := F_X6_rankOf_0 s0 x0
theorem c_X6_rankOf (l : Launch) (D : va_G) (N : Nm) (s0 z1 : St) (x0 : Int32) (r : Int32) (h : f_X6_rankOf s0 x0 = some (r, z1)) : Meti l yX6_rankOf (tsU yX6_rankOf cX6_rankOf 1 (some .int)) rm_X6_rankOf D N [.int x0] (wC N s0) r (wC N z1) :=
  met_i (cc := cX6_rankOf) (nL := 1) (own := RX6) (by decide) rfl (Nat.le_of_ble_eq_true rfl) (fun p e s m args below meth c Q A C hE => aw_sub [0] rfl (T_X6_rankOf_0 C hE s0 x0 h))
/-! AwardLine$Reader.emit(II)V -/
def rm_X6_emit : Room := { frames := 0, cells := 0, slots := 0, locals := 0 }
def F_X6_emit_57 (s0 : St) : Option (St) :=
  some s0
set_option maxHeartbeats 4000000 in
set_option maxRecDepth 100000 in
theorem T_X6_emit_57 {z1 : St} (C : Cx p rm_X6_emit s m args c D A cX6_emit 3 RX6 rm_X6_emit N) (hE : En p l e rm_X6_emit s m args below meth c Q D A cX6_emit .return_ (wC N z1) [])  (s0 : St) (h : F_X6_emit_57 s0 = some z1) : Aw p l e rm_X6_emit s m args below meth c Q D A 3 (wC N s0) 57 [] [] := by
  unfold F_X6_emit_57 at h
  cases h
  exact aw_ret hE dX6_emit_57
def F_X6_emit_0 (s0 : St) (x1 : Int32) (x2 : Int32) : Option (St) :=
  oT (s0.1 12) <|
  if (64 : Int32) ≤ (s0.1 20) then (
    F_X6_emit_57 s0)
  else (
    oT (s0.1 12) <|
    oT (s0.1 12) <|
    oA (s0.1 20) 64 <|
    oL (sA s0 5 (upd (s0.2.1 5) (Int32.toNatClampNeg (s0.1 20)) x1)) fun s5 =>
    oT (s5.1 12) <|
    oT (s5.1 12) <|
    oA (s5.1 20) 64 <|
    oL (sA s5 6 (upd (s5.2.1 6) (Int32.toNatClampNeg (s5.1 20)) x2)) fun s9 =>
    oT (s9.1 12) <|
    oL (sI s9 20 ((s9.1 20) + (1 : Int32))) fun s11 =>
    F_X6_emit_57 s11)
set_option maxHeartbeats 4000000 in
set_option maxRecDepth 100000 in
theorem T_X6_emit_0 {z1 : St} (C : Cx p rm_X6_emit s m args c D A cX6_emit 3 RX6 rm_X6_emit N) (hE : En p l e rm_X6_emit s m args below meth c Q D A cX6_emit .return_ (wC N z1) [])  (s0 : St) (x1 : Int32) (x2 : Int32) (h : F_X6_emit_0 s0 x1 x2 = some z1) : Aw p l e rm_X6_emit s m args below meth c Q D A 3 (wC N s0) 0 [(0, .ref (N.1 1)), (1, .int x1), (2, .int x2)] [] := by
  unfold F_X6_emit_0 at h
  refine aw_aload_n C 0 dX6_emit_0 rfl ?_
  obtain ⟨q1, h⟩ := oT_e h
  refine cg_rd_into C lw_10_21 dX6_emit_1 ?_
  refine aw_into q1 ?_
  refine cg_ts_knots C lw_16_8 dX6_emit_4 ?_
  refine aw_bipush (v := 64) C dX6_emit_7 (by decide) ?_
  refine aw_icmp_ge (tgt := 57) C dX6_emit_9 (by decide) (fun q => ?_) (fun q => ?_)
  · have h := bq_t q h
    refine aw_sub (lv' := []) [] rfl ?_
    exact T_X6_emit_57 C hE s0 h
  · have h := bq_f q h
    refine aw_aload_n C 0 dX6_emit_12 rfl ?_
    obtain ⟨q2, h⟩ := oT_e h
    refine cg_rd_into C lw_10_21 dX6_emit_13 ?_
    refine aw_into q2 ?_
    refine cg_ts_knot C lw_16_9 dX6_emit_16 ?_
    refine aw_aload_n C 0 dX6_emit_19 rfl ?_
    obtain ⟨q3, h⟩ := oT_e h
    refine cg_rd_into C lw_10_21 dX6_emit_20 ?_
    refine aw_into q3 ?_
    refine cg_ts_knots C lw_16_8 dX6_emit_23 ?_
    refine aw_iload_n C 1 dX6_emit_26 rfl ?_
    obtain ⟨q4, h⟩ := oA_e h
    refine ca_iast (k := 5) C (by decide) rfl q4 dX6_emit_27 ?_
    refine ca_name (fun s5 es5 => ?_)
    have h := oL_e es5 h
    refine aw_aload_n C 0 dX6_emit_28 rfl ?_
    obtain ⟨q6, h⟩ := oT_e h
    refine cg_rd_into C lw_10_21 dX6_emit_29 ?_
    refine aw_into q6 ?_
    refine cg_ts_number C lw_16_10 dX6_emit_32 ?_
    refine aw_aload_n C 0 dX6_emit_35 rfl ?_
    obtain ⟨q7, h⟩ := oT_e h
    refine cg_rd_into C lw_10_21 dX6_emit_36 ?_
    refine aw_into q7 ?_
    refine cg_ts_knots C lw_16_8 dX6_emit_39 ?_
    refine aw_iload_n C 2 dX6_emit_42 rfl ?_
    obtain ⟨q8, h⟩ := oA_e h
    refine ca_iast (k := 6) C (by decide) rfl q8 dX6_emit_43 ?_
    refine ca_name (fun s9 es9 => ?_)
    have h := oL_e es9 h
    refine aw_aload_n C 0 dX6_emit_44 rfl ?_
    obtain ⟨q10, h⟩ := oT_e h
    refine cg_rd_into C lw_10_21 dX6_emit_45 ?_
    refine aw_into q10 ?_
    refine aw_dup C dX6_emit_48 rfl ?_
    refine cg_ts_knots C lw_16_8 dX6_emit_49 ?_
    refine aw_iconst (v := 1) C dX6_emit_52 (by decide) ?_
    refine aw_iadd C dX6_emit_53 ?_
    refine cp_ts_knots C lw_16_8 dX6_emit_54 ?_
    refine ca_name (fun s11 es11 => ?_)
    have h := oL_e es11 h
    refine aw_sub (lv' := []) [] rfl ?_
    exact T_X6_emit_57 C hE s11 h
def f_X6_emit (s0 : St) (x1 : Int32) (x2 : Int32) : Option (St) := F_X6_emit_0 s0 x1 x2
theorem c_X6_emit (l : Launch) (D : va_G) (N : Nm) (s0 z1 : St) (x1 : Int32) (x2 : Int32) (h : f_X6_emit s0 x1 x2 = some z1) : Metv l yX6_emit (tsU yX6_emit cX6_emit 3 none) rm_X6_emit D N [.ref (N.1 1), .int x1, .int x2] (wC N s0) (wC N z1) :=
  met_v (cc := cX6_emit) (nL := 3) (own := RX6) (by decide) rfl (Nat.le_of_ble_eq_true rfl) (fun p e s m args below meth c Q A C hE => aw_sub [0, 1, 2] rfl (T_X6_emit_0 C hE s0 x1 x2 h))
/-! AwardLine$Reader.wordBetween(II)I -/
def rm_X6_wordBetween : Room := { frames := 4, cells := 0, slots := 0, locals := 85 }
def F_X6_wordBetween_95 (k11 : St → Int32 → Int32 → Int32 → Int32 → Int32 → Int32 → Option (Int32 × St)) (s0 : St) (x1 : Int32) (x2 : Int32) (x3 : Int32) (x4 : Int32) (x5 : Int32) (x6 : Int32) : Option (Int32 × St) :=
  oL (x6 + (1 : Int32)) fun y1 =>
  k11 s0 x1 x2 x3 x4 x5 y1
set_option maxHeartbeats 4000000 in
set_option maxRecDepth 100000 in
theorem T_X6_wordBetween_95 {r : Int32} {z1 : St} {k11 : St → Int32 → Int32 → Int32 → Int32 → Int32 → Int32 → Option (Int32 × St)} (C : Cx p rm_X6_wordBetween s m args c D A cX6_wordBetween 8 RX6 rm_X6_wordBetween N) (hE : En p l e rm_X6_wordBetween s m args below meth c Q D A cX6_wordBetween .ireturn (wC N z1) [.int r]) (hk11 : ∀ (s0 : St) (x1 : Int32) (x2 : Int32) (x3 : Int32) (x4 : Int32) (x5 : Int32) (x6 : Int32), k11 s0 x1 x2 x3 x4 x5 x6 = some (r, z1) → Aw p l e rm_X6_wordBetween s m args below meth c Q D A 8 (wC N s0) 11 [(0, .ref (N.1 1)), (1, .int x1), (2, .int x2), (3, .int x3), (4, .int x4), (5, .int x5), (6, .int x6)] []) (s0 : St) (x1 : Int32) (x2 : Int32) (x3 : Int32) (x4 : Int32) (x5 : Int32) (x6 : Int32) (h : F_X6_wordBetween_95 k11 s0 x1 x2 x3 x4 x5 x6 = some (r, z1)) : Aw p l e rm_X6_wordBetween s m args below meth c Q D A 8 (wC N s0) 95 [(0, .ref (N.1 1)), (1, .int x1), (2, .int x2), (3, .int x3), (4, .int x4), (5, .int x5), (6, .int x6)] [] := by
  unfold F_X6_wordBetween_95 at h
  obtain ⟨y1, ey1⟩ : ∃ q : Int32, q = x6 + (1 : Int32) := ⟨_, rfl⟩
  have h := oL_e ey1 h
  refine aw_iinc (v := y1) (k := 6) (lv' := [(0, .ref (N.1 1)), (1, .int x1), (2, .int x2), (3, .int x3), (4, .int x4), (5, .int x5), (6, .int y1)]) C [1, 2, 3, 4, 5, 6, 0] dX6_wordBetween_95 rfl (by rw [ey1]; rfl) (by decide) rfl ?_
  refine aw_goto (tgt := 11) C dX6_wordBetween_98 (by decide) ?_
  refine aw_sub (lv' := [(0, .ref (N.1 1)), (1, .int x1), (2, .int x2), (3, .int x3), (4, .int x4), (5, .int x5), (6, .int y1)]) [0, 1, 2, 3, 4, 5, 6] rfl ?_
  exact hk11 s0 x1 x2 x3 x4 x5 y1 h
def F_X6_wordBetween_86 (k11 : St → Int32 → Int32 → Int32 → Int32 → Int32 → Int32 → Option (Int32 × St)) (s0 : St) (x1 : Int32) (x2 : Int32) (x3 : Int32) (x6 : Int32) : Option (Int32 × St) :=
  oL (x3 + (1 : Int32)) fun y1 =>
  oL (1 : Int32) fun y2 =>
  F_X6_wordBetween_95 k11 s0 x1 x2 y1 x1 y2 x6
set_option maxHeartbeats 4000000 in
set_option maxRecDepth 100000 in
theorem T_X6_wordBetween_86 {r : Int32} {z1 : St} {k11 : St → Int32 → Int32 → Int32 → Int32 → Int32 → Int32 → Option (Int32 × St)} (C : Cx p rm_X6_wordBetween s m args c D A cX6_wordBetween 8 RX6 rm_X6_wordBetween N) (hE : En p l e rm_X6_wordBetween s m args below meth c Q D A cX6_wordBetween .ireturn (wC N z1) [.int r]) (hk11 : ∀ (s0 : St) (x1 : Int32) (x2 : Int32) (x3 : Int32) (x4 : Int32) (x5 : Int32) (x6 : Int32), k11 s0 x1 x2 x3 x4 x5 x6 = some (r, z1) → Aw p l e rm_X6_wordBetween s m args below meth c Q D A 8 (wC N s0) 11 [(0, .ref (N.1 1)), (1, .int x1), (2, .int x2), (3, .int x3), (4, .int x4), (5, .int x5), (6, .int x6)] []) (s0 : St) (x1 : Int32) (x2 : Int32) (x3 : Int32) (x6 : Int32) (h : F_X6_wordBetween_86 k11 s0 x1 x2 x3 x6 = some (r, z1)) : Aw p l e rm_X6_wordBetween s m args below meth c Q D A 8 (wC N s0) 86 [(0, .ref (N.1 1)), (1, .int x1), (2, .int x2), (3, .int x3), (6, .int x6)] [] := by
  unfold F_X6_wordBetween_86 at h
  obtain ⟨y1, ey1⟩ : ∃ q : Int32, q = x3 + (1 : Int32) := ⟨_, rfl⟩
  have h := oL_e ey1 h
  refine aw_iinc (v := y1) (k := 3) (lv' := [(0, .ref (N.1 1)), (1, .int x1), (2, .int x2), (3, .int y1), (6, .int x6)]) C [1, 2, 3, 0, 4] dX6_wordBetween_86 rfl (by rw [ey1]; rfl) (by decide) rfl ?_
  refine aw_iload_n C 1 dX6_wordBetween_89 rfl ?_
  refine aw_istore (lv' := [(0, .ref (N.1 1)), (1, .int x1), (2, .int x2), (3, .int y1), (4, .int x1), (6, .int x6)]) C [1, 2, 3, 4, 0, 5] dX6_wordBetween_90 (by decide) rfl ?_
  refine aw_iconst (v := 1) C dX6_wordBetween_92 (by decide) ?_
  refine aw_topi (fun y2 ey2 => ?_)
  have h := oL_e ey2 h
  refine aw_istore (lv' := [(0, .ref (N.1 1)), (1, .int x1), (2, .int x2), (3, .int y1), (4, .int x1), (5, .int y2), (6, .int x6)]) C [1, 2, 3, 4, 5, 0, 6] dX6_wordBetween_93 (by decide) rfl ?_
  refine aw_sub (lv' := [(0, .ref (N.1 1)), (1, .int x1), (2, .int x2), (3, .int y1), (4, .int x1), (5, .int y2), (6, .int x6)]) [0, 1, 2, 3, 4, 5, 6] rfl ?_
  exact T_X6_wordBetween_95 C hE hk11 s0 x1 x2 y1 x1 y2 x6 h
def F_X6_wordBetween_65 (k11 : St → Int32 → Int32 → Int32 → Int32 → Int32 → Int32 → Option (Int32 × St)) (s0 : St) (x1 : Int32) (x2 : Int32) (x3 : Int32) (x4 : Int32) (x6 : Int32) (t0 : Int32) : Option (Int32 × St) :=
  oL (x4 + (1 : Int32)) fun y1 =>
  F_X6_wordBetween_95 k11 s0 x1 x2 x3 y1 t0 x6
set_option maxHeartbeats 4000000 in
set_option maxRecDepth 100000 in
theorem T_X6_wordBetween_65 {r : Int32} {z1 : St} {k11 : St → Int32 → Int32 → Int32 → Int32 → Int32 → Int32 → Option (Int32 × St)} (C : Cx p rm_X6_wordBetween s m args c D A cX6_wordBetween 8 RX6 rm_X6_wordBetween N) (hE : En p l e rm_X6_wordBetween s m args below meth c Q D A cX6_wordBetween .ireturn (wC N z1) [.int r]) (hk11 : ∀ (s0 : St) (x1 : Int32) (x2 : Int32) (x3 : Int32) (x4 : Int32) (x5 : Int32) (x6 : Int32), k11 s0 x1 x2 x3 x4 x5 x6 = some (r, z1) → Aw p l e rm_X6_wordBetween s m args below meth c Q D A 8 (wC N s0) 11 [(0, .ref (N.1 1)), (1, .int x1), (2, .int x2), (3, .int x3), (4, .int x4), (5, .int x5), (6, .int x6)] []) (s0 : St) (x1 : Int32) (x2 : Int32) (x3 : Int32) (x4 : Int32) (x6 : Int32) (t0 : Int32) (h : F_X6_wordBetween_65 k11 s0 x1 x2 x3 x4 x6 t0 = some (r, z1)) : Aw p l e rm_X6_wordBetween s m args below meth c Q D A 8 (wC N s0) 65 [(0, .ref (N.1 1)), (1, .int x1), (2, .int x2), (3, .int x3), (4, .int x4), (6, .int x6)] [.int t0] := by
  unfold F_X6_wordBetween_65 at h
  refine aw_istore (lv' := [(0, .ref (N.1 1)), (1, .int x1), (2, .int x2), (3, .int x3), (4, .int x4), (5, .int t0), (6, .int x6)]) C [1, 2, 3, 4, 5, 0, 6] dX6_wordBetween_65 (by decide) rfl ?_
  obtain ⟨y1, ey1⟩ : ∃ q : Int32, q = x4 + (1 : Int32) := ⟨_, rfl⟩
  have h := oL_e ey1 h
  refine aw_iinc (v := y1) (k := 4) (lv' := [(0, .ref (N.1 1)), (1, .int x1), (2, .int x2), (3, .int x3), (4, .int y1), (5, .int t0), (6, .int x6)]) C [1, 2, 3, 4, 0, 5, 6] dX6_wordBetween_67 rfl (by rw [ey1]; rfl) (by decide) rfl ?_
  refine aw_goto (tgt := 95) C dX6_wordBetween_70 (by decide) ?_
  refine aw_sub (lv' := [(0, .ref (N.1 1)), (1, .int x1), (2, .int x2), (3, .int x3), (4, .int y1), (5, .int t0), (6, .int x6)]) [0, 1, 2, 3, 4, 5, 6] rfl ?_
  exact T_X6_wordBetween_95 C hE hk11 s0 x1 x2 x3 y1 t0 x6 h
def F_X6_wordBetween_64 (k11 : St → Int32 → Int32 → Int32 → Int32 → Int32 → Int32 → Option (Int32 × St)) (s0 : St) (x1 : Int32) (x2 : Int32) (x3 : Int32) (x4 : Int32) (x6 : Int32) : Option (Int32 × St) :=
  F_X6_wordBetween_65 k11 s0 x1 x2 x3 x4 x6 (0 : Int32)
set_option maxHeartbeats 4000000 in
set_option maxRecDepth 100000 in
theorem T_X6_wordBetween_64 {r : Int32} {z1 : St} {k11 : St → Int32 → Int32 → Int32 → Int32 → Int32 → Int32 → Option (Int32 × St)} (C : Cx p rm_X6_wordBetween s m args c D A cX6_wordBetween 8 RX6 rm_X6_wordBetween N) (hE : En p l e rm_X6_wordBetween s m args below meth c Q D A cX6_wordBetween .ireturn (wC N z1) [.int r]) (hk11 : ∀ (s0 : St) (x1 : Int32) (x2 : Int32) (x3 : Int32) (x4 : Int32) (x5 : Int32) (x6 : Int32), k11 s0 x1 x2 x3 x4 x5 x6 = some (r, z1) → Aw p l e rm_X6_wordBetween s m args below meth c Q D A 8 (wC N s0) 11 [(0, .ref (N.1 1)), (1, .int x1), (2, .int x2), (3, .int x3), (4, .int x4), (5, .int x5), (6, .int x6)] []) (s0 : St) (x1 : Int32) (x2 : Int32) (x3 : Int32) (x4 : Int32) (x6 : Int32) (h : F_X6_wordBetween_64 k11 s0 x1 x2 x3 x4 x6 = some (r, z1)) : Aw p l e rm_X6_wordBetween s m args below meth c Q D A 8 (wC N s0) 64 [(0, .ref (N.1 1)), (1, .int x1), (2, .int x2), (3, .int x3), (4, .int x4), (6, .int x6)] [] := by
  unfold F_X6_wordBetween_64 at h
  refine aw_iconst (v := 0) C dX6_wordBetween_64 (by decide) ?_
  refine aw_sub (lv' := [(0, .ref (N.1 1)), (1, .int x1), (2, .int x2), (3, .int x3), (4, .int x4), (6, .int x6)]) [0, 1, 2, 3, 4, 5] rfl ?_
  exact T_X6_wordBetween_65 C hE hk11 s0 x1 x2 x3 x4 x6 (0 : Int32) h
def F_X6_wordBetween_11_b (k11 : St → Int32 → Int32 → Int32 → Int32 → Int32 → Int32 → Option (Int32 × St)) (s0 : St) (x1 : Int32) (x2 : Int32) (x3 : Int32) (x4 : Int32) (x5 : Int32) (x6 : Int32) : Option (Int32 × St) :=
  if txN 0 ≤ x6 then (
    some ((35 : Int32), s0))
  else (
    oA x6 (txL.getD 0 0) <|
    oL (chN 0 (Int32.toNatClampNeg x6)) fun y2 =>
    if y2 = (32 : Int32) then (
      if x5 = 0 then (
        F_X6_wordBetween_86 k11 s0 x1 x2 x3 x6)
      else (
        if x4 = x2 then (
          some (x3, s0))
        else (
          F_X6_wordBetween_86 k11 s0 x1 x2 x3 x6)))
    else (
      if x5 = 0 then (
        F_X6_wordBetween_64 k11 s0 x1 x2 x3 x4 x6)
      else (
        if x2 ≤ x4 then (
          F_X6_wordBetween_64 k11 s0 x1 x2 x3 x4 x6)
        else (
          oA x4 400 <|
          if (s0.2.1 0 (Int32.toNatClampNeg x4)) = y2 then (
            F_X6_wordBetween_65 k11 s0 x1 x2 x3 x4 x6 (1 : Int32))
          else (
            F_X6_wordBetween_64 k11 s0 x1 x2 x3 x4 x6)))))
set_option maxHeartbeats 4000000 in
set_option maxRecDepth 100000 in
theorem T_X6_wordBetween_11_b {r : Int32} {z1 : St} {k11 : St → Int32 → Int32 → Int32 → Int32 → Int32 → Int32 → Option (Int32 × St)} (C : Cx p rm_X6_wordBetween s m args c D A cX6_wordBetween 8 RX6 rm_X6_wordBetween N) (hE : En p l e rm_X6_wordBetween s m args below meth c Q D A cX6_wordBetween .ireturn (wC N z1) [.int r]) (hk11 : ∀ (s0 : St) (x1 : Int32) (x2 : Int32) (x3 : Int32) (x4 : Int32) (x5 : Int32) (x6 : Int32), k11 s0 x1 x2 x3 x4 x5 x6 = some (r, z1) → Aw p l e rm_X6_wordBetween s m args below meth c Q D A 8 (wC N s0) 11 [(0, .ref (N.1 1)), (1, .int x1), (2, .int x2), (3, .int x3), (4, .int x4), (5, .int x5), (6, .int x6)] []) (s0 : St) (x1 : Int32) (x2 : Int32) (x3 : Int32) (x4 : Int32) (x5 : Int32) (x6 : Int32) (h : F_X6_wordBetween_11_b k11 s0 x1 x2 x3 x4 x5 x6 = some (r, z1)) : Aw p l e rm_X6_wordBetween s m args below meth c Q D A 8 (wC N s0) 11 [(0, .ref (N.1 1)), (1, .int x1), (2, .int x2), (3, .int x3), (4, .int x4), (5, .int x5), (6, .int x6)] [] := by
  unfold F_X6_wordBetween_11_b at h
  refine aw_iload C 6 dX6_wordBetween_11 rfl ?_
  refine aw_ldcS0 C dX6_wordBetween_13 ?_
  refine aw_callTi (n := 0) (j := 0) (As := []) (rest := [.int x6]) C (c_J0_length_8abf5 l D N (wC N s0) (by decide)) lw_12_1 lw_12_2 lw_12_3 lw_12_4 lw_12_5 rfl rfl (by decide +kernel) ⟨Nat.le_of_ble_eq_true rfl, Nat.le_of_ble_eq_true rfl⟩ (by decide) rfl rfl (Nat.le_of_ble_eq_true rfl) dX6_wordBetween_15 ?_
  refine aw_icmp_ge (tgt := 101) C dX6_wordBetween_18 (by decide) (fun q => ?_) (fun q => ?_)
  · have h := bq_t q h
    refine aw_bipush (v := 35) C dX6_wordBetween_101 (by decide) ?_
    cases h
    exact aw_ret hE dX6_wordBetween_103
  · have h := bq_f q h
    refine aw_ldcS0 C dX6_wordBetween_21 ?_
    refine aw_iload C 6 dX6_wordBetween_23 rfl ?_
    obtain ⟨q1, h⟩ := oA_e h
    refine aw_callTi (n := 1) (j := 0) (As := [.int x6]) (rest := []) C (c_J0_charAt_5068e l D N (wC N s0) (by decide) q1) lw_12_13 lw_12_14 lw_12_15 lw_12_4 lw_12_16 rfl rfl (by decide +kernel) ⟨Nat.le_of_ble_eq_true rfl, Nat.le_of_ble_eq_true rfl⟩ (by decide) rfl rfl (Nat.le_of_ble_eq_true rfl) dX6_wordBetween_25 ?_
    refine aw_topi (fun y2 ey2 => ?_)
    have h := oL_e ey2 h
    refine aw_istore (lv' := [(0, .ref (N.1 1)), (1, .int x1), (2, .int x2), (3, .int x3), (4, .int x4), (5, .int x5), (6, .int x6), (7, .int y2)]) C [1, 2, 3, 4, 5, 6, 7, 0] dX6_wordBetween_28 (by decide) rfl ?_
    refine aw_iload C 7 dX6_wordBetween_30 rfl ?_
    refine aw_bipush (v := 32) C dX6_wordBetween_32 (by decide) ?_
    refine aw_icmp_eq (tgt := 73) C dX6_wordBetween_34 (by decide) (fun q => ?_) (fun q => ?_)
    · have h := bq_t q h
      refine aw_iload C 5 dX6_wordBetween_73 rfl ?_
      refine aw_if_eq (tgt := 86) C dX6_wordBetween_75 (by decide) (fun q => ?_) (fun q => ?_)
      · have h := bq_t q h
        refine aw_sub (lv' := [(0, .ref (N.1 1)), (1, .int x1), (2, .int x2), (3, .int x3), (6, .int x6)]) [0, 1, 2, 3, 6] rfl ?_
        exact T_X6_wordBetween_86 C hE hk11 s0 x1 x2 x3 x6 h
      · have h := bq_f q h
        refine aw_iload C 4 dX6_wordBetween_78 rfl ?_
        refine aw_iload_n C 2 dX6_wordBetween_80 rfl ?_
        refine aw_icmp_ne (tgt := 86) C dX6_wordBetween_81 (by decide) (fun q => ?_) (fun q => ?_)
        · have h := bq_f q h
          refine aw_sub (lv' := [(0, .ref (N.1 1)), (1, .int x1), (2, .int x2), (3, .int x3), (6, .int x6)]) [0, 1, 2, 3, 6] rfl ?_
          exact T_X6_wordBetween_86 C hE hk11 s0 x1 x2 x3 x6 h
        · have h := bq_t q h
          refine aw_iload_n C 3 dX6_wordBetween_84 rfl ?_
          cases h
          exact aw_ret hE dX6_wordBetween_85
    · have h := bq_f q h
      refine aw_iload C 5 dX6_wordBetween_37 rfl ?_
      refine aw_if_eq (tgt := 64) C dX6_wordBetween_39 (by decide) (fun q => ?_) (fun q => ?_)
      · have h := bq_t q h
        refine aw_sub (lv' := [(0, .ref (N.1 1)), (1, .int x1), (2, .int x2), (3, .int x3), (4, .int x4), (6, .int x6)]) [0, 1, 2, 3, 4, 6] rfl ?_
        exact T_X6_wordBetween_64 C hE hk11 s0 x1 x2 x3 x4 x6 h
      · have h := bq_f q h
        refine aw_iload C 4 dX6_wordBetween_42 rfl ?_
        refine aw_iload_n C 2 dX6_wordBetween_44 rfl ?_
        refine aw_icmp_ge (tgt := 64) C dX6_wordBetween_45 (by decide) (fun q => ?_) (fun q => ?_)
        · have h := bq_t q h
          refine aw_sub (lv' := [(0, .ref (N.1 1)), (1, .int x1), (2, .int x2), (3, .int x3), (4, .int x4), (6, .int x6)]) [0, 1, 2, 3, 4, 6] rfl ?_
          exact T_X6_wordBetween_64 C hE hk11 s0 x1 x2 x3 x4 x6 h
        · have h := bq_f q h
          refine aw_aload_n C 0 dX6_wordBetween_48 rfl ?_
          refine cg_rd_tape C lw_5_10 dX6_wordBetween_49 ?_
          refine aw_iload C 4 dX6_wordBetween_52 rfl ?_
          obtain ⟨q3, h⟩ := oA_e h
          refine ca_iald (k := 0) C (by decide) rfl q3 dX6_wordBetween_54 ?_
          refine aw_iload C 7 dX6_wordBetween_55 rfl ?_
          refine aw_icmp_ne (tgt := 64) C dX6_wordBetween_57 (by decide) (fun q => ?_) (fun q => ?_)
          · have h := bq_f q h
            refine aw_sub (lv' := [(0, .ref (N.1 1)), (1, .int x1), (2, .int x2), (3, .int x3), (4, .int x4), (6, .int x6)]) [0, 1, 2, 3, 4, 6] rfl ?_
            exact T_X6_wordBetween_64 C hE hk11 s0 x1 x2 x3 x4 x6 h
          · have h := bq_t q h
            refine aw_iconst (v := 1) C dX6_wordBetween_60 (by decide) ?_
            refine aw_goto (tgt := 65) C dX6_wordBetween_61 (by decide) ?_
            refine aw_sub (lv' := [(0, .ref (N.1 1)), (1, .int x1), (2, .int x2), (3, .int x3), (4, .int x4), (6, .int x6)]) [0, 1, 2, 3, 4, 6] rfl ?_
            exact T_X6_wordBetween_65 C hE hk11 s0 x1 x2 x3 x4 x6 (1 : Int32) h
def F_X6_wordBetween_11 : Nat → St → Int32 → Int32 → Int32 → Int32 → Int32 → Int32 → Option (Int32 × St)
  | 0 => fun _ _ _ _ _ _ _ => none
  | n + 1 => F_X6_wordBetween_11_b (F_X6_wordBetween_11 n)
theorem T_X6_wordBetween_11 {r : Int32} {z1 : St} (C : Cx p rm_X6_wordBetween s m args c D A cX6_wordBetween 8 RX6 rm_X6_wordBetween N) (hE : En p l e rm_X6_wordBetween s m args below meth c Q D A cX6_wordBetween .ireturn (wC N z1) [.int r])  : ∀ (n : Nat) (s0 : St) (x1 : Int32) (x2 : Int32) (x3 : Int32) (x4 : Int32) (x5 : Int32) (x6 : Int32), F_X6_wordBetween_11 n s0 x1 x2 x3 x4 x5 x6 = some (r, z1) → Aw p l e rm_X6_wordBetween s m args below meth c Q D A 8 (wC N s0) 11 [(0, .ref (N.1 1)), (1, .int x1), (2, .int x2), (3, .int x3), (4, .int x4), (5, .int x5), (6, .int x6)] [] := by
  intro n
  induction n with
  | zero => intro s0 x1 x2 x3 x4 x5 x6 h; cases h
  | succ n ih => intro s0 x1 x2 x3 x4 x5 x6 h; exact T_X6_wordBetween_11_b C hE ih s0 x1 x2 x3 x4 x5 x6 h
def F_X6_wordBetween_0 (s0 : St) (x1 : Int32) (x2 : Int32) : Option (Int32 × St) :=
  oL (0 : Int32) fun y1 =>
  oL (1 : Int32) fun y2 =>
  oL (0 : Int32) fun y3 =>
  F_X6_wordBetween_11 100000 s0 x1 x2 y1 x1 y2 y3
set_option maxHeartbeats 4000000 in
set_option maxRecDepth 100000 in
theorem T_X6_wordBetween_0 {r : Int32} {z1 : St} (C : Cx p rm_X6_wordBetween s m args c D A cX6_wordBetween 8 RX6 rm_X6_wordBetween N) (hE : En p l e rm_X6_wordBetween s m args below meth c Q D A cX6_wordBetween .ireturn (wC N z1) [.int r])  (s0 : St) (x1 : Int32) (x2 : Int32) (h : F_X6_wordBetween_0 s0 x1 x2 = some (r, z1)) : Aw p l e rm_X6_wordBetween s m args below meth c Q D A 8 (wC N s0) 0 [(0, .ref (N.1 1)), (1, .int x1), (2, .int x2)] [] := by
  unfold F_X6_wordBetween_0 at h
  refine aw_iconst (v := 0) C dX6_wordBetween_0 (by decide) ?_
  refine aw_topi (fun y1 ey1 => ?_)
  have h := oL_e ey1 h
  refine aw_istore_n (lv' := [(0, .ref (N.1 1)), (1, .int x1), (2, .int x2), (3, .int y1)]) C [1, 2, 3, 0] dX6_wordBetween_1 rfl (by decide) rfl ?_
  refine aw_iload_n C 1 dX6_wordBetween_2 rfl ?_
  refine aw_istore (lv' := [(0, .ref (N.1 1)), (1, .int x1), (2, .int x2), (3, .int y1), (4, .int x1)]) C [1, 2, 3, 4, 0] dX6_wordBetween_3 (by decide) rfl ?_
  refine aw_iconst (v := 1) C dX6_wordBetween_5 (by decide) ?_
  refine aw_topi (fun y2 ey2 => ?_)
  have h := oL_e ey2 h
  refine aw_istore (lv' := [(0, .ref (N.1 1)), (1, .int x1), (2, .int x2), (3, .int y1), (4, .int x1), (5, .int y2)]) C [1, 2, 3, 4, 5, 0] dX6_wordBetween_6 (by decide) rfl ?_
  refine aw_iconst (v := 0) C dX6_wordBetween_8 (by decide) ?_
  refine aw_topi (fun y3 ey3 => ?_)
  have h := oL_e ey3 h
  refine aw_istore (lv' := [(0, .ref (N.1 1)), (1, .int x1), (2, .int x2), (3, .int y1), (4, .int x1), (5, .int y2), (6, .int y3)]) C [1, 2, 3, 4, 5, 6, 0] dX6_wordBetween_9 (by decide) rfl ?_
  refine aw_sub (lv' := [(0, .ref (N.1 1)), (1, .int x1), (2, .int x2), (3, .int y1), (4, .int x1), (5, .int y2), (6, .int y3)]) [0, 1, 2, 3, 4, 5, 6] rfl ?_
  exact T_X6_wordBetween_11 C hE 100000 s0 x1 x2 y1 x1 y2 y3 h
def f_X6_wordBetween (s0 : St) (x1 : Int32) (x2 : Int32) : Option (Int32 × St) := F_X6_wordBetween_0 s0 x1 x2
theorem c_X6_wordBetween (l : Launch) (D : va_G) (N : Nm) (s0 z1 : St) (x1 : Int32) (x2 : Int32) (r : Int32) (h : f_X6_wordBetween s0 x1 x2 = some (r, z1)) : Meti l yX6_wordBetween (tsU yX6_wordBetween cX6_wordBetween 8 (some .int)) rm_X6_wordBetween D N [.ref (N.1 1), .int x1, .int x2] (wC N s0) r (wC N z1) :=
  met_i (cc := cX6_wordBetween) (nL := 8) (own := RX6) (by decide) rfl (Nat.le_of_ble_eq_true rfl) (fun p e s m args below meth c Q A C hE => aw_sub [0, 1, 2] rfl (T_X6_wordBetween_0 C hE s0 x1 x2 h))
/-! AwardLine$Reader.readWord()V -/
def rm_X6_readWord : Room := { frames := 5, cells := 0, slots := 0, locals := 112 }
def F_X6_readWord_39 (s0 : St) : Option (St) :=
  oC (f_X6_wordBetween s0 (s0.1 7) (s0.1 5)) fun w3 =>
  oL w3.1 fun v1 => oL w3.2 fun s2 =>
  oL (sI s2 6 v1) fun s4 =>
  some s4
set_option maxHeartbeats 4000000 in
set_option maxRecDepth 100000 in
theorem T_X6_readWord_39 {z1 : St} (C : Cx p rm_X6_readWord s m args c D A cX6_readWord 1 RX6 rm_X6_readWord N) (hE : En p l e rm_X6_readWord s m args below meth c Q D A cX6_readWord .return_ (wC N z1) [])  (s0 : St) (h : F_X6_readWord_39 s0 = some z1) : Aw p l e rm_X6_readWord s m args below meth c Q D A 1 (wC N s0) 39 [(0, .ref (N.1 1))] [] := by
  unfold F_X6_readWord_39 at h
  refine aw_aload_n C 0 dX6_readWord_39 rfl ?_
  refine aw_aload_n C 0 dX6_readWord_40 rfl ?_
  refine aw_aload_n C 0 dX6_readWord_41 rfl ?_
  refine cg_rd_place C lw_11_13 dX6_readWord_42 ?_
  refine aw_aload_n C 0 dX6_readWord_45 rfl ?_
  refine cg_rd_at C lw_11_3 dX6_readWord_46 ?_
  obtain ⟨⟨v1, s2⟩, cw3, h⟩ := oC_e h
  have h := oL_e (x := s2) rfl (oL_e (x := v1) rfl h)
  refine aw_callVi (n := 2) (As := [.int (s0.1 7), .int (s0.1 5)]) (rest := [.ref (N.1 1)]) (q0 := 1) C (c_X6_wordBetween l D N s0 s2 (s0.1 7) (s0.1 5) v1 cw3) lw_11_21 lw_11_22 lw_11_23 lw_2_1 lw_12_0 rfl rfl (by decide +kernel) ⟨Nat.le_of_ble_eq_true rfl, Nat.le_of_ble_eq_true rfl⟩ rfl rfl rfl rfl rfl (Nat.le_of_ble_eq_true rfl) dX6_readWord_49 ?_
  refine cp_rd_token C lw_11_7 dX6_readWord_52 ?_
  refine ca_name (fun s4 es4 => ?_)
  have h := oL_e es4 h
  cases h
  exact aw_ret hE dX6_readWord_55
def F_X6_readWord_0_b (k0 : St → Option (St)) (s0 : St) : Option (St) :=
  if (s0.1 4) ≤ (s0.1 5) then (
    F_X6_readWord_39 s0)
  else (
    oA (s0.1 5) 400 <|
    oC (f_X6_isLetter s0 (s0.2.1 0 (Int32.toNatClampNeg (s0.1 5)))) fun w4 =>
    oL w4.1 fun v2 => oL w4.2 fun s3 =>
    if v2 = 0 then (
      F_X6_readWord_39 s3)
    else (
      oL (sI s3 5 ((s3.1 5) + (1 : Int32))) fun s5 =>
      k0 s5))
set_option maxHeartbeats 4000000 in
set_option maxRecDepth 100000 in
theorem T_X6_readWord_0_b {z1 : St} {k0 : St → Option (St)} (C : Cx p rm_X6_readWord s m args c D A cX6_readWord 1 RX6 rm_X6_readWord N) (hE : En p l e rm_X6_readWord s m args below meth c Q D A cX6_readWord .return_ (wC N z1) []) (hk0 : ∀ (s0 : St), k0 s0 = some z1 → Aw p l e rm_X6_readWord s m args below meth c Q D A 1 (wC N s0) 0 [(0, .ref (N.1 1))] []) (s0 : St) (h : F_X6_readWord_0_b k0 s0 = some z1) : Aw p l e rm_X6_readWord s m args below meth c Q D A 1 (wC N s0) 0 [(0, .ref (N.1 1))] [] := by
  unfold F_X6_readWord_0_b at h
  refine aw_aload_n C 0 dX6_readWord_0 rfl ?_
  refine cg_rd_at C lw_11_3 dX6_readWord_1 ?_
  refine aw_aload_n C 0 dX6_readWord_4 rfl ?_
  refine cg_rd_length C lw_11_2 dX6_readWord_5 ?_
  refine aw_icmp_ge (tgt := 39) C dX6_readWord_8 (by decide) (fun q => ?_) (fun q => ?_)
  · have h := bq_t q h
    refine aw_sub (lv' := [(0, .ref (N.1 1))]) [0] rfl ?_
    exact T_X6_readWord_39 C hE s0 h
  · have h := bq_f q h
    refine aw_aload_n C 0 dX6_readWord_11 rfl ?_
    refine cg_rd_tape C lw_5_10 dX6_readWord_12 ?_
    refine aw_aload_n C 0 dX6_readWord_15 rfl ?_
    refine cg_rd_at C lw_11_3 dX6_readWord_16 ?_
    obtain ⟨q1, h⟩ := oA_e h
    refine ca_iald (k := 0) C (by decide) rfl q1 dX6_readWord_19 ?_
    obtain ⟨⟨v2, s3⟩, cw4, h⟩ := oC_e h
    have h := oL_e (x := s3) rfl (oL_e (x := v2) rfl h)
    refine aw_callSi (n := 1) (As := [.int (s0.2.1 0 (Int32.toNatClampNeg (s0.1 5)))]) (rest := []) C (c_X6_isLetter l D N s0 s3 (s0.2.1 0 (Int32.toNatClampNeg (s0.1 5))) v2 cw4) lw_11_14 lw_11_15 lw_2_1 lw_11_16 rfl rfl (by decide +kernel) ⟨Nat.le_of_ble_eq_true rfl, Nat.le_of_ble_eq_true rfl⟩ rfl rfl (Nat.le_of_ble_eq_true rfl) dX6_readWord_20 ?_
    refine aw_if_eq (tgt := 39) C dX6_readWord_23 (by decide) (fun q => ?_) (fun q => ?_)
    · have h := bq_t q h
      refine aw_sub (lv' := [(0, .ref (N.1 1))]) [0] rfl ?_
      exact T_X6_readWord_39 C hE s3 h
    · have h := bq_f q h
      refine aw_aload_n C 0 dX6_readWord_26 rfl ?_
      refine aw_dup C dX6_readWord_27 rfl ?_
      refine cg_rd_at C lw_11_3 dX6_readWord_28 ?_
      refine aw_iconst (v := 1) C dX6_readWord_31 (by decide) ?_
      refine aw_iadd C dX6_readWord_32 ?_
      refine cp_rd_at C lw_11_3 dX6_readWord_33 ?_
      refine ca_name (fun s5 es5 => ?_)
      have h := oL_e es5 h
      refine aw_goto (tgt := 0) C dX6_readWord_36 (by decide) ?_
      refine aw_sub (lv' := [(0, .ref (N.1 1))]) [0] rfl ?_
      exact hk0 s5 h
def F_X6_readWord_0 : Nat → St → Option (St)
  | 0 => fun _ => none
  | n + 1 => F_X6_readWord_0_b (F_X6_readWord_0 n)
theorem T_X6_readWord_0 {z1 : St} (C : Cx p rm_X6_readWord s m args c D A cX6_readWord 1 RX6 rm_X6_readWord N) (hE : En p l e rm_X6_readWord s m args below meth c Q D A cX6_readWord .return_ (wC N z1) [])  : ∀ (n : Nat) (s0 : St), F_X6_readWord_0 n s0 = some z1 → Aw p l e rm_X6_readWord s m args below meth c Q D A 1 (wC N s0) 0 [(0, .ref (N.1 1))] [] := by
  intro n
  induction n with
  | zero => intro s0 h; cases h
  | succ n ih => intro s0 h; exact T_X6_readWord_0_b C hE ih s0 h
def f_X6_readWord (s0 : St) : Option (St) := F_X6_readWord_0 100000 s0
theorem c_X6_readWord (l : Launch) (D : va_G) (N : Nm) (s0 z1 : St) (h : f_X6_readWord s0 = some z1) : Metv l yX6_readWord (tsU yX6_readWord cX6_readWord 1 none) rm_X6_readWord D N [.ref (N.1 1)] (wC N s0) (wC N z1) :=
  met_v (cc := cX6_readWord) (nL := 1) (own := RX6) (by decide) rfl (Nat.le_of_ble_eq_true rfl) (fun p e s m args below meth c Q A C hE => aw_sub [0] rfl (T_X6_readWord_0 C hE 100000 s0 h))
/-! AwardLine$Reader.advance()V -/
def rm_X6_advance : Room := { frames := 6, cells := 0, slots := 0, locals := 132 }
def F_X6_advance_137 (s0 : St) : Option (St) :=
  some s0
set_option maxHeartbeats 4000000 in
set_option maxRecDepth 100000 in
theorem T_X6_advance_137 {z1 : St} (C : Cx p rm_X6_advance s m args c D A cX6_advance 1 RX6 rm_X6_advance N) (hE : En p l e rm_X6_advance s m args below meth c Q D A cX6_advance .return_ (wC N z1) [])  (s0 : St) (h : F_X6_advance_137 s0 = some z1) : Aw p l e rm_X6_advance s m args below meth c Q D A 1 (wC N s0) 137 [] [] := by
  unfold F_X6_advance_137 at h
  cases h
  exact aw_ret hE dX6_advance_137
def F_X6_advance_52 (s0 : St) : Option (St) :=
  oL (sI s0 7 (s0.1 5)) fun s1 =>
  if (s1.1 5) < (s1.1 4) then (
    oA (s1.1 5) 400 <|
    oC (f_X6_isLetter s1 (s1.2.1 0 (Int32.toNatClampNeg (s1.1 5)))) fun w5 =>
    oL w5.1 fun v3 => oL w5.2 fun s4 =>
    if v3 = 0 then (
      oA (s4.1 5) 400 <|
      oC (f_X6_isDigit s4 (s4.2.1 0 (Int32.toNatClampNeg (s4.1 5)))) fun w9 =>
      oL w9.1 fun v7 => oL w9.2 fun s8 =>
      if v7 = 0 then (
        oA (s8.1 5) 400 <|
        oC (f_X6_readSign s8 (s8.2.1 0 (Int32.toNatClampNeg (s8.1 5)))) fun w13 =>
        oL w13 fun s12 =>
        F_X6_advance_137 s12)
      else (
        oC (f_X6_readNumber s8) fun w16 =>
        oL w16 fun s15 =>
        F_X6_advance_137 s15))
    else (
      oC (f_X6_readWord s4) fun w19 =>
      oL w19 fun s18 =>
      F_X6_advance_137 s18))
  else (
    oL (sI s1 6 (34 : Int32)) fun s20 =>
    F_X6_advance_137 s20)
set_option maxHeartbeats 4000000 in
set_option maxRecDepth 100000 in
theorem T_X6_advance_52 {z1 : St} (C : Cx p rm_X6_advance s m args c D A cX6_advance 1 RX6 rm_X6_advance N) (hE : En p l e rm_X6_advance s m args below meth c Q D A cX6_advance .return_ (wC N z1) [])  (s0 : St) (h : F_X6_advance_52 s0 = some z1) : Aw p l e rm_X6_advance s m args below meth c Q D A 1 (wC N s0) 52 [(0, .ref (N.1 1))] [] := by
  unfold F_X6_advance_52 at h
  refine aw_aload_n C 0 dX6_advance_52 rfl ?_
  refine aw_aload_n C 0 dX6_advance_53 rfl ?_
  refine cg_rd_at C lw_11_3 dX6_advance_54 ?_
  refine cp_rd_place C lw_11_13 dX6_advance_57 ?_
  refine ca_name (fun s1 es1 => ?_)
  have h := oL_e es1 h
  refine aw_aload_n C 0 dX6_advance_60 rfl ?_
  refine cg_rd_at C lw_11_3 dX6_advance_61 ?_
  refine aw_aload_n C 0 dX6_advance_64 rfl ?_
  refine cg_rd_length C lw_11_2 dX6_advance_65 ?_
  refine aw_icmp_lt (tgt := 80) C dX6_advance_68 (by decide) (fun q => ?_) (fun q => ?_)
  · have h := bq_t q h
    refine aw_aload_n C 0 dX6_advance_80 rfl ?_
    refine cg_rd_tape C lw_5_10 dX6_advance_81 ?_
    refine aw_aload_n C 0 dX6_advance_84 rfl ?_
    refine cg_rd_at C lw_11_3 dX6_advance_85 ?_
    obtain ⟨q2, h⟩ := oA_e h
    refine ca_iald (k := 0) C (by decide) rfl q2 dX6_advance_88 ?_
    obtain ⟨⟨v3, s4⟩, cw5, h⟩ := oC_e h
    have h := oL_e (x := s4) rfl (oL_e (x := v3) rfl h)
    refine aw_callSi (n := 1) (As := [.int (s1.2.1 0 (Int32.toNatClampNeg (s1.1 5)))]) (rest := []) C (c_X6_isLetter l D N s1 s4 (s1.2.1 0 (Int32.toNatClampNeg (s1.1 5))) v3 cw5) lw_11_14 lw_11_15 lw_2_1 lw_11_16 rfl rfl (by decide +kernel) ⟨Nat.le_of_ble_eq_true rfl, Nat.le_of_ble_eq_true rfl⟩ rfl rfl (Nat.le_of_ble_eq_true rfl) dX6_advance_89 ?_
    refine aw_if_eq (tgt := 102) C dX6_advance_92 (by decide) (fun q => ?_) (fun q => ?_)
    · have h := bq_t q h
      refine aw_aload_n C 0 dX6_advance_102 rfl ?_
      refine cg_rd_tape C lw_5_10 dX6_advance_103 ?_
      refine aw_aload_n C 0 dX6_advance_106 rfl ?_
      refine cg_rd_at C lw_11_3 dX6_advance_107 ?_
      obtain ⟨q6, h⟩ := oA_e h
      refine ca_iald (k := 0) C (by decide) rfl q6 dX6_advance_110 ?_
      obtain ⟨⟨v7, s8⟩, cw9, h⟩ := oC_e h
      have h := oL_e (x := s8) rfl (oL_e (x := v7) rfl h)
      refine aw_callSi (n := 1) (As := [.int (s4.2.1 0 (Int32.toNatClampNeg (s4.1 5)))]) (rest := []) C (c_X6_isDigit l D N s4 s8 (s4.2.1 0 (Int32.toNatClampNeg (s4.1 5))) v7 cw9) lw_14_2 lw_14_3 lw_2_1 lw_14_4 rfl rfl (by decide +kernel) ⟨Nat.le_of_ble_eq_true rfl, Nat.le_of_ble_eq_true rfl⟩ rfl rfl (Nat.le_of_ble_eq_true rfl) dX6_advance_111 ?_
      refine aw_if_eq (tgt := 124) C dX6_advance_114 (by decide) (fun q => ?_) (fun q => ?_)
      · have h := bq_t q h
        refine aw_aload_n C 0 dX6_advance_124 rfl ?_
        refine aw_aload_n C 0 dX6_advance_125 rfl ?_
        refine cg_rd_tape C lw_5_10 dX6_advance_126 ?_
        refine aw_aload_n C 0 dX6_advance_129 rfl ?_
        refine cg_rd_at C lw_11_3 dX6_advance_130 ?_
        obtain ⟨q10, h⟩ := oA_e h
        refine ca_iald (k := 0) C (by decide) rfl q10 dX6_advance_133 ?_
        obtain ⟨s12, cw13, h⟩ := oC_e h
        have h := oL_e (x := s12) rfl h
        refine aw_callVv (n := 1) (As := [.int (s8.2.1 0 (Int32.toNatClampNeg (s8.1 5)))]) (rest := []) (q0 := 1) C (c_X6_readSign l D N s8 s12 (s8.2.1 0 (Int32.toNatClampNeg (s8.1 5))) cw13) lw_14_10 lw_14_11 lw_14_12 lw_2_1 lw_14_13 rfl rfl (by decide +kernel) ⟨Nat.le_of_ble_eq_true rfl, Nat.le_of_ble_eq_true rfl⟩ rfl rfl rfl rfl rfl (Nat.le_of_ble_eq_true rfl) dX6_advance_134 ?_
        refine aw_sub (lv' := []) [] rfl ?_
        exact T_X6_advance_137 C hE s12 h
      · have h := bq_f q h
        refine aw_aload_n C 0 dX6_advance_117 rfl ?_
        obtain ⟨s15, cw16, h⟩ := oC_e h
        have h := oL_e (x := s15) rfl h
        refine aw_callVv (n := 0) (As := []) (rest := []) (q0 := 1) C (c_X6_readNumber l D N s8 s15 cw16) lw_14_5 lw_14_6 lw_14_7 lw_2_1 lw_14_8 rfl rfl (by decide +kernel) ⟨Nat.le_of_ble_eq_true rfl, Nat.le_of_ble_eq_true rfl⟩ rfl rfl rfl rfl rfl (Nat.le_of_ble_eq_true rfl) dX6_advance_118 ?_
        refine aw_goto (tgt := 137) C dX6_advance_121 (by decide) ?_
        refine aw_sub (lv' := []) [] rfl ?_
        exact T_X6_advance_137 C hE s15 h
    · have h := bq_f q h
      refine aw_aload_n C 0 dX6_advance_95 rfl ?_
      obtain ⟨s18, cw19, h⟩ := oC_e h
      have h := oL_e (x := s18) rfl h
      refine aw_callVv (n := 0) (As := []) (rest := []) (q0 := 1) C (c_X6_readWord l D N s4 s18 cw19) lw_11_17 lw_11_18 lw_11_19 lw_2_1 lw_11_20 rfl rfl (by decide +kernel) ⟨Nat.le_of_ble_eq_true rfl, Nat.le_of_ble_eq_true rfl⟩ rfl rfl rfl rfl rfl (Nat.le_of_ble_eq_true rfl) dX6_advance_96 ?_
      refine aw_goto (tgt := 137) C dX6_advance_99 (by decide) ?_
      refine aw_sub (lv' := []) [] rfl ?_
      exact T_X6_advance_137 C hE s18 h
  · have h := bq_f q h
    refine aw_aload_n C 0 dX6_advance_71 rfl ?_
    refine aw_bipush (v := 34) C dX6_advance_72 (by decide) ?_
    refine cp_rd_token C lw_11_7 dX6_advance_74 ?_
    refine ca_name (fun s20 es20 => ?_)
    have h := oL_e es20 h
    refine aw_goto (tgt := 137) C dX6_advance_77 (by decide) ?_
    refine aw_sub (lv' := []) [] rfl ?_
    exact T_X6_advance_137 C hE s20 h
def F_X6_advance_39 (k0 : St → Option (St)) (s0 : St) : Option (St) :=
  oL (sI s0 5 ((s0.1 5) + (1 : Int32))) fun s1 =>
  k0 s1
set_option maxHeartbeats 4000000 in
set_option maxRecDepth 100000 in
theorem T_X6_advance_39 {z1 : St} {k0 : St → Option (St)} (C : Cx p rm_X6_advance s m args c D A cX6_advance 1 RX6 rm_X6_advance N) (hE : En p l e rm_X6_advance s m args below meth c Q D A cX6_advance .return_ (wC N z1) []) (hk0 : ∀ (s0 : St), k0 s0 = some z1 → Aw p l e rm_X6_advance s m args below meth c Q D A 1 (wC N s0) 0 [(0, .ref (N.1 1))] []) (s0 : St) (h : F_X6_advance_39 k0 s0 = some z1) : Aw p l e rm_X6_advance s m args below meth c Q D A 1 (wC N s0) 39 [(0, .ref (N.1 1))] [] := by
  unfold F_X6_advance_39 at h
  refine aw_aload_n C 0 dX6_advance_39 rfl ?_
  refine aw_dup C dX6_advance_40 rfl ?_
  refine cg_rd_at C lw_11_3 dX6_advance_41 ?_
  refine aw_iconst (v := 1) C dX6_advance_44 (by decide) ?_
  refine aw_iadd C dX6_advance_45 ?_
  refine cp_rd_at C lw_11_3 dX6_advance_46 ?_
  refine ca_name (fun s1 es1 => ?_)
  have h := oL_e es1 h
  refine aw_goto (tgt := 0) C dX6_advance_49 (by decide) ?_
  refine aw_sub (lv' := [(0, .ref (N.1 1))]) [0] rfl ?_
  exact hk0 s1 h
def F_X6_advance_0_b (k0 : St → Option (St)) (s0 : St) : Option (St) :=
  if (s0.1 4) ≤ (s0.1 5) then (
    F_X6_advance_52 s0)
  else (
    oA (s0.1 5) 400 <|
    if (s0.2.1 0 (Int32.toNatClampNeg (s0.1 5))) = (32 : Int32) then (
      F_X6_advance_39 k0 s0)
    else (
      oA (s0.1 5) 400 <|
      if (s0.2.1 0 (Int32.toNatClampNeg (s0.1 5))) = (10 : Int32) then (
        F_X6_advance_39 k0 s0)
      else (
        F_X6_advance_52 s0)))
set_option maxHeartbeats 4000000 in
set_option maxRecDepth 100000 in
theorem T_X6_advance_0_b {z1 : St} {k0 : St → Option (St)} (C : Cx p rm_X6_advance s m args c D A cX6_advance 1 RX6 rm_X6_advance N) (hE : En p l e rm_X6_advance s m args below meth c Q D A cX6_advance .return_ (wC N z1) []) (hk0 : ∀ (s0 : St), k0 s0 = some z1 → Aw p l e rm_X6_advance s m args below meth c Q D A 1 (wC N s0) 0 [(0, .ref (N.1 1))] []) (s0 : St) (h : F_X6_advance_0_b k0 s0 = some z1) : Aw p l e rm_X6_advance s m args below meth c Q D A 1 (wC N s0) 0 [(0, .ref (N.1 1))] [] := by
  unfold F_X6_advance_0_b at h
  refine aw_aload_n C 0 dX6_advance_0 rfl ?_
  refine cg_rd_at C lw_11_3 dX6_advance_1 ?_
  refine aw_aload_n C 0 dX6_advance_4 rfl ?_
  refine cg_rd_length C lw_11_2 dX6_advance_5 ?_
  refine aw_icmp_ge (tgt := 52) C dX6_advance_8 (by decide) (fun q => ?_) (fun q => ?_)
  · have h := bq_t q h
    refine aw_sub (lv' := [(0, .ref (N.1 1))]) [0] rfl ?_
    exact T_X6_advance_52 C hE s0 h
  · have h := bq_f q h
    refine aw_aload_n C 0 dX6_advance_11 rfl ?_
    refine cg_rd_tape C lw_5_10 dX6_advance_12 ?_
    refine aw_aload_n C 0 dX6_advance_15 rfl ?_
    refine cg_rd_at C lw_11_3 dX6_advance_16 ?_
    obtain ⟨q1, h⟩ := oA_e h
    refine ca_iald (k := 0) C (by decide) rfl q1 dX6_advance_19 ?_
    refine aw_bipush (v := 32) C dX6_advance_20 (by decide) ?_
    refine aw_icmp_eq (tgt := 39) C dX6_advance_22 (by decide) (fun q => ?_) (fun q => ?_)
    · have h := bq_t q h
      refine aw_sub (lv' := [(0, .ref (N.1 1))]) [0] rfl ?_
      exact T_X6_advance_39 C hE hk0 s0 h
    · have h := bq_f q h
      refine aw_aload_n C 0 dX6_advance_25 rfl ?_
      refine cg_rd_tape C lw_5_10 dX6_advance_26 ?_
      refine aw_aload_n C 0 dX6_advance_29 rfl ?_
      refine cg_rd_at C lw_11_3 dX6_advance_30 ?_
      obtain ⟨q2, h⟩ := oA_e h
      refine ca_iald (k := 0) C (by decide) rfl q2 dX6_advance_33 ?_
      refine aw_bipush (v := 10) C dX6_advance_34 (by decide) ?_
      refine aw_icmp_ne (tgt := 52) C dX6_advance_36 (by decide) (fun q => ?_) (fun q => ?_)
      · have h := bq_f q h
        refine aw_sub (lv' := [(0, .ref (N.1 1))]) [0] rfl ?_
        exact T_X6_advance_52 C hE s0 h
      · have h := bq_t q h
        refine aw_sub (lv' := [(0, .ref (N.1 1))]) [0] rfl ?_
        exact T_X6_advance_39 C hE hk0 s0 h
def F_X6_advance_0 : Nat → St → Option (St)
  | 0 => fun _ => none
  | n + 1 => F_X6_advance_0_b (F_X6_advance_0 n)
theorem T_X6_advance_0 {z1 : St} (C : Cx p rm_X6_advance s m args c D A cX6_advance 1 RX6 rm_X6_advance N) (hE : En p l e rm_X6_advance s m args below meth c Q D A cX6_advance .return_ (wC N z1) [])  : ∀ (n : Nat) (s0 : St), F_X6_advance_0 n s0 = some z1 → Aw p l e rm_X6_advance s m args below meth c Q D A 1 (wC N s0) 0 [(0, .ref (N.1 1))] [] := by
  intro n
  induction n with
  | zero => intro s0 h; cases h
  | succ n ih => intro s0 h; exact T_X6_advance_0_b C hE ih s0 h
def f_X6_advance (s0 : St) : Option (St) := F_X6_advance_0 100000 s0
theorem c_X6_advance (l : Launch) (D : va_G) (N : Nm) (s0 z1 : St) (h : f_X6_advance s0 = some z1) : Metv l yX6_advance (tsU yX6_advance cX6_advance 1 none) rm_X6_advance D N [.ref (N.1 1)] (wC N s0) (wC N z1) :=
  met_v (cc := cX6_advance) (nL := 1) (own := RX6) (by decide) rfl (Nat.le_of_ble_eq_true rfl) (fun p e s m args below meth c Q A C hE => aw_sub [0] rfl (T_X6_advance_0 C hE 100000 s0 h))
/-! AwardLine$Reader.pass(I)Z -/
def rm_X6_pass : Room := { frames := 7, cells := 0, slots := 0, locals := 152 }
def F_X6_pass_0 (s0 : St) (x1 : Int32) : Option (Int32 × St) :=
  if (s0.1 6) = x1 then (
    oC (f_X6_advance s0) fun w3 =>
    oL w3 fun s2 =>
    some ((1 : Int32), s2))
  else (
    oC (f_X6_refuse s0 (1 : Int32)) fun w6 =>
    oL w6.1 fun v4 => oL w6.2 fun s5 =>
    some (v4, s5))
set_option maxHeartbeats 4000000 in
set_option maxRecDepth 100000 in
theorem T_X6_pass_0 {r : Int32} {z1 : St} (C : Cx p rm_X6_pass s m args c D A cX6_pass 2 RX6 rm_X6_pass N) (hE : En p l e rm_X6_pass s m args below meth c Q D A cX6_pass .ireturn (wC N z1) [.int r])  (s0 : St) (x1 : Int32) (h : F_X6_pass_0 s0 x1 = some (r, z1)) : Aw p l e rm_X6_pass s m args below meth c Q D A 2 (wC N s0) 0 [(0, .ref (N.1 1)), (1, .int x1)] [] := by
  unfold F_X6_pass_0 at h
  refine aw_aload_n C 0 dX6_pass_0 rfl ?_
  refine cg_rd_token C lw_11_7 dX6_pass_1 ?_
  refine aw_iload_n C 1 dX6_pass_4 rfl ?_
  refine aw_icmp_eq (tgt := 14) C dX6_pass_5 (by decide) (fun q => ?_) (fun q => ?_)
  · have h := bq_t q h
    refine aw_aload_n C 0 dX6_pass_14 rfl ?_
    obtain ⟨s2, cw3, h⟩ := oC_e h
    have h := oL_e (x := s2) rfl h
    refine aw_callVv (n := 0) (As := []) (rest := []) (q0 := 1) C (c_X6_advance l D N s0 s2 cw3) lw_11_9 lw_11_10 lw_11_11 lw_2_1 lw_11_12 rfl rfl (by decide +kernel) ⟨Nat.le_of_ble_eq_true rfl, Nat.le_of_ble_eq_true rfl⟩ rfl rfl rfl rfl rfl (Nat.le_of_ble_eq_true rfl) dX6_pass_15 ?_
    refine aw_iconst (v := 1) C dX6_pass_18 (by decide) ?_
    cases h
    exact aw_ret hE dX6_pass_19
  · have h := bq_f q h
    refine aw_aload_n C 0 dX6_pass_8 rfl ?_
    refine aw_iconst (v := 1) C dX6_pass_9 (by decide) ?_
    obtain ⟨⟨v4, s5⟩, cw6, h⟩ := oC_e h
    have h := oL_e (x := s5) rfl (oL_e (x := v4) rfl h)
    refine aw_callVi (n := 1) (As := [.int (1 : Int32)]) (rest := []) (q0 := 1) C (c_X6_refuse l D N s0 s5 (1 : Int32) v4 cw6) lw_15_2 lw_15_3 lw_15_4 lw_2_1 lw_15_5 rfl rfl (by decide +kernel) ⟨Nat.le_of_ble_eq_true rfl, Nat.le_of_ble_eq_true rfl⟩ rfl rfl rfl rfl rfl (Nat.le_of_ble_eq_true rfl) dX6_pass_10 ?_
    cases h
    exact aw_ret hE dX6_pass_13
def f_X6_pass (s0 : St) (x1 : Int32) : Option (Int32 × St) := oC (F_X6_pass_0 s0 x1) fun w => oZ w.1 (some w)
theorem c_X6_pass (l : Launch) (D : va_G) (N : Nm) (s0 z1 : St) (x1 : Int32) (r : Int32) (h : f_X6_pass s0 x1 = some (r, z1)) : Meti l yX6_pass (tsU yX6_pass cX6_pass 2 (some .boolean)) rm_X6_pass D N [.ref (N.1 1), .int x1] (wC N s0) r (wC N z1) := by
  obtain ⟨w, h1, h2⟩ := oC_e h
  obtain ⟨hz, h2⟩ := oZ_e h2
  cases h2
  exact met_z (cc := cX6_pass) (nL := 2) (own := RX6) (by decide) rfl (Nat.le_of_ble_eq_true rfl) (zN hz) (fun p e s m args below meth c Q A C hE => aw_sub [0, 1] rfl (T_X6_pass_0 C hE s0 x1 h1))
/-! AwardLine$Reader.once()Z -/
def rm_X6_once : Room := { frames := 7, cells := 0, slots := 0, locals := 152 }
def F_X6_once_0 (s0 : St) : Option (Int32 × St) :=
  oL ((1 : Int32) <<< ((s0.1 6) &&& 31)) fun y1 =>
  if (s0.1 11) &&& y1 = 0 then (
    oL (sI s0 11 ((s0.1 11) ||| y1)) fun s2 =>
    oC (f_X6_advance s2) fun w5 =>
    oL w5 fun s4 =>
    some ((1 : Int32), s4))
  else (
    oC (f_X6_refuse s0 (3 : Int32)) fun w8 =>
    oL w8.1 fun v6 => oL w8.2 fun s7 =>
    some (v6, s7))
set_option maxHeartbeats 4000000 in
set_option maxRecDepth 100000 in
theorem T_X6_once_0 {r : Int32} {z1 : St} (C : Cx p rm_X6_once s m args c D A cX6_once 2 RX6 rm_X6_once N) (hE : En p l e rm_X6_once s m args below meth c Q D A cX6_once .ireturn (wC N z1) [.int r])  (s0 : St) (h : F_X6_once_0 s0 = some (r, z1)) : Aw p l e rm_X6_once s m args below meth c Q D A 2 (wC N s0) 0 [(0, .ref (N.1 1))] [] := by
  unfold F_X6_once_0 at h
  refine aw_iconst (v := 1) C dX6_once_0 (by decide) ?_
  refine aw_aload_n C 0 dX6_once_1 rfl ?_
  refine cg_rd_token C lw_11_7 dX6_once_2 ?_
  refine aw_ishl C dX6_once_5 ?_
  refine aw_topi (fun y1 ey1 => ?_)
  have h := oL_e ey1 h
  refine aw_istore_n (lv' := [(0, .ref (N.1 1)), (1, .int y1)]) C [1, 0] dX6_once_6 rfl (by decide) rfl ?_
  refine aw_aload_n C 0 dX6_once_7 rfl ?_
  refine cg_rd_linesTold C lw_11_6 dX6_once_8 ?_
  refine aw_iload_n C 1 dX6_once_11 rfl ?_
  refine aw_iand C dX6_once_12 ?_
  refine aw_if_eq (tgt := 22) C dX6_once_13 (by decide) (fun q => ?_) (fun q => ?_)
  · have h := bq_t q h
    refine aw_aload_n C 0 dX6_once_22 rfl ?_
    refine aw_dup C dX6_once_23 rfl ?_
    refine cg_rd_linesTold C lw_11_6 dX6_once_24 ?_
    refine aw_iload_n C 1 dX6_once_27 rfl ?_
    refine aw_ior C dX6_once_28 ?_
    refine cp_rd_linesTold C lw_11_6 dX6_once_29 ?_
    refine ca_name (fun s2 es2 => ?_)
    have h := oL_e es2 h
    refine aw_aload_n C 0 dX6_once_32 rfl ?_
    obtain ⟨s4, cw5, h⟩ := oC_e h
    have h := oL_e (x := s4) rfl h
    refine aw_callVv (n := 0) (As := []) (rest := []) (q0 := 1) C (c_X6_advance l D N s2 s4 cw5) lw_11_9 lw_11_10 lw_11_11 lw_2_1 lw_11_12 rfl rfl (by decide +kernel) ⟨Nat.le_of_ble_eq_true rfl, Nat.le_of_ble_eq_true rfl⟩ rfl rfl rfl rfl rfl (Nat.le_of_ble_eq_true rfl) dX6_once_33 ?_
    refine aw_iconst (v := 1) C dX6_once_36 (by decide) ?_
    cases h
    exact aw_ret hE dX6_once_37
  · have h := bq_f q h
    refine aw_aload_n C 0 dX6_once_16 rfl ?_
    refine aw_iconst (v := 3) C dX6_once_17 (by decide) ?_
    obtain ⟨⟨v6, s7⟩, cw8, h⟩ := oC_e h
    have h := oL_e (x := s7) rfl (oL_e (x := v6) rfl h)
    refine aw_callVi (n := 1) (As := [.int (3 : Int32)]) (rest := []) (q0 := 1) C (c_X6_refuse l D N s0 s7 (3 : Int32) v6 cw8) lw_15_2 lw_15_3 lw_15_4 lw_2_1 lw_15_5 rfl rfl (by decide +kernel) ⟨Nat.le_of_ble_eq_true rfl, Nat.le_of_ble_eq_true rfl⟩ rfl rfl rfl rfl rfl (Nat.le_of_ble_eq_true rfl) dX6_once_18 ?_
    cases h
    exact aw_ret hE dX6_once_21
def f_X6_once (s0 : St) : Option (Int32 × St) := oC (F_X6_once_0 s0) fun w => oZ w.1 (some w)
theorem c_X6_once (l : Launch) (D : va_G) (N : Nm) (s0 z1 : St) (r : Int32) (h : f_X6_once s0 = some (r, z1)) : Meti l yX6_once (tsU yX6_once cX6_once 2 (some .boolean)) rm_X6_once D N [.ref (N.1 1)] (wC N s0) r (wC N z1) := by
  obtain ⟨w, h1, h2⟩ := oC_e h
  obtain ⟨hz, h2⟩ := oZ_e h2
  cases h2
  exact met_z (cc := cX6_once) (nL := 2) (own := RX6) (by decide) rfl (Nat.le_of_ble_eq_true rfl) (zN hz) (fun p e s m args below meth c Q A C hE => aw_sub [0] rfl (T_X6_once_0 C hE s0 h1))
/-! AwardLine$Reader.unitLine()Z -/
def rm_X6_unitLine : Room := { frames := 7, cells := 0, slots := 0, locals := 152 }
def F_X6_unitLine_17 (s0 : St) : Option (Int32 × St) :=
  oC (f_X6_refuse s0 (1 : Int32)) fun w3 =>
  oL w3.1 fun v1 => oL w3.2 fun s2 =>
  some (v1, s2)
set_option maxHeartbeats 4000000 in
set_option maxRecDepth 100000 in
theorem T_X6_unitLine_17 {r : Int32} {z1 : St} (C : Cx p rm_X6_unitLine s m args c D A cX6_unitLine 1 RX6 rm_X6_unitLine N) (hE : En p l e rm_X6_unitLine s m args below meth c Q D A cX6_unitLine .ireturn (wC N z1) [.int r])  (s0 : St) (h : F_X6_unitLine_17 s0 = some (r, z1)) : Aw p l e rm_X6_unitLine s m args below meth c Q D A 1 (wC N s0) 17 [(0, .ref (N.1 1))] [] := by
  unfold F_X6_unitLine_17 at h
  refine aw_aload_n C 0 dX6_unitLine_17 rfl ?_
  refine aw_iconst (v := 1) C dX6_unitLine_18 (by decide) ?_
  obtain ⟨⟨v1, s2⟩, cw3, h⟩ := oC_e h
  have h := oL_e (x := s2) rfl (oL_e (x := v1) rfl h)
  refine aw_callVi (n := 1) (As := [.int (1 : Int32)]) (rest := []) (q0 := 1) C (c_X6_refuse l D N s0 s2 (1 : Int32) v1 cw3) lw_15_2 lw_15_3 lw_15_4 lw_2_1 lw_15_5 rfl rfl (by decide +kernel) ⟨Nat.le_of_ble_eq_true rfl, Nat.le_of_ble_eq_true rfl⟩ rfl rfl rfl rfl rfl (Nat.le_of_ble_eq_true rfl) dX6_unitLine_19 ?_
  cases h
  exact aw_ret hE dX6_unitLine_22
def F_X6_unitLine_0 (s0 : St) : Option (Int32 × St) :=
  if (s0.1 6) < (5 : Int32) then (
    F_X6_unitLine_17 s0)
  else (
    if (s0.1 6) ≤ (7 : Int32) then (
      oT (s0.1 12) <|
      oL (sI s0 17 ((s0.1 6) - (5 : Int32))) fun s2 =>
      oC (f_X6_advance s2) fun w5 =>
      oL w5 fun s4 =>
      some ((1 : Int32), s4))
    else (
      F_X6_unitLine_17 s0))
set_option maxHeartbeats 4000000 in
set_option maxRecDepth 100000 in
theorem T_X6_unitLine_0 {r : Int32} {z1 : St} (C : Cx p rm_X6_unitLine s m args c D A cX6_unitLine 1 RX6 rm_X6_unitLine N) (hE : En p l e rm_X6_unitLine s m args below meth c Q D A cX6_unitLine .ireturn (wC N z1) [.int r])  (s0 : St) (h : F_X6_unitLine_0 s0 = some (r, z1)) : Aw p l e rm_X6_unitLine s m args below meth c Q D A 1 (wC N s0) 0 [(0, .ref (N.1 1))] [] := by
  unfold F_X6_unitLine_0 at h
  refine aw_aload_n C 0 dX6_unitLine_0 rfl ?_
  refine cg_rd_token C lw_11_7 dX6_unitLine_1 ?_
  refine aw_iconst (v := 5) C dX6_unitLine_4 (by decide) ?_
  refine aw_icmp_lt (tgt := 17) C dX6_unitLine_5 (by decide) (fun q => ?_) (fun q => ?_)
  · have h := bq_t q h
    refine aw_sub (lv' := [(0, .ref (N.1 1))]) [0] rfl ?_
    exact T_X6_unitLine_17 C hE s0 h
  · have h := bq_f q h
    refine aw_aload_n C 0 dX6_unitLine_8 rfl ?_
    refine cg_rd_token C lw_11_7 dX6_unitLine_9 ?_
    refine aw_bipush (v := 7) C dX6_unitLine_12 (by decide) ?_
    refine aw_icmp_le (tgt := 23) C dX6_unitLine_14 (by decide) (fun q => ?_) (fun q => ?_)
    · have h := bq_t q h
      refine aw_aload_n C 0 dX6_unitLine_23 rfl ?_
      obtain ⟨q1, h⟩ := oT_e h
      refine cg_rd_into C lw_10_21 dX6_unitLine_24 ?_
      refine aw_into q1 ?_
      refine aw_aload_n C 0 dX6_unitLine_27 rfl ?_
      refine cg_rd_token C lw_11_7 dX6_unitLine_28 ?_
      refine aw_iconst (v := 5) C dX6_unitLine_31 (by decide) ?_
      refine aw_isub C dX6_unitLine_32 ?_
      refine cp_ts_unit C lw_15_10 dX6_unitLine_33 ?_
      refine ca_name (fun s2 es2 => ?_)
      have h := oL_e es2 h
      refine aw_aload_n C 0 dX6_unitLine_36 rfl ?_
      obtain ⟨s4, cw5, h⟩ := oC_e h
      have h := oL_e (x := s4) rfl h
      refine aw_callVv (n := 0) (As := []) (rest := []) (q0 := 1) C (c_X6_advance l D N s2 s4 cw5) lw_11_9 lw_11_10 lw_11_11 lw_2_1 lw_11_12 rfl rfl (by decide +kernel) ⟨Nat.le_of_ble_eq_true rfl, Nat.le_of_ble_eq_true rfl⟩ rfl rfl rfl rfl rfl (Nat.le_of_ble_eq_true rfl) dX6_unitLine_37 ?_
      refine aw_iconst (v := 1) C dX6_unitLine_40 (by decide) ?_
      cases h
      exact aw_ret hE dX6_unitLine_41
    · have h := bq_f q h
      refine aw_sub (lv' := [(0, .ref (N.1 1))]) [0] rfl ?_
      exact T_X6_unitLine_17 C hE s0 h
def f_X6_unitLine (s0 : St) : Option (Int32 × St) := oC (F_X6_unitLine_0 s0) fun w => oZ w.1 (some w)
theorem c_X6_unitLine (l : Launch) (D : va_G) (N : Nm) (s0 z1 : St) (r : Int32) (h : f_X6_unitLine s0 = some (r, z1)) : Meti l yX6_unitLine (tsU yX6_unitLine cX6_unitLine 1 (some .boolean)) rm_X6_unitLine D N [.ref (N.1 1)] (wC N s0) r (wC N z1) := by
  obtain ⟨w, h1, h2⟩ := oC_e h
  obtain ⟨hz, h2⟩ := oZ_e h2
  cases h2
  exact met_z (cc := cX6_unitLine) (nL := 1) (own := RX6) (by decide) rfl (Nat.le_of_ble_eq_true rfl) (zN hz) (fun p e s m args below meth c Q A C hE => aw_sub [0] rfl (T_X6_unitLine_0 C hE s0 h1))
/-! AwardLine$Reader.amount(I)Z -/
def rm_X6_amount : Room := { frames := 7, cells := 0, slots := 0, locals := 152 }
def F_X6_amount_0 (s0 : St) (x1 : Int32) : Option (Int32 × St) :=
  if (s0.1 6) = (20 : Int32) then (
    if (s0.1 8) ≤ x1 then (
      oL (sI s0 9 (s0.1 8)) fun s1 =>
      oC (f_X6_advance s1) fun w4 =>
      oL w4 fun s3 =>
      some ((1 : Int32), s3))
    else (
      oC (f_X6_refuse s0 (2 : Int32)) fun w7 =>
      oL w7.1 fun v5 => oL w7.2 fun s6 =>
      some (v5, s6)))
  else (
    oC (f_X6_refuse s0 (1 : Int32)) fun w10 =>
    oL w10.1 fun v8 => oL w10.2 fun s9 =>
    some (v8, s9))
set_option maxHeartbeats 4000000 in
set_option maxRecDepth 100000 in
theorem T_X6_amount_0 {r : Int32} {z1 : St} (C : Cx p rm_X6_amount s m args c D A cX6_amount 2 RX6 rm_X6_amount N) (hE : En p l e rm_X6_amount s m args below meth c Q D A cX6_amount .ireturn (wC N z1) [.int r])  (s0 : St) (x1 : Int32) (h : F_X6_amount_0 s0 x1 = some (r, z1)) : Aw p l e rm_X6_amount s m args below meth c Q D A 2 (wC N s0) 0 [(0, .ref (N.1 1)), (1, .int x1)] [] := by
  unfold F_X6_amount_0 at h
  refine aw_aload_n C 0 dX6_amount_0 rfl ?_
  refine cg_rd_token C lw_11_7 dX6_amount_1 ?_
  refine aw_bipush (v := 20) C dX6_amount_4 (by decide) ?_
  refine aw_icmp_eq (tgt := 15) C dX6_amount_6 (by decide) (fun q => ?_) (fun q => ?_)
  · have h := bq_t q h
    refine aw_aload_n C 0 dX6_amount_15 rfl ?_
    refine cg_rd_number C lw_14_9 dX6_amount_16 ?_
    refine aw_iload_n C 1 dX6_amount_19 rfl ?_
    refine aw_icmp_le (tgt := 29) C dX6_amount_20 (by decide) (fun q => ?_) (fun q => ?_)
    · have h := bq_t q h
      refine aw_aload_n C 0 dX6_amount_29 rfl ?_
      refine aw_aload_n C 0 dX6_amount_30 rfl ?_
      refine cg_rd_number C lw_14_9 dX6_amount_31 ?_
      refine cp_rd_amountRead C lw_16_21 dX6_amount_34 ?_
      refine ca_name (fun s1 es1 => ?_)
      have h := oL_e es1 h
      refine aw_aload_n C 0 dX6_amount_37 rfl ?_
      obtain ⟨s3, cw4, h⟩ := oC_e h
      have h := oL_e (x := s3) rfl h
      refine aw_callVv (n := 0) (As := []) (rest := []) (q0 := 1) C (c_X6_advance l D N s1 s3 cw4) lw_11_9 lw_11_10 lw_11_11 lw_2_1 lw_11_12 rfl rfl (by decide +kernel) ⟨Nat.le_of_ble_eq_true rfl, Nat.le_of_ble_eq_true rfl⟩ rfl rfl rfl rfl rfl (Nat.le_of_ble_eq_true rfl) dX6_amount_38 ?_
      refine aw_iconst (v := 1) C dX6_amount_41 (by decide) ?_
      cases h
      exact aw_ret hE dX6_amount_42
    · have h := bq_f q h
      refine aw_aload_n C 0 dX6_amount_23 rfl ?_
      refine aw_iconst (v := 2) C dX6_amount_24 (by decide) ?_
      obtain ⟨⟨v5, s6⟩, cw7, h⟩ := oC_e h
      have h := oL_e (x := s6) rfl (oL_e (x := v5) rfl h)
      refine aw_callVi (n := 1) (As := [.int (2 : Int32)]) (rest := []) (q0 := 1) C (c_X6_refuse l D N s0 s6 (2 : Int32) v5 cw7) lw_15_2 lw_15_3 lw_15_4 lw_2_1 lw_15_5 rfl rfl (by decide +kernel) ⟨Nat.le_of_ble_eq_true rfl, Nat.le_of_ble_eq_true rfl⟩ rfl rfl rfl rfl rfl (Nat.le_of_ble_eq_true rfl) dX6_amount_25 ?_
      cases h
      exact aw_ret hE dX6_amount_28
  · have h := bq_f q h
    refine aw_aload_n C 0 dX6_amount_9 rfl ?_
    refine aw_iconst (v := 1) C dX6_amount_10 (by decide) ?_
    obtain ⟨⟨v8, s9⟩, cw10, h⟩ := oC_e h
    have h := oL_e (x := s9) rfl (oL_e (x := v8) rfl h)
    refine aw_callVi (n := 1) (As := [.int (1 : Int32)]) (rest := []) (q0 := 1) C (c_X6_refuse l D N s0 s9 (1 : Int32) v8 cw10) lw_15_2 lw_15_3 lw_15_4 lw_2_1 lw_15_5 rfl rfl (by decide +kernel) ⟨Nat.le_of_ble_eq_true rfl, Nat.le_of_ble_eq_true rfl⟩ rfl rfl rfl rfl rfl (Nat.le_of_ble_eq_true rfl) dX6_amount_11 ?_
    cases h
    exact aw_ret hE dX6_amount_14
def f_X6_amount (s0 : St) (x1 : Int32) : Option (Int32 × St) := oC (F_X6_amount_0 s0 x1) fun w => oZ w.1 (some w)
theorem c_X6_amount (l : Launch) (D : va_G) (N : Nm) (s0 z1 : St) (x1 : Int32) (r : Int32) (h : f_X6_amount s0 x1 = some (r, z1)) : Meti l yX6_amount (tsU yX6_amount cX6_amount 2 (some .boolean)) rm_X6_amount D N [.ref (N.1 1), .int x1] (wC N s0) r (wC N z1) := by
  obtain ⟨w, h1, h2⟩ := oC_e h
  obtain ⟨hz, h2⟩ := oZ_e h2
  cases h2
  exact met_z (cc := cX6_amount) (nL := 2) (own := RX6) (by decide) rfl (Nat.le_of_ble_eq_true rfl) (zN hz) (fun p e s m args below meth c Q A C hE => aw_sub [0, 1] rfl (T_X6_amount_0 C hE s0 x1 h1))
/-! AwardLine$Reader.fearLine()Z -/
def rm_X6_fearLine : Room := { frames := 8, cells := 0, slots := 0, locals := 173 }
def F_X6_fearLine_0 (s0 : St) : Option (Int32 × St) :=
  oC (f_X6_amount s0 (100 : Int32)) fun w3 =>
  oL w3.1 fun v1 => oL w3.2 fun s2 =>
  oT (s2.1 12) <|
  oL (sI s2 18 (s2.1 9)) fun s5 =>
  some (v1, s5)
set_option maxHeartbeats 4000000 in
set_option maxRecDepth 100000 in
theorem T_X6_fearLine_0 {r : Int32} {z1 : St} (C : Cx p rm_X6_fearLine s m args c D A cX6_fearLine 2 RX6 rm_X6_fearLine N) (hE : En p l e rm_X6_fearLine s m args below meth c Q D A cX6_fearLine .ireturn (wC N z1) [.int r])  (s0 : St) (h : F_X6_fearLine_0 s0 = some (r, z1)) : Aw p l e rm_X6_fearLine s m args below meth c Q D A 2 (wC N s0) 0 [(0, .ref (N.1 1))] [] := by
  unfold F_X6_fearLine_0 at h
  refine aw_aload_n C 0 dX6_fearLine_0 rfl ?_
  refine aw_bipush (v := 100) C dX6_fearLine_1 (by decide) ?_
  obtain ⟨⟨v1, s2⟩, cw3, h⟩ := oC_e h
  have h := oL_e (x := s2) rfl (oL_e (x := v1) rfl h)
  refine aw_callVi (n := 1) (As := [.int (100 : Int32)]) (rest := []) (q0 := 1) C (c_X6_amount l D N s0 s2 (100 : Int32) v1 cw3) lw_16_23 lw_17_0 lw_17_1 lw_2_1 lw_17_2 rfl rfl (by decide +kernel) ⟨Nat.le_of_ble_eq_true rfl, Nat.le_of_ble_eq_true rfl⟩ rfl rfl rfl rfl rfl (Nat.le_of_ble_eq_true rfl) dX6_fearLine_3 ?_
  refine aw_istore_n (lv' := [(0, .ref (N.1 1)), (1, .int v1)]) C [1, 0] dX6_fearLine_6 rfl (by decide) rfl ?_
  refine aw_aload_n C 0 dX6_fearLine_7 rfl ?_
  obtain ⟨q4, h⟩ := oT_e h
  refine cg_rd_into C lw_10_21 dX6_fearLine_8 ?_
  refine aw_into q4 ?_
  refine aw_aload_n C 0 dX6_fearLine_11 rfl ?_
  refine cg_rd_amountRead C lw_16_21 dX6_fearLine_12 ?_
  refine cp_ts_fear C lw_16_22 dX6_fearLine_15 ?_
  refine ca_name (fun s5 es5 => ?_)
  have h := oL_e es5 h
  refine aw_iload_n C 1 dX6_fearLine_18 rfl ?_
  cases h
  exact aw_ret hE dX6_fearLine_19
def f_X6_fearLine (s0 : St) : Option (Int32 × St) := oC (F_X6_fearLine_0 s0) fun w => oZ w.1 (some w)
theorem c_X6_fearLine (l : Launch) (D : va_G) (N : Nm) (s0 z1 : St) (r : Int32) (h : f_X6_fearLine s0 = some (r, z1)) : Meti l yX6_fearLine (tsU yX6_fearLine cX6_fearLine 2 (some .boolean)) rm_X6_fearLine D N [.ref (N.1 1)] (wC N s0) r (wC N z1) := by
  obtain ⟨w, h1, h2⟩ := oC_e h
  obtain ⟨hz, h2⟩ := oZ_e h2
  cases h2
  exact met_z (cc := cX6_fearLine) (nL := 2) (own := RX6) (by decide) rfl (Nat.le_of_ble_eq_true rfl) (zN hz) (fun p e s m args below meth c Q A C hE => aw_sub [0] rfl (T_X6_fearLine_0 C hE s0 h1))
/-! AwardLine$Reader.loseLine()Z -/
def rm_X6_loseLine : Room := { frames := 8, cells := 0, slots := 0, locals := 173 }
def F_X6_loseLine_0 (s0 : St) : Option (Int32 × St) :=
  oC (f_X6_amount s0 (100 : Int32)) fun w3 =>
  oL w3.1 fun v1 => oL w3.2 fun s2 =>
  oT (s2.1 12) <|
  oL (sI s2 19 (s2.1 9)) fun s5 =>
  some (v1, s5)
set_option maxHeartbeats 4000000 in
set_option maxRecDepth 100000 in
theorem T_X6_loseLine_0 {r : Int32} {z1 : St} (C : Cx p rm_X6_loseLine s m args c D A cX6_loseLine 2 RX6 rm_X6_loseLine N) (hE : En p l e rm_X6_loseLine s m args below meth c Q D A cX6_loseLine .ireturn (wC N z1) [.int r])  (s0 : St) (h : F_X6_loseLine_0 s0 = some (r, z1)) : Aw p l e rm_X6_loseLine s m args below meth c Q D A 2 (wC N s0) 0 [(0, .ref (N.1 1))] [] := by
  unfold F_X6_loseLine_0 at h
  refine aw_aload_n C 0 dX6_loseLine_0 rfl ?_
  refine aw_bipush (v := 100) C dX6_loseLine_1 (by decide) ?_
  obtain ⟨⟨v1, s2⟩, cw3, h⟩ := oC_e h
  have h := oL_e (x := s2) rfl (oL_e (x := v1) rfl h)
  refine aw_callVi (n := 1) (As := [.int (100 : Int32)]) (rest := []) (q0 := 1) C (c_X6_amount l D N s0 s2 (100 : Int32) v1 cw3) lw_16_23 lw_17_0 lw_17_1 lw_2_1 lw_17_2 rfl rfl (by decide +kernel) ⟨Nat.le_of_ble_eq_true rfl, Nat.le_of_ble_eq_true rfl⟩ rfl rfl rfl rfl rfl (Nat.le_of_ble_eq_true rfl) dX6_loseLine_3 ?_
  refine aw_istore_n (lv' := [(0, .ref (N.1 1)), (1, .int v1)]) C [1, 0] dX6_loseLine_6 rfl (by decide) rfl ?_
  refine aw_aload_n C 0 dX6_loseLine_7 rfl ?_
  obtain ⟨q4, h⟩ := oT_e h
  refine cg_rd_into C lw_10_21 dX6_loseLine_8 ?_
  refine aw_into q4 ?_
  refine aw_aload_n C 0 dX6_loseLine_11 rfl ?_
  refine cg_rd_amountRead C lw_16_21 dX6_loseLine_12 ?_
  refine cp_ts_lose C lw_17_7 dX6_loseLine_15 ?_
  refine ca_name (fun s5 es5 => ?_)
  have h := oL_e es5 h
  refine aw_iload_n C 1 dX6_loseLine_18 rfl ?_
  cases h
  exact aw_ret hE dX6_loseLine_19
def f_X6_loseLine (s0 : St) : Option (Int32 × St) := oC (F_X6_loseLine_0 s0) fun w => oZ w.1 (some w)
theorem c_X6_loseLine (l : Launch) (D : va_G) (N : Nm) (s0 z1 : St) (r : Int32) (h : f_X6_loseLine s0 = some (r, z1)) : Meti l yX6_loseLine (tsU yX6_loseLine cX6_loseLine 2 (some .boolean)) rm_X6_loseLine D N [.ref (N.1 1)] (wC N s0) r (wC N z1) := by
  obtain ⟨w, h1, h2⟩ := oC_e h
  obtain ⟨hz, h2⟩ := oZ_e h2
  cases h2
  exact met_z (cc := cX6_loseLine) (nL := 2) (own := RX6) (by decide) rfl (Nat.le_of_ble_eq_true rfl) (zN hz) (fun p e s m args below meth c Q A C hE => aw_sub [0] rfl (T_X6_loseLine_0 C hE s0 h1))
/-! AwardLine$Reader.weighLine()Z -/
def rm_X6_weighLine : Room := { frames := 8, cells := 0, slots := 0, locals := 173 }
def F_X6_weighLine_18 (s0 : St) : Option (Int32 × St) :=
  oC (f_X6_refuse s0 (1 : Int32)) fun w3 =>
  oL w3.1 fun v1 => oL w3.2 fun s2 =>
  some (v1, s2)
set_option maxHeartbeats 4000000 in
set_option maxRecDepth 100000 in
theorem T_X6_weighLine_18 {r : Int32} {z1 : St} (C : Cx p rm_X6_weighLine s m args c D A cX6_weighLine 3 RX6 rm_X6_weighLine N) (hE : En p l e rm_X6_weighLine s m args below meth c Q D A cX6_weighLine .ireturn (wC N z1) [.int r])  (s0 : St) (h : F_X6_weighLine_18 s0 = some (r, z1)) : Aw p l e rm_X6_weighLine s m args below meth c Q D A 3 (wC N s0) 18 [(0, .ref (N.1 1))] [] := by
  unfold F_X6_weighLine_18 at h
  refine aw_aload_n C 0 dX6_weighLine_18 rfl ?_
  refine aw_iconst (v := 1) C dX6_weighLine_19 (by decide) ?_
  obtain ⟨⟨v1, s2⟩, cw3, h⟩ := oC_e h
  have h := oL_e (x := s2) rfl (oL_e (x := v1) rfl h)
  refine aw_callVi (n := 1) (As := [.int (1 : Int32)]) (rest := []) (q0 := 1) C (c_X6_refuse l D N s0 s2 (1 : Int32) v1 cw3) lw_15_2 lw_15_3 lw_15_4 lw_2_1 lw_15_5 rfl rfl (by decide +kernel) ⟨Nat.le_of_ble_eq_true rfl, Nat.le_of_ble_eq_true rfl⟩ rfl rfl rfl rfl rfl (Nat.le_of_ble_eq_true rfl) dX6_weighLine_20 ?_
  cases h
  exact aw_ret hE dX6_weighLine_23
def F_X6_weighLine_54 (s0 : St) (x1 : Int32) (t0 : Int32) : Option (Int32 × St) :=
  oT (s0.1 12) <|
  oA x1 3 <|
  oL (sA s0 4 (upd (s0.2.1 4) (Int32.toNatClampNeg x1) (s0.1 9))) fun s3 =>
  some (t0, s3)
set_option maxHeartbeats 4000000 in
set_option maxRecDepth 100000 in
theorem T_X6_weighLine_54 {r : Int32} {z1 : St} (C : Cx p rm_X6_weighLine s m args c D A cX6_weighLine 3 RX6 rm_X6_weighLine N) (hE : En p l e rm_X6_weighLine s m args below meth c Q D A cX6_weighLine .ireturn (wC N z1) [.int r])  (s0 : St) (x1 : Int32) (t0 : Int32) (h : F_X6_weighLine_54 s0 x1 t0 = some (r, z1)) : Aw p l e rm_X6_weighLine s m args below meth c Q D A 3 (wC N s0) 54 [(0, .ref (N.1 1)), (1, .int x1)] [.int t0] := by
  unfold F_X6_weighLine_54 at h
  refine aw_istore_n (lv' := [(0, .ref (N.1 1)), (1, .int x1), (2, .int t0)]) C [1, 2, 0] dX6_weighLine_54 rfl (by decide) rfl ?_
  refine aw_aload_n C 0 dX6_weighLine_55 rfl ?_
  obtain ⟨q1, h⟩ := oT_e h
  refine cg_rd_into C lw_10_21 dX6_weighLine_56 ?_
  refine aw_into q1 ?_
  refine cg_ts_weight C lw_17_12 dX6_weighLine_59 ?_
  refine aw_iload_n C 1 dX6_weighLine_62 rfl ?_
  refine aw_aload_n C 0 dX6_weighLine_63 rfl ?_
  refine cg_rd_amountRead C lw_16_21 dX6_weighLine_64 ?_
  obtain ⟨q2, h⟩ := oA_e h
  refine ca_iast (k := 4) C (by decide) rfl q2 dX6_weighLine_67 ?_
  refine ca_name (fun s3 es3 => ?_)
  have h := oL_e es3 h
  refine aw_iload_n C 2 dX6_weighLine_68 rfl ?_
  cases h
  exact aw_ret hE dX6_weighLine_69
def F_X6_weighLine_53 (s0 : St) (x1 : Int32) : Option (Int32 × St) :=
  F_X6_weighLine_54 s0 x1 (0 : Int32)
set_option maxHeartbeats 4000000 in
set_option maxRecDepth 100000 in
theorem T_X6_weighLine_53 {r : Int32} {z1 : St} (C : Cx p rm_X6_weighLine s m args c D A cX6_weighLine 3 RX6 rm_X6_weighLine N) (hE : En p l e rm_X6_weighLine s m args below meth c Q D A cX6_weighLine .ireturn (wC N z1) [.int r])  (s0 : St) (x1 : Int32) (h : F_X6_weighLine_53 s0 x1 = some (r, z1)) : Aw p l e rm_X6_weighLine s m args below meth c Q D A 3 (wC N s0) 53 [(0, .ref (N.1 1)), (1, .int x1)] [] := by
  unfold F_X6_weighLine_53 at h
  refine aw_iconst (v := 0) C dX6_weighLine_53 (by decide) ?_
  refine aw_sub (lv' := [(0, .ref (N.1 1)), (1, .int x1)]) [0, 1] rfl ?_
  exact T_X6_weighLine_54 C hE s0 x1 (0 : Int32) h
def F_X6_weighLine_0 (s0 : St) : Option (Int32 × St) :=
  if (s0.1 6) < (8 : Int32) then (
    F_X6_weighLine_18 s0)
  else (
    if (s0.1 6) ≤ (10 : Int32) then (
      oL ((s0.1 6) - (8 : Int32)) fun y1 =>
      oC (f_X6_once s0) fun w4 =>
      oL w4.1 fun v2 => oL w4.2 fun s3 =>
      if v2 = 0 then (
        F_X6_weighLine_53 s3 y1)
      else (
        oC (f_X6_amount s3 (999 : Int32)) fun w7 =>
        oL w7.1 fun v5 => oL w7.2 fun s6 =>
        if v5 = 0 then (
          F_X6_weighLine_53 s6 y1)
        else (
          F_X6_weighLine_54 s6 y1 (1 : Int32))))
    else (
      F_X6_weighLine_18 s0))
set_option maxHeartbeats 4000000 in
set_option maxRecDepth 100000 in
theorem T_X6_weighLine_0 {r : Int32} {z1 : St} (C : Cx p rm_X6_weighLine s m args c D A cX6_weighLine 3 RX6 rm_X6_weighLine N) (hE : En p l e rm_X6_weighLine s m args below meth c Q D A cX6_weighLine .ireturn (wC N z1) [.int r])  (s0 : St) (h : F_X6_weighLine_0 s0 = some (r, z1)) : Aw p l e rm_X6_weighLine s m args below meth c Q D A 3 (wC N s0) 0 [(0, .ref (N.1 1))] [] := by
  unfold F_X6_weighLine_0 at h
  refine aw_aload_n C 0 dX6_weighLine_0 rfl ?_
  refine cg_rd_token C lw_11_7 dX6_weighLine_1 ?_
  refine aw_bipush (v := 8) C dX6_weighLine_4 (by decide) ?_
  refine aw_icmp_lt (tgt := 18) C dX6_weighLine_6 (by decide) (fun q => ?_) (fun q => ?_)
  · have h := bq_t q h
    refine aw_sub (lv' := [(0, .ref (N.1 1))]) [0] rfl ?_
    exact T_X6_weighLine_18 C hE s0 h
  · have h := bq_f q h
    refine aw_aload_n C 0 dX6_weighLine_9 rfl ?_
    refine cg_rd_token C lw_11_7 dX6_weighLine_10 ?_
    refine aw_bipush (v := 10) C dX6_weighLine_13 (by decide) ?_
    refine aw_icmp_le (tgt := 24) C dX6_weighLine_15 (by decide) (fun q => ?_) (fun q => ?_)
    · have h := bq_t q h
      refine aw_aload_n C 0 dX6_weighLine_24 rfl ?_
      refine cg_rd_token C lw_11_7 dX6_weighLine_25 ?_
      refine aw_bipush (v := 8) C dX6_weighLine_28 (by decide) ?_
      refine aw_isub C dX6_weighLine_30 ?_
      refine aw_topi (fun y1 ey1 => ?_)
      have h := oL_e ey1 h
      refine aw_istore_n (lv' := [(0, .ref (N.1 1)), (1, .int y1)]) C [1, 0] dX6_weighLine_31 rfl (by decide) rfl ?_
      refine aw_aload_n C 0 dX6_weighLine_32 rfl ?_
      obtain ⟨⟨v2, s3⟩, cw4, h⟩ := oC_e h
      have h := oL_e (x := s3) rfl (oL_e (x := v2) rfl h)
      refine aw_callVi (n := 0) (As := []) (rest := []) (q0 := 1) C (c_X6_once l D N s0 s3 v2 cw4) lw_14_22 lw_14_23 lw_15_0 lw_2_1 lw_15_1 rfl rfl (by decide +kernel) ⟨Nat.le_of_ble_eq_true rfl, Nat.le_of_ble_eq_true rfl⟩ rfl rfl rfl rfl rfl (Nat.le_of_ble_eq_true rfl) dX6_weighLine_33 ?_
      refine aw_if_eq (tgt := 53) C dX6_weighLine_36 (by decide) (fun q => ?_) (fun q => ?_)
      · have h := bq_t q h
        refine aw_sub (lv' := [(0, .ref (N.1 1)), (1, .int y1)]) [0, 1] rfl ?_
        exact T_X6_weighLine_53 C hE s3 y1 h
      · have h := bq_f q h
        refine aw_aload_n C 0 dX6_weighLine_39 rfl ?_
        refine aw_sipush (v := 999) C dX6_weighLine_40 (by decide) ?_
        obtain ⟨⟨v5, s6⟩, cw7, h⟩ := oC_e h
        have h := oL_e (x := s6) rfl (oL_e (x := v5) rfl h)
        refine aw_callVi (n := 1) (As := [.int (999 : Int32)]) (rest := []) (q0 := 1) C (c_X6_amount l D N s3 s6 (999 : Int32) v5 cw7) lw_16_23 lw_17_0 lw_17_1 lw_2_1 lw_17_2 rfl rfl (by decide +kernel) ⟨Nat.le_of_ble_eq_true rfl, Nat.le_of_ble_eq_true rfl⟩ rfl rfl rfl rfl rfl (Nat.le_of_ble_eq_true rfl) dX6_weighLine_43 ?_
        refine aw_if_eq (tgt := 53) C dX6_weighLine_46 (by decide) (fun q => ?_) (fun q => ?_)
        · have h := bq_t q h
          refine aw_sub (lv' := [(0, .ref (N.1 1)), (1, .int y1)]) [0, 1] rfl ?_
          exact T_X6_weighLine_53 C hE s6 y1 h
        · have h := bq_f q h
          refine aw_iconst (v := 1) C dX6_weighLine_49 (by decide) ?_
          refine aw_goto (tgt := 54) C dX6_weighLine_50 (by decide) ?_
          refine aw_sub (lv' := [(0, .ref (N.1 1)), (1, .int y1)]) [0, 1] rfl ?_
          exact T_X6_weighLine_54 C hE s6 y1 (1 : Int32) h
    · have h := bq_f q h
      refine aw_sub (lv' := [(0, .ref (N.1 1))]) [0] rfl ?_
      exact T_X6_weighLine_18 C hE s0 h
def f_X6_weighLine (s0 : St) : Option (Int32 × St) := oC (F_X6_weighLine_0 s0) fun w => oZ w.1 (some w)
theorem c_X6_weighLine (l : Launch) (D : va_G) (N : Nm) (s0 z1 : St) (r : Int32) (h : f_X6_weighLine s0 = some (r, z1)) : Meti l yX6_weighLine (tsU yX6_weighLine cX6_weighLine 3 (some .boolean)) rm_X6_weighLine D N [.ref (N.1 1)] (wC N s0) r (wC N z1) := by
  obtain ⟨w, h1, h2⟩ := oC_e h
  obtain ⟨hz, h2⟩ := oZ_e h2
  cases h2
  exact met_z (cc := cX6_weighLine) (nL := 3) (own := RX6) (by decide) rfl (Nat.le_of_ble_eq_true rfl) (zN hz) (fun p e s m args below meth c Q A C hE => aw_sub [0] rfl (T_X6_weighLine_0 C hE s0 h1))
/-! AwardLine$Reader.claimKnot()Z -/
def rm_X6_claimKnot : Room := { frames := 7, cells := 0, slots := 0, locals := 152 }
def F_X6_claimKnot_0 (s0 : St) : Option (Int32 × St) :=
  if (s0.1 10) < (64 : Int32) then (
    oL (sI s0 10 ((s0.1 10) + (1 : Int32))) fun s1 =>
    oC (f_X6_advance s1) fun w4 =>
    oL w4 fun s3 =>
    some ((1 : Int32), s3))
  else (
    oC (f_X6_refuse s0 (2 : Int32)) fun w7 =>
    oL w7.1 fun v5 => oL w7.2 fun s6 =>
    some (v5, s6))
set_option maxHeartbeats 4000000 in
set_option maxRecDepth 100000 in
theorem T_X6_claimKnot_0 {r : Int32} {z1 : St} (C : Cx p rm_X6_claimKnot s m args c D A cX6_claimKnot 1 RX6 rm_X6_claimKnot N) (hE : En p l e rm_X6_claimKnot s m args below meth c Q D A cX6_claimKnot .ireturn (wC N z1) [.int r])  (s0 : St) (h : F_X6_claimKnot_0 s0 = some (r, z1)) : Aw p l e rm_X6_claimKnot s m args below meth c Q D A 1 (wC N s0) 0 [(0, .ref (N.1 1))] [] := by
  unfold F_X6_claimKnot_0 at h
  refine aw_aload_n C 0 dX6_claimKnot_0 rfl ?_
  refine cg_rd_knotsRead C lw_11_5 dX6_claimKnot_1 ?_
  refine aw_bipush (v := 64) C dX6_claimKnot_4 (by decide) ?_
  refine aw_icmp_lt (tgt := 15) C dX6_claimKnot_6 (by decide) (fun q => ?_) (fun q => ?_)
  · have h := bq_t q h
    refine aw_aload_n C 0 dX6_claimKnot_15 rfl ?_
    refine aw_dup C dX6_claimKnot_16 rfl ?_
    refine cg_rd_knotsRead C lw_11_5 dX6_claimKnot_17 ?_
    refine aw_iconst (v := 1) C dX6_claimKnot_20 (by decide) ?_
    refine aw_iadd C dX6_claimKnot_21 ?_
    refine cp_rd_knotsRead C lw_11_5 dX6_claimKnot_22 ?_
    refine ca_name (fun s1 es1 => ?_)
    have h := oL_e es1 h
    refine aw_aload_n C 0 dX6_claimKnot_25 rfl ?_
    obtain ⟨s3, cw4, h⟩ := oC_e h
    have h := oL_e (x := s3) rfl h
    refine aw_callVv (n := 0) (As := []) (rest := []) (q0 := 1) C (c_X6_advance l D N s1 s3 cw4) lw_11_9 lw_11_10 lw_11_11 lw_2_1 lw_11_12 rfl rfl (by decide +kernel) ⟨Nat.le_of_ble_eq_true rfl, Nat.le_of_ble_eq_true rfl⟩ rfl rfl rfl rfl rfl (Nat.le_of_ble_eq_true rfl) dX6_claimKnot_26 ?_
    refine aw_iconst (v := 1) C dX6_claimKnot_29 (by decide) ?_
    cases h
    exact aw_ret hE dX6_claimKnot_30
  · have h := bq_f q h
    refine aw_aload_n C 0 dX6_claimKnot_9 rfl ?_
    refine aw_iconst (v := 2) C dX6_claimKnot_10 (by decide) ?_
    obtain ⟨⟨v5, s6⟩, cw7, h⟩ := oC_e h
    have h := oL_e (x := s6) rfl (oL_e (x := v5) rfl h)
    refine aw_callVi (n := 1) (As := [.int (2 : Int32)]) (rest := []) (q0 := 1) C (c_X6_refuse l D N s0 s6 (2 : Int32) v5 cw7) lw_15_2 lw_15_3 lw_15_4 lw_2_1 lw_15_5 rfl rfl (by decide +kernel) ⟨Nat.le_of_ble_eq_true rfl, Nat.le_of_ble_eq_true rfl⟩ rfl rfl rfl rfl rfl (Nat.le_of_ble_eq_true rfl) dX6_claimKnot_11 ?_
    cases h
    exact aw_ret hE dX6_claimKnot_14
def f_X6_claimKnot (s0 : St) : Option (Int32 × St) := oC (F_X6_claimKnot_0 s0) fun w => oZ w.1 (some w)
theorem c_X6_claimKnot (l : Launch) (D : va_G) (N : Nm) (s0 z1 : St) (r : Int32) (h : f_X6_claimKnot s0 = some (r, z1)) : Meti l yX6_claimKnot (tsU yX6_claimKnot cX6_claimKnot 1 (some .boolean)) rm_X6_claimKnot D N [.ref (N.1 1)] (wC N s0) r (wC N z1) := by
  obtain ⟨w, h1, h2⟩ := oC_e h
  obtain ⟨hz, h2⟩ := oZ_e h2
  cases h2
  exact met_z (cc := cX6_claimKnot) (nL := 1) (own := RX6) (by decide) rfl (Nat.le_of_ble_eq_true rfl) (zN hz) (fun p e s m args below meth c Q A C hE => aw_sub [0] rfl (T_X6_claimKnot_0 C hE s0 h1))
/-! AwardLine$Reader.negated(I)Z -/
def rm_X6_negated (d : Nat) : Room := { frames := 21 + 4 * d, cells := 0, slots := 0, locals := 1100 + 400 * d }
def F_X6_negated_45_b (me : St → Int32 → Int32 → Option (Int32 × St)) (k45 : St → Int32 → Int32 → Option (Int32 × St)) (s0 : St) (x2 : Int32) (x3 : Int32) : Option (Int32 × St) :=
  if x2 ≤ x3 then (
    some ((1 : Int32), s0))
  else (
    oC (f_X6_emit s0 (17 : Int32) (0 : Int32)) fun w3 =>
    oL w3 fun s2 =>
    oL (x3 + (1 : Int32)) fun y4 =>
    k45 s2 x2 y4)
set_option maxHeartbeats 4000000 in
set_option maxRecDepth 100000 in
theorem T_X6_negated_45_b {r : Int32} {z1 : St} {d : Nat} {me : St → Int32 → Int32 → Option (Int32 × St)} {k45 : St → Int32 → Int32 → Option (Int32 × St)} (C : Cx p (rm_X6_negated d) s m args c D A cX6_negated 4 RX6 (rm_X6_negated d) N) (hE : En p l e (rm_X6_negated d) s m args below meth c Q D A cX6_negated .ireturn (wC N z1) [.int r]) (hme : ∀ (s0 q1 : St) (x1 : Int32) (x2 : Int32) (r0 : Int32), me s0 x1 x2 = some (r0, q1) → Meti l yX6_row (tsU yX6_row cX6_row 6 (some .boolean)) (rm_X6_row d) D N [.ref (N.1 1), .int x1, .int x2] (wC N s0) r0 (wC N q1)) (hk45 : ∀ (s0 : St) (x2 : Int32) (x3 : Int32), k45 s0 x2 x3 = some (r, z1) → Aw p l e (rm_X6_negated d) s m args below meth c Q D A 4 (wC N s0) 45 [(0, .ref (N.1 1)), (2, .int x2), (3, .int x3)] []) (s0 : St) (x2 : Int32) (x3 : Int32) (h : F_X6_negated_45_b me k45 s0 x2 x3 = some (r, z1)) : Aw p l e (rm_X6_negated d) s m args below meth c Q D A 4 (wC N s0) 45 [(0, .ref (N.1 1)), (2, .int x2), (3, .int x3)] [] := by
  unfold F_X6_negated_45_b at h
  refine aw_iload_n C 2 dX6_negated_45 rfl ?_
  refine aw_iload_n C 1 dX6_negated_46 rfl ?_
  refine aw_icmp_ge (tgt := 63) C dX6_negated_47 (by decide) (fun q => ?_) (fun q => ?_)
  · have h := bq_t q h
    refine aw_iconst (v := 1) C dX6_negated_63 (by decide) ?_
    cases h
    exact aw_ret hE dX6_negated_64
  · have h := bq_f q h
    refine aw_aload_n C 0 dX6_negated_50 rfl ?_
    refine aw_bipush (v := 17) C dX6_negated_51 (by decide) ?_
    refine aw_iconst (v := 0) C dX6_negated_53 (by decide) ?_
    obtain ⟨s2, cw3, h⟩ := oC_e h
    have h := oL_e (x := s2) rfl h
    refine aw_callVv (n := 2) (As := [.int (17 : Int32), .int (0 : Int32)]) (rest := []) (q0 := 1) C (c_X6_emit l D N s0 s2 (17 : Int32) (0 : Int32) cw3) lw_16_4 lw_16_5 lw_16_6 lw_2_1 lw_16_7 rfl rfl (by decide +kernel) ⟨by simp only [rm_X6_negated, rm_X6_emit]; omega, by simp only [rm_X6_negated, rm_X6_emit]; omega⟩ rfl rfl rfl rfl rfl (Nat.le_of_ble_eq_true rfl) dX6_negated_54 ?_
    obtain ⟨y4, ey4⟩ : ∃ q : Int32, q = x3 + (1 : Int32) := ⟨_, rfl⟩
    have h := oL_e ey4 h
    refine aw_iinc (v := y4) (k := 2) (lv' := [(0, .ref (N.1 1)), (2, .int x2), (3, .int y4)]) C [1, 2, 0] dX6_negated_57 rfl (by rw [ey4]; rfl) (by decide) rfl ?_
    refine aw_goto (tgt := 45) C dX6_negated_60 (by decide) ?_
    refine aw_sub (lv' := [(0, .ref (N.1 1)), (2, .int x2), (3, .int y4)]) [0, 1, 2] rfl ?_
    exact hk45 s2 x2 y4 h
def F_X6_negated_45 (me : St → Int32 → Int32 → Option (Int32 × St)) : Nat → St → Int32 → Int32 → Option (Int32 × St)
  | 0 => fun _ _ _ => none
  | n + 1 => F_X6_negated_45_b me (F_X6_negated_45 me n)
theorem T_X6_negated_45 {r : Int32} {z1 : St} {d : Nat} {me : St → Int32 → Int32 → Option (Int32 × St)} (C : Cx p (rm_X6_negated d) s m args c D A cX6_negated 4 RX6 (rm_X6_negated d) N) (hE : En p l e (rm_X6_negated d) s m args below meth c Q D A cX6_negated .ireturn (wC N z1) [.int r]) (hme : ∀ (s0 q1 : St) (x1 : Int32) (x2 : Int32) (r0 : Int32), me s0 x1 x2 = some (r0, q1) → Meti l yX6_row (tsU yX6_row cX6_row 6 (some .boolean)) (rm_X6_row d) D N [.ref (N.1 1), .int x1, .int x2] (wC N s0) r0 (wC N q1))  : ∀ (n : Nat) (s0 : St) (x2 : Int32) (x3 : Int32), F_X6_negated_45 me n s0 x2 x3 = some (r, z1) → Aw p l e (rm_X6_negated d) s m args below meth c Q D A 4 (wC N s0) 45 [(0, .ref (N.1 1)), (2, .int x2), (3, .int x3)] [] := by
  intro n
  induction n with
  | zero => intro s0 x2 x3 h; cases h
  | succ n ih => intro s0 x2 x3 h; exact T_X6_negated_45_b C hE hme ih s0 x2 x3 h
def F_X6_negated_32 (me : St → Int32 → Int32 → Option (Int32 × St)) (s0 : St) (x1 : Int32) (x2 : Int32) : Option (Int32 × St) :=
  oC (me s0 (3 : Int32) x1) fun w3 =>
  oL w3.1 fun v1 => oL w3.2 fun s2 =>
  if v1 = 0 then (
    some ((0 : Int32), s2))
  else (
    oL (0 : Int32) fun y4 =>
    F_X6_negated_45 me 100000 s2 x2 y4)
set_option maxHeartbeats 4000000 in
set_option maxRecDepth 100000 in
theorem T_X6_negated_32 {r : Int32} {z1 : St} {d : Nat} {me : St → Int32 → Int32 → Option (Int32 × St)} (C : Cx p (rm_X6_negated d) s m args c D A cX6_negated 4 RX6 (rm_X6_negated d) N) (hE : En p l e (rm_X6_negated d) s m args below meth c Q D A cX6_negated .ireturn (wC N z1) [.int r]) (hme : ∀ (s0 q1 : St) (x1 : Int32) (x2 : Int32) (r0 : Int32), me s0 x1 x2 = some (r0, q1) → Meti l yX6_row (tsU yX6_row cX6_row 6 (some .boolean)) (rm_X6_row d) D N [.ref (N.1 1), .int x1, .int x2] (wC N s0) r0 (wC N q1))  (s0 : St) (x1 : Int32) (x2 : Int32) (h : F_X6_negated_32 me s0 x1 x2 = some (r, z1)) : Aw p l e (rm_X6_negated d) s m args below meth c Q D A 4 (wC N s0) 32 [(0, .ref (N.1 1)), (1, .int x1), (2, .int x2)] [] := by
  unfold F_X6_negated_32 at h
  refine aw_aload_n C 0 dX6_negated_32 rfl ?_
  refine aw_iconst (v := 3) C dX6_negated_33 (by decide) ?_
  refine aw_iload_n C 1 dX6_negated_34 rfl ?_
  obtain ⟨⟨v1, s2⟩, cw3, h⟩ := oC_e h
  have h := oL_e (x := s2) rfl (oL_e (x := v1) rfl h)
  refine aw_callVi (n := 2) (As := [.int (3 : Int32), .int x1]) (rest := []) (q0 := 1) C (hme s0 s2 (3 : Int32) x1 v1 cw3) lw_15_11 lw_15_12 lw_15_13 lw_2_1 lw_15_14 rfl rfl (by decide +kernel) ⟨by simp only [rm_X6_negated, rm_X6_row]; omega, by simp only [rm_X6_negated, rm_X6_row]; omega⟩ rfl rfl rfl rfl rfl (Nat.le_of_ble_eq_true rfl) dX6_negated_35 ?_
  refine aw_if_ne (tgt := 43) C dX6_negated_38 (by decide) (fun q => ?_) (fun q => ?_)
  · have h := bq_f q h
    refine aw_iconst (v := 0) C dX6_negated_43 (by decide) ?_
    refine aw_topi (fun y4 ey4 => ?_)
    have h := oL_e ey4 h
    refine aw_istore_n (lv' := [(0, .ref (N.1 1)), (1, .int x1), (2, .int x2), (3, .int y4)]) C [1, 2, 3, 0] dX6_negated_44 rfl (by decide) rfl ?_
    refine aw_sub (lv' := [(0, .ref (N.1 1)), (2, .int x2), (3, .int y4)]) [0, 2, 3] rfl ?_
    exact T_X6_negated_45 C hE hme 100000 s2 x2 y4 h
  · have h := bq_t q h
    refine aw_iconst (v := 0) C dX6_negated_41 (by decide) ?_
    cases h
    exact aw_ret hE dX6_negated_42
def F_X6_negated_2_b (me : St → Int32 → Int32 → Option (Int32 × St)) (k2 : St → Int32 → Int32 → Option (Int32 × St)) (s0 : St) (x1 : Int32) (x2 : Int32) : Option (Int32 × St) :=
  if (64 : Int32) < x2 then (
    F_X6_negated_32 me s0 x1 x2)
  else (
    if (s0.1 6) = (17 : Int32) then (
      oC (f_X6_claimKnot s0) fun w3 =>
      oL w3.1 fun v1 => oL w3.2 fun s2 =>
      if v1 = 0 then (
        some ((0 : Int32), s2))
      else (
        oL (x2 + (1 : Int32)) fun y4 =>
        k2 s2 x1 y4))
    else (
      F_X6_negated_32 me s0 x1 x2))
set_option maxHeartbeats 4000000 in
set_option maxRecDepth 100000 in
theorem T_X6_negated_2_b {r : Int32} {z1 : St} {d : Nat} {me : St → Int32 → Int32 → Option (Int32 × St)} {k2 : St → Int32 → Int32 → Option (Int32 × St)} (C : Cx p (rm_X6_negated d) s m args c D A cX6_negated 4 RX6 (rm_X6_negated d) N) (hE : En p l e (rm_X6_negated d) s m args below meth c Q D A cX6_negated .ireturn (wC N z1) [.int r]) (hme : ∀ (s0 q1 : St) (x1 : Int32) (x2 : Int32) (r0 : Int32), me s0 x1 x2 = some (r0, q1) → Meti l yX6_row (tsU yX6_row cX6_row 6 (some .boolean)) (rm_X6_row d) D N [.ref (N.1 1), .int x1, .int x2] (wC N s0) r0 (wC N q1)) (hk2 : ∀ (s0 : St) (x1 : Int32) (x2 : Int32), k2 s0 x1 x2 = some (r, z1) → Aw p l e (rm_X6_negated d) s m args below meth c Q D A 4 (wC N s0) 2 [(0, .ref (N.1 1)), (1, .int x1), (2, .int x2)] []) (s0 : St) (x1 : Int32) (x2 : Int32) (h : F_X6_negated_2_b me k2 s0 x1 x2 = some (r, z1)) : Aw p l e (rm_X6_negated d) s m args below meth c Q D A 4 (wC N s0) 2 [(0, .ref (N.1 1)), (1, .int x1), (2, .int x2)] [] := by
  unfold F_X6_negated_2_b at h
  refine aw_iload_n C 2 dX6_negated_2 rfl ?_
  refine aw_bipush (v := 64) C dX6_negated_3 (by decide) ?_
  refine aw_icmp_gt (tgt := 32) C dX6_negated_5 (by decide) (fun q => ?_) (fun q => ?_)
  · have h := bq_t q h
    refine aw_sub (lv' := [(0, .ref (N.1 1)), (1, .int x1), (2, .int x2)]) [0, 1, 2] rfl ?_
    exact T_X6_negated_32 C hE hme s0 x1 x2 h
  · have h := bq_f q h
    refine aw_aload_n C 0 dX6_negated_8 rfl ?_
    refine cg_rd_token C lw_11_7 dX6_negated_9 ?_
    refine aw_bipush (v := 17) C dX6_negated_12 (by decide) ?_
    refine aw_icmp_ne (tgt := 32) C dX6_negated_14 (by decide) (fun q => ?_) (fun q => ?_)
    · have h := bq_f q h
      refine aw_sub (lv' := [(0, .ref (N.1 1)), (1, .int x1), (2, .int x2)]) [0, 1, 2] rfl ?_
      exact T_X6_negated_32 C hE hme s0 x1 x2 h
    · have h := bq_t q h
      refine aw_aload_n C 0 dX6_negated_17 rfl ?_
      obtain ⟨⟨v1, s2⟩, cw3, h⟩ := oC_e h
      have h := oL_e (x := s2) rfl (oL_e (x := v1) rfl h)
      refine aw_callVi (n := 0) (As := []) (rest := []) (q0 := 1) C (c_X6_claimKnot l D N s0 s2 v1 cw3) lw_16_0 lw_16_1 lw_16_2 lw_2_1 lw_16_3 rfl rfl (by decide +kernel) ⟨by simp only [rm_X6_negated, rm_X6_claimKnot]; omega, by simp only [rm_X6_negated, rm_X6_claimKnot]; omega⟩ rfl rfl rfl rfl rfl (Nat.le_of_ble_eq_true rfl) dX6_negated_18 ?_
      refine aw_if_ne (tgt := 26) C dX6_negated_21 (by decide) (fun q => ?_) (fun q => ?_)
      · have h := bq_f q h
        obtain ⟨y4, ey4⟩ : ∃ q : Int32, q = x2 + (1 : Int32) := ⟨_, rfl⟩
        have h := oL_e ey4 h
        refine aw_iinc (v := y4) (k := 2) (lv' := [(0, .ref (N.1 1)), (1, .int x1), (2, .int y4)]) C [1, 2, 0] dX6_negated_26 rfl (by rw [ey4]; rfl) (by decide) rfl ?_
        refine aw_goto (tgt := 2) C dX6_negated_29 (by decide) ?_
        refine aw_sub (lv' := [(0, .ref (N.1 1)), (1, .int x1), (2, .int y4)]) [0, 1, 2] rfl ?_
        exact hk2 s2 x1 y4 h
      · have h := bq_t q h
        refine aw_iconst (v := 0) C dX6_negated_24 (by decide) ?_
        cases h
        exact aw_ret hE dX6_negated_25
def F_X6_negated_2 (me : St → Int32 → Int32 → Option (Int32 × St)) : Nat → St → Int32 → Int32 → Option (Int32 × St)
  | 0 => fun _ _ _ => none
  | n + 1 => F_X6_negated_2_b me (F_X6_negated_2 me n)
theorem T_X6_negated_2 {r : Int32} {z1 : St} {d : Nat} {me : St → Int32 → Int32 → Option (Int32 × St)} (C : Cx p (rm_X6_negated d) s m args c D A cX6_negated 4 RX6 (rm_X6_negated d) N) (hE : En p l e (rm_X6_negated d) s m args below meth c Q D A cX6_negated .ireturn (wC N z1) [.int r]) (hme : ∀ (s0 q1 : St) (x1 : Int32) (x2 : Int32) (r0 : Int32), me s0 x1 x2 = some (r0, q1) → Meti l yX6_row (tsU yX6_row cX6_row 6 (some .boolean)) (rm_X6_row d) D N [.ref (N.1 1), .int x1, .int x2] (wC N s0) r0 (wC N q1))  : ∀ (n : Nat) (s0 : St) (x1 : Int32) (x2 : Int32), F_X6_negated_2 me n s0 x1 x2 = some (r, z1) → Aw p l e (rm_X6_negated d) s m args below meth c Q D A 4 (wC N s0) 2 [(0, .ref (N.1 1)), (1, .int x1), (2, .int x2)] [] := by
  intro n
  induction n with
  | zero => intro s0 x1 x2 h; cases h
  | succ n ih => intro s0 x1 x2 h; exact T_X6_negated_2_b C hE hme ih s0 x1 x2 h
def F_X6_negated_0 (me : St → Int32 → Int32 → Option (Int32 × St)) (s0 : St) (x1 : Int32) : Option (Int32 × St) :=
  oL (0 : Int32) fun y1 =>
  F_X6_negated_2 me 100000 s0 x1 y1
set_option maxHeartbeats 4000000 in
set_option maxRecDepth 100000 in
theorem T_X6_negated_0 {r : Int32} {z1 : St} {d : Nat} {me : St → Int32 → Int32 → Option (Int32 × St)} (C : Cx p (rm_X6_negated d) s m args c D A cX6_negated 4 RX6 (rm_X6_negated d) N) (hE : En p l e (rm_X6_negated d) s m args below meth c Q D A cX6_negated .ireturn (wC N z1) [.int r]) (hme : ∀ (s0 q1 : St) (x1 : Int32) (x2 : Int32) (r0 : Int32), me s0 x1 x2 = some (r0, q1) → Meti l yX6_row (tsU yX6_row cX6_row 6 (some .boolean)) (rm_X6_row d) D N [.ref (N.1 1), .int x1, .int x2] (wC N s0) r0 (wC N q1))  (s0 : St) (x1 : Int32) (h : F_X6_negated_0 me s0 x1 = some (r, z1)) : Aw p l e (rm_X6_negated d) s m args below meth c Q D A 4 (wC N s0) 0 [(0, .ref (N.1 1)), (1, .int x1)] [] := by
  unfold F_X6_negated_0 at h
  refine aw_iconst (v := 0) C dX6_negated_0 (by decide) ?_
  refine aw_topi (fun y1 ey1 => ?_)
  have h := oL_e ey1 h
  refine aw_istore_n (lv' := [(0, .ref (N.1 1)), (1, .int x1), (2, .int y1)]) C [1, 2, 0] dX6_negated_1 rfl (by decide) rfl ?_
  refine aw_sub (lv' := [(0, .ref (N.1 1)), (1, .int x1), (2, .int y1)]) [0, 1, 2] rfl ?_
  exact T_X6_negated_2 C hE hme 100000 s0 x1 y1 h
def f_X6_negated (me : St → Int32 → Int32 → Option (Int32 × St)) (s0 : St) (x1 : Int32) : Option (Int32 × St) := oC (F_X6_negated_0 me s0 x1) fun w => oZ w.1 (some w)
theorem c_X6_negated {l : Launch} {D : va_G} {N : Nm} {d : Nat} {me : St → Int32 → Int32 → Option (Int32 × St)} (hme : ∀ (s0 q1 : St) (x1 : Int32) (x2 : Int32) (r0 : Int32), me s0 x1 x2 = some (r0, q1) → Meti l yX6_row (tsU yX6_row cX6_row 6 (some .boolean)) (rm_X6_row d) D N [.ref (N.1 1), .int x1, .int x2] (wC N s0) r0 (wC N q1)) (s0 z1 : St) (x1 : Int32) (r : Int32) (h : f_X6_negated me s0 x1 = some (r, z1)) : Meti l yX6_negated (tsU yX6_negated cX6_negated 4 (some .boolean)) (rm_X6_negated d) D N [.ref (N.1 1), .int x1] (wC N s0) r (wC N z1) := by
  obtain ⟨w, h1, h2⟩ := oC_e h
  obtain ⟨hz, h2⟩ := oZ_e h2
  cases h2
  exact met_z (cc := cX6_negated) (nL := 4) (own := RX6) (by decide) rfl (Nat.le_of_ble_eq_true rfl) (zN hz) (fun p e s m args below meth c Q A C hE => aw_sub [0, 1] rfl (T_X6_negated_0 C hE hme s0 x1 h1))
/-! AwardLine$Reader.part(I)Z -/
def rm_X6_part (d : Nat) : Room := { frames := 21 + 4 * d, cells := 0, slots := 0, locals := 1100 + 400 * d }
def F_X6_part_114 (me : St → Int32 → Int32 → Option (Int32 × St)) (s0 : St) : Option (Int32 × St) :=
  oL (s0.1 6) fun y1 =>
  oL (s0.1 8) fun y2 =>
  oC (f_X6_claimKnot s0) fun w5 =>
  oL w5.1 fun v3 => oL w5.2 fun s4 =>
  if v3 = 0 then (
    some ((0 : Int32), s4))
  else (
    oC (f_X6_emit s4 y1 y2) fun w8 =>
    oL w8 fun s7 =>
    some ((1 : Int32), s7))
set_option maxHeartbeats 4000000 in
set_option maxRecDepth 100000 in
theorem T_X6_part_114 {r : Int32} {z1 : St} {d : Nat} {me : St → Int32 → Int32 → Option (Int32 × St)} (C : Cx p (rm_X6_part d) s m args c D A cX6_part 5 RX6 (rm_X6_part d) N) (hE : En p l e (rm_X6_part d) s m args below meth c Q D A cX6_part .ireturn (wC N z1) [.int r]) (hme : ∀ (s0 q1 : St) (x1 : Int32) (x2 : Int32) (r0 : Int32), me s0 x1 x2 = some (r0, q1) → Meti l yX6_row (tsU yX6_row cX6_row 6 (some .boolean)) (rm_X6_row d) D N [.ref (N.1 1), .int x1, .int x2] (wC N s0) r0 (wC N q1))  (s0 : St) (h : F_X6_part_114 me s0 = some (r, z1)) : Aw p l e (rm_X6_part d) s m args below meth c Q D A 5 (wC N s0) 114 [(0, .ref (N.1 1))] [] := by
  unfold F_X6_part_114 at h
  refine aw_aload_n C 0 dX6_part_114 rfl ?_
  refine cg_rd_token C lw_11_7 dX6_part_115 ?_
  refine aw_topi (fun y1 ey1 => ?_)
  have h := oL_e ey1 h
  refine aw_istore_n (lv' := [(0, .ref (N.1 1)), (3, .int y1)]) C [1, 0] dX6_part_118 rfl (by decide) rfl ?_
  refine aw_aload_n C 0 dX6_part_119 rfl ?_
  refine cg_rd_number C lw_14_9 dX6_part_120 ?_
  refine aw_topi (fun y2 ey2 => ?_)
  have h := oL_e ey2 h
  refine aw_istore (lv' := [(0, .ref (N.1 1)), (3, .int y1), (4, .int y2)]) C [1, 2, 0] dX6_part_123 (by decide) rfl ?_
  refine aw_aload_n C 0 dX6_part_125 rfl ?_
  obtain ⟨⟨v3, s4⟩, cw5, h⟩ := oC_e h
  have h := oL_e (x := s4) rfl (oL_e (x := v3) rfl h)
  refine aw_callVi (n := 0) (As := []) (rest := []) (q0 := 1) C (c_X6_claimKnot l D N s0 s4 v3 cw5) lw_16_0 lw_16_1 lw_16_2 lw_2_1 lw_16_3 rfl rfl (by decide +kernel) ⟨by simp only [rm_X6_part, rm_X6_claimKnot]; omega, by simp only [rm_X6_part, rm_X6_claimKnot]; omega⟩ rfl rfl rfl rfl rfl (Nat.le_of_ble_eq_true rfl) dX6_part_126 ?_
  refine aw_if_ne (tgt := 134) C dX6_part_129 (by decide) (fun q => ?_) (fun q => ?_)
  · have h := bq_f q h
    refine aw_aload_n C 0 dX6_part_134 rfl ?_
    refine aw_iload_n C 1 dX6_part_135 rfl ?_
    refine aw_iload C 2 dX6_part_136 rfl ?_
    obtain ⟨s7, cw8, h⟩ := oC_e h
    have h := oL_e (x := s7) rfl h
    refine aw_callVv (n := 2) (As := [.int y1, .int y2]) (rest := []) (q0 := 1) C (c_X6_emit l D N s4 s7 y1 y2 cw8) lw_16_4 lw_16_5 lw_16_6 lw_2_1 lw_16_7 rfl rfl (by decide +kernel) ⟨by simp only [rm_X6_part, rm_X6_emit]; omega, by simp only [rm_X6_part, rm_X6_emit]; omega⟩ rfl rfl rfl rfl rfl (Nat.le_of_ble_eq_true rfl) dX6_part_138 ?_
    refine aw_iconst (v := 1) C dX6_part_141 (by decide) ?_
    cases h
    exact aw_ret hE dX6_part_142
  · have h := bq_t q h
    refine aw_iconst (v := 0) C dX6_part_132 (by decide) ?_
    cases h
    exact aw_ret hE dX6_part_133
def F_X6_part_94 (me : St → Int32 → Int32 → Option (Int32 × St)) (s0 : St) (x2 : Int32) : Option (Int32 × St) :=
  if x2 = 0 then (
    F_X6_part_114 me s0)
  else (
    if (s0.1 8) ≤ (9999 : Int32) then (
      F_X6_part_114 me s0)
    else (
      oC (f_X6_refuse s0 (2 : Int32)) fun w3 =>
      oL w3.1 fun v1 => oL w3.2 fun s2 =>
      some (v1, s2)))
set_option maxHeartbeats 4000000 in
set_option maxRecDepth 100000 in
theorem T_X6_part_94 {r : Int32} {z1 : St} {d : Nat} {me : St → Int32 → Int32 → Option (Int32 × St)} (C : Cx p (rm_X6_part d) s m args c D A cX6_part 5 RX6 (rm_X6_part d) N) (hE : En p l e (rm_X6_part d) s m args below meth c Q D A cX6_part .ireturn (wC N z1) [.int r]) (hme : ∀ (s0 q1 : St) (x1 : Int32) (x2 : Int32) (r0 : Int32), me s0 x1 x2 = some (r0, q1) → Meti l yX6_row (tsU yX6_row cX6_row 6 (some .boolean)) (rm_X6_row d) D N [.ref (N.1 1), .int x1, .int x2] (wC N s0) r0 (wC N q1))  (s0 : St) (x2 : Int32) (h : F_X6_part_94 me s0 x2 = some (r, z1)) : Aw p l e (rm_X6_part d) s m args below meth c Q D A 5 (wC N s0) 94 [(0, .ref (N.1 1)), (2, .int x2)] [] := by
  unfold F_X6_part_94 at h
  refine aw_iload_n C 1 dX6_part_94 rfl ?_
  refine aw_if_eq (tgt := 114) C dX6_part_95 (by decide) (fun q => ?_) (fun q => ?_)
  · have h := bq_t q h
    refine aw_sub (lv' := [(0, .ref (N.1 1))]) [0] rfl ?_
    exact T_X6_part_114 C hE hme s0 h
  · have h := bq_f q h
    refine aw_aload_n C 0 dX6_part_98 rfl ?_
    refine cg_rd_number C lw_14_9 dX6_part_99 ?_
    refine aw_sipush (v := 9999) C dX6_part_102 (by decide) ?_
    refine aw_icmp_le (tgt := 114) C dX6_part_105 (by decide) (fun q => ?_) (fun q => ?_)
    · have h := bq_t q h
      refine aw_sub (lv' := [(0, .ref (N.1 1))]) [0] rfl ?_
      exact T_X6_part_114 C hE hme s0 h
    · have h := bq_f q h
      refine aw_aload_n C 0 dX6_part_108 rfl ?_
      refine aw_iconst (v := 2) C dX6_part_109 (by decide) ?_
      obtain ⟨⟨v1, s2⟩, cw3, h⟩ := oC_e h
      have h := oL_e (x := s2) rfl (oL_e (x := v1) rfl h)
      refine aw_callVi (n := 1) (As := [.int (2 : Int32)]) (rest := []) (q0 := 1) C (c_X6_refuse l D N s0 s2 (2 : Int32) v1 cw3) lw_15_2 lw_15_3 lw_15_4 lw_2_1 lw_15_5 rfl rfl (by decide +kernel) ⟨by simp only [rm_X6_part, rm_X6_refuse]; omega, by simp only [rm_X6_part, rm_X6_refuse]; omega⟩ rfl rfl rfl rfl rfl (Nat.le_of_ble_eq_true rfl) dX6_part_110 ?_
      cases h
      exact aw_ret hE dX6_part_113
def F_X6_part_88 (me : St → Int32 → Int32 → Option (Int32 × St)) (s0 : St) : Option (Int32 × St) :=
  oC (f_X6_refuse s0 (1 : Int32)) fun w3 =>
  oL w3.1 fun v1 => oL w3.2 fun s2 =>
  some (v1, s2)
set_option maxHeartbeats 4000000 in
set_option maxRecDepth 100000 in
theorem T_X6_part_88 {r : Int32} {z1 : St} {d : Nat} {me : St → Int32 → Int32 → Option (Int32 × St)} (C : Cx p (rm_X6_part d) s m args c D A cX6_part 5 RX6 (rm_X6_part d) N) (hE : En p l e (rm_X6_part d) s m args below meth c Q D A cX6_part .ireturn (wC N z1) [.int r]) (hme : ∀ (s0 q1 : St) (x1 : Int32) (x2 : Int32) (r0 : Int32), me s0 x1 x2 = some (r0, q1) → Meti l yX6_row (tsU yX6_row cX6_row 6 (some .boolean)) (rm_X6_row d) D N [.ref (N.1 1), .int x1, .int x2] (wC N s0) r0 (wC N q1))  (s0 : St) (h : F_X6_part_88 me s0 = some (r, z1)) : Aw p l e (rm_X6_part d) s m args below meth c Q D A 5 (wC N s0) 88 [(0, .ref (N.1 1))] [] := by
  unfold F_X6_part_88 at h
  refine aw_aload_n C 0 dX6_part_88 rfl ?_
  refine aw_iconst (v := 1) C dX6_part_89 (by decide) ?_
  obtain ⟨⟨v1, s2⟩, cw3, h⟩ := oC_e h
  have h := oL_e (x := s2) rfl (oL_e (x := v1) rfl h)
  refine aw_callVi (n := 1) (As := [.int (1 : Int32)]) (rest := []) (q0 := 1) C (c_X6_refuse l D N s0 s2 (1 : Int32) v1 cw3) lw_15_2 lw_15_3 lw_15_4 lw_2_1 lw_15_5 rfl rfl (by decide +kernel) ⟨by simp only [rm_X6_part, rm_X6_refuse]; omega, by simp only [rm_X6_part, rm_X6_refuse]; omega⟩ rfl rfl rfl rfl rfl (Nat.le_of_ble_eq_true rfl) dX6_part_90 ?_
  cases h
  exact aw_ret hE dX6_part_93
def F_X6_part_65 (me : St → Int32 → Int32 → Option (Int32 × St)) (s0 : St) (t0 : Int32) : Option (Int32 × St) :=
  if t0 = 0 then (
    if (s0.1 6) < (11 : Int32) then (
      F_X6_part_88 me s0)
    else (
      if (s0.1 6) ≤ (16 : Int32) then (
        F_X6_part_94 me s0 t0)
      else (
        F_X6_part_88 me s0)))
  else (
    F_X6_part_94 me s0 t0)
set_option maxHeartbeats 4000000 in
set_option maxRecDepth 100000 in
theorem T_X6_part_65 {r : Int32} {z1 : St} {d : Nat} {me : St → Int32 → Int32 → Option (Int32 × St)} (C : Cx p (rm_X6_part d) s m args c D A cX6_part 5 RX6 (rm_X6_part d) N) (hE : En p l e (rm_X6_part d) s m args below meth c Q D A cX6_part .ireturn (wC N z1) [.int r]) (hme : ∀ (s0 q1 : St) (x1 : Int32) (x2 : Int32) (r0 : Int32), me s0 x1 x2 = some (r0, q1) → Meti l yX6_row (tsU yX6_row cX6_row 6 (some .boolean)) (rm_X6_row d) D N [.ref (N.1 1), .int x1, .int x2] (wC N s0) r0 (wC N q1))  (s0 : St) (t0 : Int32) (h : F_X6_part_65 me s0 t0 = some (r, z1)) : Aw p l e (rm_X6_part d) s m args below meth c Q D A 5 (wC N s0) 65 [(0, .ref (N.1 1))] [.int t0] := by
  unfold F_X6_part_65 at h
  refine aw_istore_n (lv' := [(0, .ref (N.1 1)), (2, .int t0)]) C [1, 0] dX6_part_65 rfl (by decide) rfl ?_
  refine aw_iload_n C 1 dX6_part_66 rfl ?_
  refine aw_if_ne (tgt := 94) C dX6_part_67 (by decide) (fun q => ?_) (fun q => ?_)
  · have h := bq_f q h
    refine aw_sub (lv' := [(0, .ref (N.1 1)), (2, .int t0)]) [0, 1] rfl ?_
    exact T_X6_part_94 C hE hme s0 t0 h
  · have h := bq_t q h
    refine aw_aload_n C 0 dX6_part_70 rfl ?_
    refine cg_rd_token C lw_11_7 dX6_part_71 ?_
    refine aw_bipush (v := 11) C dX6_part_74 (by decide) ?_
    refine aw_icmp_lt (tgt := 88) C dX6_part_76 (by decide) (fun q => ?_) (fun q => ?_)
    · have h := bq_t q h
      refine aw_sub (lv' := [(0, .ref (N.1 1))]) [0] rfl ?_
      exact T_X6_part_88 C hE hme s0 h
    · have h := bq_f q h
      refine aw_aload_n C 0 dX6_part_79 rfl ?_
      refine cg_rd_token C lw_11_7 dX6_part_80 ?_
      refine aw_bipush (v := 16) C dX6_part_83 (by decide) ?_
      refine aw_icmp_le (tgt := 94) C dX6_part_85 (by decide) (fun q => ?_) (fun q => ?_)
      · have h := bq_t q h
        refine aw_sub (lv' := [(0, .ref (N.1 1)), (2, .int t0)]) [0, 1] rfl ?_
        exact T_X6_part_94 C hE hme s0 t0 h
      · have h := bq_f q h
        refine aw_sub (lv' := [(0, .ref (N.1 1))]) [0] rfl ?_
        exact T_X6_part_88 C hE hme s0 h
def F_X6_part_50 (me : St → Int32 → Int32 → Option (Int32 × St)) (s0 : St) (t0 : Int32) : Option (Int32 × St) :=
  some (t0, s0)
set_option maxHeartbeats 4000000 in
set_option maxRecDepth 100000 in
theorem T_X6_part_50 {r : Int32} {z1 : St} {d : Nat} {me : St → Int32 → Int32 → Option (Int32 × St)} (C : Cx p (rm_X6_part d) s m args c D A cX6_part 5 RX6 (rm_X6_part d) N) (hE : En p l e (rm_X6_part d) s m args below meth c Q D A cX6_part .ireturn (wC N z1) [.int r]) (hme : ∀ (s0 q1 : St) (x1 : Int32) (x2 : Int32) (r0 : Int32), me s0 x1 x2 = some (r0, q1) → Meti l yX6_row (tsU yX6_row cX6_row 6 (some .boolean)) (rm_X6_row d) D N [.ref (N.1 1), .int x1, .int x2] (wC N s0) r0 (wC N q1))  (s0 : St) (t0 : Int32) (h : F_X6_part_50 me s0 t0 = some (r, z1)) : Aw p l e (rm_X6_part d) s m args below meth c Q D A 5 (wC N s0) 50 [] [.int t0] := by
  unfold F_X6_part_50 at h
  cases h
  exact aw_ret hE dX6_part_50
def F_X6_part_49 (me : St → Int32 → Int32 → Option (Int32 × St)) (s0 : St) : Option (Int32 × St) :=
  F_X6_part_50 me s0 (0 : Int32)
set_option maxHeartbeats 4000000 in
set_option maxRecDepth 100000 in
theorem T_X6_part_49 {r : Int32} {z1 : St} {d : Nat} {me : St → Int32 → Int32 → Option (Int32 × St)} (C : Cx p (rm_X6_part d) s m args c D A cX6_part 5 RX6 (rm_X6_part d) N) (hE : En p l e (rm_X6_part d) s m args below meth c Q D A cX6_part .ireturn (wC N z1) [.int r]) (hme : ∀ (s0 q1 : St) (x1 : Int32) (x2 : Int32) (r0 : Int32), me s0 x1 x2 = some (r0, q1) → Meti l yX6_row (tsU yX6_row cX6_row 6 (some .boolean)) (rm_X6_row d) D N [.ref (N.1 1), .int x1, .int x2] (wC N s0) r0 (wC N q1))  (s0 : St) (h : F_X6_part_49 me s0 = some (r, z1)) : Aw p l e (rm_X6_part d) s m args below meth c Q D A 5 (wC N s0) 49 [] [] := by
  unfold F_X6_part_49 at h
  refine aw_iconst (v := 0) C dX6_part_49 (by decide) ?_
  refine aw_sub (lv' := []) [] rfl ?_
  exact T_X6_part_50 C hE hme s0 (0 : Int32) h
def F_X6_part_0 (me : St → Int32 → Int32 → Option (Int32 × St)) (s0 : St) (x1 : Int32) : Option (Int32 × St) :=
  if (s0.1 6) = (31 : Int32) then (
    if x1 < (8 : Int32) then (
      oC (f_X6_advance s0) fun w3 =>
      oL w3 fun s2 =>
      oC (me s2 (0 : Int32) (x1 + (1 : Int32))) fun w6 =>
      oL w6.1 fun v4 => oL w6.2 fun s5 =>
      if v4 = 0 then (
        F_X6_part_49 me s5)
      else (
        oC (f_X6_pass s5 (32 : Int32)) fun w9 =>
        oL w9.1 fun v7 => oL w9.2 fun s8 =>
        if v7 = 0 then (
          F_X6_part_49 me s8)
        else (
          F_X6_part_50 me s8 (1 : Int32))))
    else (
      oC (f_X6_refuse s0 (2 : Int32)) fun w12 =>
      oL w12.1 fun v10 => oL w12.2 fun s11 =>
      some (v10, s11)))
  else (
    if (s0.1 6) = (20 : Int32) then (
      F_X6_part_65 me s0 (1 : Int32))
    else (
      F_X6_part_65 me s0 (0 : Int32)))
set_option maxHeartbeats 4000000 in
set_option maxRecDepth 100000 in
theorem T_X6_part_0 {r : Int32} {z1 : St} {d : Nat} {me : St → Int32 → Int32 → Option (Int32 × St)} (C : Cx p (rm_X6_part d) s m args c D A cX6_part 5 RX6 (rm_X6_part d) N) (hE : En p l e (rm_X6_part d) s m args below meth c Q D A cX6_part .ireturn (wC N z1) [.int r]) (hme : ∀ (s0 q1 : St) (x1 : Int32) (x2 : Int32) (r0 : Int32), me s0 x1 x2 = some (r0, q1) → Meti l yX6_row (tsU yX6_row cX6_row 6 (some .boolean)) (rm_X6_row d) D N [.ref (N.1 1), .int x1, .int x2] (wC N s0) r0 (wC N q1))  (s0 : St) (x1 : Int32) (h : F_X6_part_0 me s0 x1 = some (r, z1)) : Aw p l e (rm_X6_part d) s m args below meth c Q D A 5 (wC N s0) 0 [(0, .ref (N.1 1)), (1, .int x1)] [] := by
  unfold F_X6_part_0 at h
  refine aw_aload_n C 0 dX6_part_0 rfl ?_
  refine cg_rd_token C lw_11_7 dX6_part_1 ?_
  refine aw_bipush (v := 31) C dX6_part_4 (by decide) ?_
  refine aw_icmp_ne (tgt := 51) C dX6_part_6 (by decide) (fun q => ?_) (fun q => ?_)
  · have h := bq_f q h
    refine aw_aload_n C 0 dX6_part_51 rfl ?_
    refine cg_rd_token C lw_11_7 dX6_part_52 ?_
    refine aw_bipush (v := 20) C dX6_part_55 (by decide) ?_
    refine aw_icmp_ne (tgt := 64) C dX6_part_57 (by decide) (fun q => ?_) (fun q => ?_)
    · have h := bq_f q h
      refine aw_iconst (v := 0) C dX6_part_64 (by decide) ?_
      refine aw_sub (lv' := [(0, .ref (N.1 1))]) [0] rfl ?_
      exact T_X6_part_65 C hE hme s0 (0 : Int32) h
    · have h := bq_t q h
      refine aw_iconst (v := 1) C dX6_part_60 (by decide) ?_
      refine aw_goto (tgt := 65) C dX6_part_61 (by decide) ?_
      refine aw_sub (lv' := [(0, .ref (N.1 1))]) [0] rfl ?_
      exact T_X6_part_65 C hE hme s0 (1 : Int32) h
  · have h := bq_t q h
    refine aw_iload_n C 1 dX6_part_9 rfl ?_
    refine aw_bipush (v := 8) C dX6_part_10 (by decide) ?_
    refine aw_icmp_lt (tgt := 21) C dX6_part_12 (by decide) (fun q => ?_) (fun q => ?_)
    · have h := bq_t q h
      refine aw_aload_n C 0 dX6_part_21 rfl ?_
      obtain ⟨s2, cw3, h⟩ := oC_e h
      have h := oL_e (x := s2) rfl h
      refine aw_callVv (n := 0) (As := []) (rest := []) (q0 := 1) C (c_X6_advance l D N s0 s2 cw3) lw_11_9 lw_11_10 lw_11_11 lw_2_1 lw_11_12 rfl rfl (by decide +kernel) ⟨by simp only [rm_X6_part, rm_X6_advance]; omega, by simp only [rm_X6_part, rm_X6_advance]; omega⟩ rfl rfl rfl rfl rfl (Nat.le_of_ble_eq_true rfl) dX6_part_22 ?_
      refine aw_aload_n C 0 dX6_part_25 rfl ?_
      refine aw_iconst (v := 0) C dX6_part_26 (by decide) ?_
      refine aw_iload_n C 1 dX6_part_27 rfl ?_
      refine aw_iconst (v := 1) C dX6_part_28 (by decide) ?_
      refine aw_iadd C dX6_part_29 ?_
      obtain ⟨⟨v4, s5⟩, cw6, h⟩ := oC_e h
      have h := oL_e (x := s5) rfl (oL_e (x := v4) rfl h)
      refine aw_callVi (n := 2) (As := [.int (0 : Int32), .int (x1 + (1 : Int32))]) (rest := []) (q0 := 1) C (hme s2 s5 (0 : Int32) (x1 + (1 : Int32)) v4 cw6) lw_15_11 lw_15_12 lw_15_13 lw_2_1 lw_15_14 rfl rfl (by decide +kernel) ⟨by simp only [rm_X6_part, rm_X6_row]; omega, by simp only [rm_X6_part, rm_X6_row]; omega⟩ rfl rfl rfl rfl rfl (Nat.le_of_ble_eq_true rfl) dX6_part_30 ?_
      refine aw_if_eq (tgt := 49) C dX6_part_33 (by decide) (fun q => ?_) (fun q => ?_)
      · have h := bq_t q h
        refine aw_sub (lv' := []) [] rfl ?_
        exact T_X6_part_49 C hE hme s5 h
      · have h := bq_f q h
        refine aw_aload_n C 0 dX6_part_36 rfl ?_
        refine aw_bipush (v := 32) C dX6_part_37 (by decide) ?_
        obtain ⟨⟨v7, s8⟩, cw9, h⟩ := oC_e h
        have h := oL_e (x := s8) rfl (oL_e (x := v7) rfl h)
        refine aw_callVi (n := 1) (As := [.int (32 : Int32)]) (rest := []) (q0 := 1) C (c_X6_pass l D N s5 s8 (32 : Int32) v7 cw9) lw_16_13 lw_16_14 lw_16_15 lw_2_1 lw_16_16 rfl rfl (by decide +kernel) ⟨by simp only [rm_X6_part, rm_X6_pass]; omega, by simp only [rm_X6_part, rm_X6_pass]; omega⟩ rfl rfl rfl rfl rfl (Nat.le_of_ble_eq_true rfl) dX6_part_39 ?_
        refine aw_if_eq (tgt := 49) C dX6_part_42 (by decide) (fun q => ?_) (fun q => ?_)
        · have h := bq_t q h
          refine aw_sub (lv' := []) [] rfl ?_
          exact T_X6_part_49 C hE hme s8 h
        · have h := bq_f q h
          refine aw_iconst (v := 1) C dX6_part_45 (by decide) ?_
          refine aw_goto (tgt := 50) C dX6_part_46 (by decide) ?_
          refine aw_sub (lv' := []) [] rfl ?_
          exact T_X6_part_50 C hE hme s8 (1 : Int32) h
    · have h := bq_f q h
      refine aw_aload_n C 0 dX6_part_15 rfl ?_
      refine aw_iconst (v := 2) C dX6_part_16 (by decide) ?_
      obtain ⟨⟨v10, s11⟩, cw12, h⟩ := oC_e h
      have h := oL_e (x := s11) rfl (oL_e (x := v10) rfl h)
      refine aw_callVi (n := 1) (As := [.int (2 : Int32)]) (rest := []) (q0 := 1) C (c_X6_refuse l D N s0 s11 (2 : Int32) v10 cw12) lw_15_2 lw_15_3 lw_15_4 lw_2_1 lw_15_5 rfl rfl (by decide +kernel) ⟨by simp only [rm_X6_part, rm_X6_refuse]; omega, by simp only [rm_X6_part, rm_X6_refuse]; omega⟩ rfl rfl rfl rfl rfl (Nat.le_of_ble_eq_true rfl) dX6_part_17 ?_
      cases h
      exact aw_ret hE dX6_part_20
def f_X6_part (me : St → Int32 → Int32 → Option (Int32 × St)) (s0 : St) (x1 : Int32) : Option (Int32 × St) := oC (F_X6_part_0 me s0 x1) fun w => oZ w.1 (some w)
theorem c_X6_part {l : Launch} {D : va_G} {N : Nm} {d : Nat} {me : St → Int32 → Int32 → Option (Int32 × St)} (hme : ∀ (s0 q1 : St) (x1 : Int32) (x2 : Int32) (r0 : Int32), me s0 x1 x2 = some (r0, q1) → Meti l yX6_row (tsU yX6_row cX6_row 6 (some .boolean)) (rm_X6_row d) D N [.ref (N.1 1), .int x1, .int x2] (wC N s0) r0 (wC N q1)) (s0 z1 : St) (x1 : Int32) (r : Int32) (h : f_X6_part me s0 x1 = some (r, z1)) : Meti l yX6_part (tsU yX6_part cX6_part 5 (some .boolean)) (rm_X6_part d) D N [.ref (N.1 1), .int x1] (wC N s0) r (wC N z1) := by
  obtain ⟨w, h1, h2⟩ := oC_e h
  obtain ⟨hz, h2⟩ := oZ_e h2
  cases h2
  exact met_z (cc := cX6_part) (nL := 5) (own := RX6) (by decide) rfl (Nat.le_of_ble_eq_true rfl) (zN hz) (fun p e s m args below meth c Q A C hE => aw_sub [0, 1] rfl (T_X6_part_0 C hE hme s0 x1 h1))
/-! AwardLine$Reader.row(II)Z -/
def rm_X6_row (d : Nat) : Room := { frames := 20 + 4 * d, cells := 0, slots := 0, locals := 1000 + 400 * d }
def F_X6_row_107 (me : St → Int32 → Int32 → Option (Int32 × St)) (s0 : St) : Option (Int32 × St) :=
  some ((1 : Int32), s0)
set_option maxHeartbeats 4000000 in
set_option maxRecDepth 100000 in
theorem T_X6_row_107 {r : Int32} {z1 : St} {d : Nat} {me : St → Int32 → Int32 → Option (Int32 × St)} (C : Cx p (rm_X6_row (d + 1)) s m args c D A cX6_row 6 RX6 (rm_X6_row (d + 1)) N) (hE : En p l e (rm_X6_row (d + 1)) s m args below meth c Q D A cX6_row .ireturn (wC N z1) [.int r]) (hme : ∀ (s0 q1 : St) (x1 : Int32) (x2 : Int32) (r0 : Int32), me s0 x1 x2 = some (r0, q1) → Meti l yX6_row (tsU yX6_row cX6_row 6 (some .boolean)) (rm_X6_row d) D N [.ref (N.1 1), .int x1, .int x2] (wC N s0) r0 (wC N q1))  (s0 : St) (h : F_X6_row_107 me s0 = some (r, z1)) : Aw p l e (rm_X6_row (d + 1)) s m args below meth c Q D A 6 (wC N s0) 107 [] [] := by
  unfold F_X6_row_107 at h
  refine aw_iconst (v := 1) C dX6_row_107 (by decide) ?_
  cases h
  exact aw_ret hE dX6_row_108
def F_X6_row_92 (me : St → Int32 → Int32 → Option (Int32 × St)) (s0 : St) : Option (Int32 × St) :=
  some ((0 : Int32), s0)
set_option maxHeartbeats 4000000 in
set_option maxRecDepth 100000 in
theorem T_X6_row_92 {r : Int32} {z1 : St} {d : Nat} {me : St → Int32 → Int32 → Option (Int32 × St)} (C : Cx p (rm_X6_row (d + 1)) s m args c D A cX6_row 6 RX6 (rm_X6_row (d + 1)) N) (hE : En p l e (rm_X6_row (d + 1)) s m args below meth c Q D A cX6_row .ireturn (wC N z1) [.int r]) (hme : ∀ (s0 q1 : St) (x1 : Int32) (x2 : Int32) (r0 : Int32), me s0 x1 x2 = some (r0, q1) → Meti l yX6_row (tsU yX6_row cX6_row 6 (some .boolean)) (rm_X6_row d) D N [.ref (N.1 1), .int x1, .int x2] (wC N s0) r0 (wC N q1))  (s0 : St) (h : F_X6_row_92 me s0 = some (r, z1)) : Aw p l e (rm_X6_row (d + 1)) s m args below meth c Q D A 6 (wC N s0) 92 [] [] := by
  unfold F_X6_row_92 at h
  refine aw_iconst (v := 0) C dX6_row_92 (by decide) ?_
  cases h
  exact aw_ret hE dX6_row_93
def F_X6_row_51_b (me : St → Int32 → Int32 → Option (Int32 × St)) (k51 : St → Int32 → Int32 → Int32 → Int32 → Option (Int32 × St)) (s0 : St) (x1 : Int32) (x2 : Int32) (x3 : Int32) (x4 : Int32) : Option (Int32 × St) :=
  if x3 ≤ x4 then (
    F_X6_row_107 me s0)
  else (
    oC (f_X6_rankOf s0 (s0.1 6)) fun w3 =>
    oL w3.1 fun v1 => oL w3.2 fun s2 =>
    if v1 = x1 then (
      oL (s2.1 6) fun y4 =>
      oC (f_X6_claimKnot s2) fun w7 =>
      oL w7.1 fun v5 => oL w7.2 fun s6 =>
      if v5 = 0 then (
        F_X6_row_92 me s6)
      else (
        oC (me s6 (x1 + (1 : Int32)) x2) fun w10 =>
        oL w10.1 fun v8 => oL w10.2 fun s9 =>
        if v8 = 0 then (
          F_X6_row_92 me s9)
        else (
          oC (f_X6_emit s9 y4 (0 : Int32)) fun w13 =>
          oL w13 fun s12 =>
          oL (x4 + (1 : Int32)) fun y14 =>
          k51 s12 x1 x2 x3 y14)))
    else (
      F_X6_row_107 me s2))
set_option maxHeartbeats 4000000 in
set_option maxRecDepth 100000 in
theorem T_X6_row_51_b {r : Int32} {z1 : St} {d : Nat} {me : St → Int32 → Int32 → Option (Int32 × St)} {k51 : St → Int32 → Int32 → Int32 → Int32 → Option (Int32 × St)} (C : Cx p (rm_X6_row (d + 1)) s m args c D A cX6_row 6 RX6 (rm_X6_row (d + 1)) N) (hE : En p l e (rm_X6_row (d + 1)) s m args below meth c Q D A cX6_row .ireturn (wC N z1) [.int r]) (hme : ∀ (s0 q1 : St) (x1 : Int32) (x2 : Int32) (r0 : Int32), me s0 x1 x2 = some (r0, q1) → Meti l yX6_row (tsU yX6_row cX6_row 6 (some .boolean)) (rm_X6_row d) D N [.ref (N.1 1), .int x1, .int x2] (wC N s0) r0 (wC N q1)) (hk51 : ∀ (s0 : St) (x1 : Int32) (x2 : Int32) (x3 : Int32) (x4 : Int32), k51 s0 x1 x2 x3 x4 = some (r, z1) → Aw p l e (rm_X6_row (d + 1)) s m args below meth c Q D A 6 (wC N s0) 51 [(0, .ref (N.1 1)), (1, .int x1), (2, .int x2), (3, .int x3), (4, .int x4)] []) (s0 : St) (x1 : Int32) (x2 : Int32) (x3 : Int32) (x4 : Int32) (h : F_X6_row_51_b me k51 s0 x1 x2 x3 x4 = some (r, z1)) : Aw p l e (rm_X6_row (d + 1)) s m args below meth c Q D A 6 (wC N s0) 51 [(0, .ref (N.1 1)), (1, .int x1), (2, .int x2), (3, .int x3), (4, .int x4)] [] := by
  unfold F_X6_row_51_b at h
  refine aw_iload C 4 dX6_row_51 rfl ?_
  refine aw_iload_n C 3 dX6_row_53 rfl ?_
  refine aw_icmp_ge (tgt := 107) C dX6_row_54 (by decide) (fun q => ?_) (fun q => ?_)
  · have h := bq_t q h
    refine aw_sub (lv' := []) [] rfl ?_
    exact T_X6_row_107 C hE hme s0 h
  · have h := bq_f q h
    refine aw_aload_n C 0 dX6_row_57 rfl ?_
    refine cg_rd_token C lw_11_7 dX6_row_58 ?_
    obtain ⟨⟨v1, s2⟩, cw3, h⟩ := oC_e h
    have h := oL_e (x := s2) rfl (oL_e (x := v1) rfl h)
    refine aw_callSi (n := 1) (As := [.int (s0.1 6)]) (rest := []) C (c_X6_rankOf l D N s0 s2 (s0.1 6) v1 cw3) lw_15_21 lw_15_22 lw_2_1 lw_15_23 rfl rfl (by decide +kernel) ⟨by simp only [rm_X6_row, rm_X6_rankOf]; omega, by simp only [rm_X6_row, rm_X6_rankOf]; omega⟩ rfl rfl (Nat.le_of_ble_eq_true rfl) dX6_row_61 ?_
    refine aw_iload_n C 1 dX6_row_64 rfl ?_
    refine aw_icmp_ne (tgt := 107) C dX6_row_65 (by decide) (fun q => ?_) (fun q => ?_)
    · have h := bq_f q h
      refine aw_sub (lv' := []) [] rfl ?_
      exact T_X6_row_107 C hE hme s2 h
    · have h := bq_t q h
      refine aw_aload_n C 0 dX6_row_68 rfl ?_
      refine cg_rd_token C lw_11_7 dX6_row_69 ?_
      refine aw_topi (fun y4 ey4 => ?_)
      have h := oL_e ey4 h
      refine aw_istore (lv' := [(0, .ref (N.1 1)), (1, .int x1), (2, .int x2), (3, .int x3), (4, .int x4), (5, .int y4)]) C [1, 2, 3, 4, 5, 0] dX6_row_72 (by decide) rfl ?_
      refine aw_aload_n C 0 dX6_row_74 rfl ?_
      obtain ⟨⟨v5, s6⟩, cw7, h⟩ := oC_e h
      have h := oL_e (x := s6) rfl (oL_e (x := v5) rfl h)
      refine aw_callVi (n := 0) (As := []) (rest := []) (q0 := 1) C (c_X6_claimKnot l D N s2 s6 v5 cw7) lw_16_0 lw_16_1 lw_16_2 lw_2_1 lw_16_3 rfl rfl (by decide +kernel) ⟨by simp only [rm_X6_row, rm_X6_claimKnot]; omega, by simp only [rm_X6_row, rm_X6_claimKnot]; omega⟩ rfl rfl rfl rfl rfl (Nat.le_of_ble_eq_true rfl) dX6_row_75 ?_
      refine aw_if_eq (tgt := 92) C dX6_row_78 (by decide) (fun q => ?_) (fun q => ?_)
      · have h := bq_t q h
        refine aw_sub (lv' := []) [] rfl ?_
        exact T_X6_row_92 C hE hme s6 h
      · have h := bq_f q h
        refine aw_aload_n C 0 dX6_row_81 rfl ?_
        refine aw_iload_n C 1 dX6_row_82 rfl ?_
        refine aw_iconst (v := 1) C dX6_row_83 (by decide) ?_
        refine aw_iadd C dX6_row_84 ?_
        refine aw_iload_n C 2 dX6_row_85 rfl ?_
        obtain ⟨⟨v8, s9⟩, cw10, h⟩ := oC_e h
        have h := oL_e (x := s9) rfl (oL_e (x := v8) rfl h)
        refine aw_callVi (n := 2) (As := [.int (x1 + (1 : Int32)), .int x2]) (rest := []) (q0 := 1) C (hme s6 s9 (x1 + (1 : Int32)) x2 v8 cw10) lw_15_11 lw_15_12 lw_15_13 lw_2_1 lw_15_14 rfl rfl (by decide +kernel) ⟨by simp only [rm_X6_row, rm_X6_row]; omega, by simp only [rm_X6_row, rm_X6_row]; omega⟩ rfl rfl rfl rfl rfl (Nat.le_of_ble_eq_true rfl) dX6_row_86 ?_
        refine aw_if_ne (tgt := 94) C dX6_row_89 (by decide) (fun q => ?_) (fun q => ?_)
        · have h := bq_f q h
          refine aw_aload_n C 0 dX6_row_94 rfl ?_
          refine aw_iload C 5 dX6_row_95 rfl ?_
          refine aw_iconst (v := 0) C dX6_row_97 (by decide) ?_
          obtain ⟨s12, cw13, h⟩ := oC_e h
          have h := oL_e (x := s12) rfl h
          refine aw_callVv (n := 2) (As := [.int y4, .int (0 : Int32)]) (rest := []) (q0 := 1) C (c_X6_emit l D N s9 s12 y4 (0 : Int32) cw13) lw_16_4 lw_16_5 lw_16_6 lw_2_1 lw_16_7 rfl rfl (by decide +kernel) ⟨by simp only [rm_X6_row, rm_X6_emit]; omega, by simp only [rm_X6_row, rm_X6_emit]; omega⟩ rfl rfl rfl rfl rfl (Nat.le_of_ble_eq_true rfl) dX6_row_98 ?_
          obtain ⟨y14, ey14⟩ : ∃ q : Int32, q = x4 + (1 : Int32) := ⟨_, rfl⟩
          have h := oL_e ey14 h
          refine aw_iinc (v := y14) (k := 4) (lv' := [(0, .ref (N.1 1)), (1, .int x1), (2, .int x2), (3, .int x3), (4, .int y14), (5, .int y4)]) C [1, 2, 3, 4, 0, 5] dX6_row_101 rfl (by rw [ey14]; rfl) (by decide) rfl ?_
          refine aw_goto (tgt := 51) C dX6_row_104 (by decide) ?_
          refine aw_sub (lv' := [(0, .ref (N.1 1)), (1, .int x1), (2, .int x2), (3, .int x3), (4, .int y14)]) [0, 1, 2, 3, 4] rfl ?_
          exact hk51 s12 x1 x2 x3 y14 h
        · have h := bq_t q h
          refine aw_sub (lv' := []) [] rfl ?_
          exact T_X6_row_92 C hE hme s9 h
def F_X6_row_51 (me : St → Int32 → Int32 → Option (Int32 × St)) : Nat → St → Int32 → Int32 → Int32 → Int32 → Option (Int32 × St)
  | 0 => fun _ _ _ _ _ => none
  | n + 1 => F_X6_row_51_b me (F_X6_row_51 me n)
theorem T_X6_row_51 {r : Int32} {z1 : St} {d : Nat} {me : St → Int32 → Int32 → Option (Int32 × St)} (C : Cx p (rm_X6_row (d + 1)) s m args c D A cX6_row 6 RX6 (rm_X6_row (d + 1)) N) (hE : En p l e (rm_X6_row (d + 1)) s m args below meth c Q D A cX6_row .ireturn (wC N z1) [.int r]) (hme : ∀ (s0 q1 : St) (x1 : Int32) (x2 : Int32) (r0 : Int32), me s0 x1 x2 = some (r0, q1) → Meti l yX6_row (tsU yX6_row cX6_row 6 (some .boolean)) (rm_X6_row d) D N [.ref (N.1 1), .int x1, .int x2] (wC N s0) r0 (wC N q1))  : ∀ (n : Nat) (s0 : St) (x1 : Int32) (x2 : Int32) (x3 : Int32) (x4 : Int32), F_X6_row_51 me n s0 x1 x2 x3 x4 = some (r, z1) → Aw p l e (rm_X6_row (d + 1)) s m args below meth c Q D A 6 (wC N s0) 51 [(0, .ref (N.1 1)), (1, .int x1), (2, .int x2), (3, .int x3), (4, .int x4)] [] := by
  intro n
  induction n with
  | zero => intro s0 x1 x2 x3 x4 h; cases h
  | succ n ih => intro s0 x1 x2 x3 x4 h; exact T_X6_row_51_b C hE hme ih s0 x1 x2 x3 x4 h
def F_X6_row_47 (me : St → Int32 → Int32 → Option (Int32 × St)) (s0 : St) (x1 : Int32) (x2 : Int32) (t0 : Int32) : Option (Int32 × St) :=
  oL (0 : Int32) fun y1 =>
  F_X6_row_51 me 100000 s0 x1 x2 t0 y1
set_option maxHeartbeats 4000000 in
set_option maxRecDepth 100000 in
theorem T_X6_row_47 {r : Int32} {z1 : St} {d : Nat} {me : St → Int32 → Int32 → Option (Int32 × St)} (C : Cx p (rm_X6_row (d + 1)) s m args c D A cX6_row 6 RX6 (rm_X6_row (d + 1)) N) (hE : En p l e (rm_X6_row (d + 1)) s m args below meth c Q D A cX6_row .ireturn (wC N z1) [.int r]) (hme : ∀ (s0 q1 : St) (x1 : Int32) (x2 : Int32) (r0 : Int32), me s0 x1 x2 = some (r0, q1) → Meti l yX6_row (tsU yX6_row cX6_row 6 (some .boolean)) (rm_X6_row d) D N [.ref (N.1 1), .int x1, .int x2] (wC N s0) r0 (wC N q1))  (s0 : St) (x1 : Int32) (x2 : Int32) (t0 : Int32) (h : F_X6_row_47 me s0 x1 x2 t0 = some (r, z1)) : Aw p l e (rm_X6_row (d + 1)) s m args below meth c Q D A 6 (wC N s0) 47 [(0, .ref (N.1 1)), (1, .int x1), (2, .int x2)] [.int t0] := by
  unfold F_X6_row_47 at h
  refine aw_istore_n (lv' := [(0, .ref (N.1 1)), (1, .int x1), (2, .int x2), (3, .int t0)]) C [1, 2, 3, 0] dX6_row_47 rfl (by decide) rfl ?_
  refine aw_iconst (v := 0) C dX6_row_48 (by decide) ?_
  refine aw_topi (fun y1 ey1 => ?_)
  have h := oL_e ey1 h
  refine aw_istore (lv' := [(0, .ref (N.1 1)), (1, .int x1), (2, .int x2), (3, .int t0), (4, .int y1)]) C [1, 2, 3, 4, 0] dX6_row_49 (by decide) rfl ?_
  refine aw_sub (lv' := [(0, .ref (N.1 1)), (1, .int x1), (2, .int x2), (3, .int t0), (4, .int y1)]) [0, 1, 2, 3, 4] rfl ?_
  exact T_X6_row_51 C hE hme 100000 s0 x1 x2 t0 y1 h
def F_X6_row_0 (me : St → Int32 → Int32 → Option (Int32 × St)) (s0 : St) (x1 : Int32) (x2 : Int32) : Option (Int32 × St) :=
  if x1 = (2 : Int32) then (
    oC (f_X6_negated me s0 x2) fun w9 =>
    oL w9.1 fun v7 => oL w9.2 fun s8 =>
    some (v7, s8))
  else (
    if x1 < (6 : Int32) then (
      oC (me s0 (x1 + (1 : Int32)) x2) fun w3 =>
      oL w3.1 fun v1 => oL w3.2 fun s2 =>
      if v1 = 0 then (
        some ((0 : Int32), s2))
      else (
        if x1 = (3 : Int32) then (
          F_X6_row_47 me s2 x1 x2 (1 : Int32))
        else (
          F_X6_row_47 me s2 x1 x2 (65 : Int32))))
    else (
      oC (f_X6_part me s0 x2) fun w6 =>
      oL w6.1 fun v4 => oL w6.2 fun s5 =>
      some (v4, s5)))
set_option maxHeartbeats 4000000 in
set_option maxRecDepth 100000 in
theorem T_X6_row_0 {r : Int32} {z1 : St} {d : Nat} {me : St → Int32 → Int32 → Option (Int32 × St)} (C : Cx p (rm_X6_row (d + 1)) s m args c D A cX6_row 6 RX6 (rm_X6_row (d + 1)) N) (hE : En p l e (rm_X6_row (d + 1)) s m args below meth c Q D A cX6_row .ireturn (wC N z1) [.int r]) (hme : ∀ (s0 q1 : St) (x1 : Int32) (x2 : Int32) (r0 : Int32), me s0 x1 x2 = some (r0, q1) → Meti l yX6_row (tsU yX6_row cX6_row 6 (some .boolean)) (rm_X6_row d) D N [.ref (N.1 1), .int x1, .int x2] (wC N s0) r0 (wC N q1))  (s0 : St) (x1 : Int32) (x2 : Int32) (h : F_X6_row_0 me s0 x1 x2 = some (r, z1)) : Aw p l e (rm_X6_row (d + 1)) s m args below meth c Q D A 6 (wC N s0) 0 [(0, .ref (N.1 1)), (1, .int x1), (2, .int x2)] [] := by
  unfold F_X6_row_0 at h
  refine aw_iload_n C 1 dX6_row_0 rfl ?_
  refine aw_iconst (v := 2) C dX6_row_1 (by decide) ?_
  refine aw_icmp_ne (tgt := 11) C dX6_row_2 (by decide) (fun q => ?_) (fun q => ?_)
  · have h := bq_f q h
    refine aw_iload_n C 1 dX6_row_11 rfl ?_
    refine aw_bipush (v := 6) C dX6_row_12 (by decide) ?_
    refine aw_icmp_lt (tgt := 23) C dX6_row_14 (by decide) (fun q => ?_) (fun q => ?_)
    · have h := bq_t q h
      refine aw_aload_n C 0 dX6_row_23 rfl ?_
      refine aw_iload_n C 1 dX6_row_24 rfl ?_
      refine aw_iconst (v := 1) C dX6_row_25 (by decide) ?_
      refine aw_iadd C dX6_row_26 ?_
      refine aw_iload_n C 2 dX6_row_27 rfl ?_
      obtain ⟨⟨v1, s2⟩, cw3, h⟩ := oC_e h
      have h := oL_e (x := s2) rfl (oL_e (x := v1) rfl h)
      refine aw_callVi (n := 2) (As := [.int (x1 + (1 : Int32)), .int x2]) (rest := []) (q0 := 1) C (hme s0 s2 (x1 + (1 : Int32)) x2 v1 cw3) lw_15_11 lw_15_12 lw_15_13 lw_2_1 lw_15_14 rfl rfl (by decide +kernel) ⟨by simp only [rm_X6_row, rm_X6_row]; omega, by simp only [rm_X6_row, rm_X6_row]; omega⟩ rfl rfl rfl rfl rfl (Nat.le_of_ble_eq_true rfl) dX6_row_28 ?_
      refine aw_if_ne (tgt := 36) C dX6_row_31 (by decide) (fun q => ?_) (fun q => ?_)
      · have h := bq_f q h
        refine aw_iload_n C 1 dX6_row_36 rfl ?_
        refine aw_iconst (v := 3) C dX6_row_37 (by decide) ?_
        refine aw_icmp_ne (tgt := 45) C dX6_row_38 (by decide) (fun q => ?_) (fun q => ?_)
        · have h := bq_f q h
          refine aw_bipush (v := 65) C dX6_row_45 (by decide) ?_
          refine aw_sub (lv' := [(0, .ref (N.1 1)), (1, .int x1), (2, .int x2)]) [0, 1, 2] rfl ?_
          exact T_X6_row_47 C hE hme s2 x1 x2 (65 : Int32) h
        · have h := bq_t q h
          refine aw_iconst (v := 1) C dX6_row_41 (by decide) ?_
          refine aw_goto (tgt := 47) C dX6_row_42 (by decide) ?_
          refine aw_sub (lv' := [(0, .ref (N.1 1)), (1, .int x1), (2, .int x2)]) [0, 1, 2] rfl ?_
          exact T_X6_row_47 C hE hme s2 x1 x2 (1 : Int32) h
      · have h := bq_t q h
        refine aw_iconst (v := 0) C dX6_row_34 (by decide) ?_
        cases h
        exact aw_ret hE dX6_row_35
    · have h := bq_f q h
      refine aw_aload_n C 0 dX6_row_17 rfl ?_
      refine aw_iload_n C 2 dX6_row_18 rfl ?_
      obtain ⟨⟨v4, s5⟩, cw6, h⟩ := oC_e h
      have h := oL_e (x := s5) rfl (oL_e (x := v4) rfl h)
      refine aw_callVi (n := 1) (As := [.int x2]) (rest := []) (q0 := 1) C (c_X6_part hme s0 s5 x2 v4 cw6) lw_15_18 lw_15_19 lw_15_20 lw_2_1 lw_16_12 rfl rfl (by decide +kernel) ⟨by simp only [rm_X6_row, rm_X6_part]; omega, by simp only [rm_X6_row, rm_X6_part]; omega⟩ rfl rfl rfl rfl rfl (Nat.le_of_ble_eq_true rfl) dX6_row_19 ?_
      cases h
      exact aw_ret hE dX6_row_22
  · have h := bq_t q h
    refine aw_aload_n C 0 dX6_row_5 rfl ?_
    refine aw_iload_n C 2 dX6_row_6 rfl ?_
    obtain ⟨⟨v7, s8⟩, cw9, h⟩ := oC_e h
    have h := oL_e (x := s8) rfl (oL_e (x := v7) rfl h)
    refine aw_callVi (n := 1) (As := [.int x2]) (rest := []) (q0 := 1) C (c_X6_negated hme s0 s8 x2 v7 cw9) lw_15_15 lw_15_16 lw_15_17 lw_2_1 lw_16_11 rfl rfl (by decide +kernel) ⟨by simp only [rm_X6_row, rm_X6_negated]; omega, by simp only [rm_X6_row, rm_X6_negated]; omega⟩ rfl rfl rfl rfl rfl (Nat.le_of_ble_eq_true rfl) dX6_row_7 ?_
    cases h
    exact aw_ret hE dX6_row_10
def f_X6_row_o (me : St → Int32 → Int32 → Option (Int32 × St)) (s0 : St) (x1 : Int32) (x2 : Int32) : Option (Int32 × St) := oC (F_X6_row_0 me s0 x1 x2) fun w => oZ w.1 (some w)
def f_X6_row : Nat → St → Int32 → Int32 → Option (Int32 × St)
  | 0 => fun _ _ _ => none
  | d + 1 => f_X6_row_o (f_X6_row d)
theorem c_X6_row_o {l : Launch} {D : va_G} {N : Nm} {d : Nat} {me : St → Int32 → Int32 → Option (Int32 × St)} (hme : ∀ (s0 q1 : St) (x1 : Int32) (x2 : Int32) (r0 : Int32), me s0 x1 x2 = some (r0, q1) → Meti l yX6_row (tsU yX6_row cX6_row 6 (some .boolean)) (rm_X6_row d) D N [.ref (N.1 1), .int x1, .int x2] (wC N s0) r0 (wC N q1)) (s0 z1 : St) (x1 : Int32) (x2 : Int32) (r : Int32) (h : f_X6_row_o me s0 x1 x2 = some (r, z1)) : Meti l yX6_row (tsU yX6_row cX6_row 6 (some .boolean)) (rm_X6_row (d + 1)) D N [.ref (N.1 1), .int x1, .int x2] (wC N s0) r (wC N z1) := by
  obtain ⟨w, h1, h2⟩ := oC_e h
  obtain ⟨hz, h2⟩ := oZ_e h2
  cases h2
  exact met_z (cc := cX6_row) (nL := 6) (own := RX6) (by decide) rfl (Nat.le_of_ble_eq_true rfl) (zN hz) (fun p e s m args below meth c Q A C hE => aw_sub [0, 1, 2] rfl (T_X6_row_0 C hE hme s0 x1 x2 h1))
theorem c_X6_row (d : Nat) (l : Launch) (D : va_G) (N : Nm) : ∀ (s0 z1 : St) (x1 : Int32) (x2 : Int32) (r : Int32) (h : f_X6_row d s0 x1 x2 = some (r, z1)), Meti l yX6_row (tsU yX6_row cX6_row 6 (some .boolean)) (rm_X6_row d) D N [.ref (N.1 1), .int x1, .int x2] (wC N s0) r (wC N z1) := by
  induction d with
  | zero => intro s0 z1 x1 x2 r h; cases h
  | succ d ih => intro s0 z1 x1 x2 r h; exact c_X6_row_o (me := f_X6_row d) ih s0 z1 x1 x2 r h
/-! AwardLine$Reader.lineOfTerms()Z -/
def rm_X6_lineOfTerms : Room := { frames := 341, cells := 0, slots := 0, locals := 33025 }
def F_X6_lineOfTerms_59 (s0 : St) (t0 : Int32) : Option (Int32 × St) :=
  some (t0, s0)
set_option maxHeartbeats 4000000 in
set_option maxRecDepth 100000 in
theorem T_X6_lineOfTerms_59 {r : Int32} {z1 : St} (C : Cx p rm_X6_lineOfTerms s m args c D A cX6_lineOfTerms 1 RX6 rm_X6_lineOfTerms N) (hE : En p l e rm_X6_lineOfTerms s m args below meth c Q D A cX6_lineOfTerms .ireturn (wC N z1) [.int r])  (s0 : St) (t0 : Int32) (h : F_X6_lineOfTerms_59 s0 t0 = some (r, z1)) : Aw p l e rm_X6_lineOfTerms s m args below meth c Q D A 1 (wC N s0) 59 [] [.int t0] := by
  unfold F_X6_lineOfTerms_59 at h
  cases h
  exact aw_ret hE dX6_lineOfTerms_59
def F_X6_lineOfTerms_58 (s0 : St) : Option (Int32 × St) :=
  F_X6_lineOfTerms_59 s0 (0 : Int32)
set_option maxHeartbeats 4000000 in
set_option maxRecDepth 100000 in
theorem T_X6_lineOfTerms_58 {r : Int32} {z1 : St} (C : Cx p rm_X6_lineOfTerms s m args c D A cX6_lineOfTerms 1 RX6 rm_X6_lineOfTerms N) (hE : En p l e rm_X6_lineOfTerms s m args below meth c Q D A cX6_lineOfTerms .ireturn (wC N z1) [.int r])  (s0 : St) (h : F_X6_lineOfTerms_58 s0 = some (r, z1)) : Aw p l e rm_X6_lineOfTerms s m args below meth c Q D A 1 (wC N s0) 58 [] [] := by
  unfold F_X6_lineOfTerms_58 at h
  refine aw_iconst (v := 0) C dX6_lineOfTerms_58 (by decide) ?_
  refine aw_sub (lv' := []) [] rfl ?_
  exact T_X6_lineOfTerms_59 C hE s0 (0 : Int32) h
def F_X6_lineOfTerms_81 (s0 : St) (t0 : Int32) : Option (Int32 × St) :=
  some (t0, s0)
set_option maxHeartbeats 4000000 in
set_option maxRecDepth 100000 in
theorem T_X6_lineOfTerms_81 {r : Int32} {z1 : St} (C : Cx p rm_X6_lineOfTerms s m args c D A cX6_lineOfTerms 1 RX6 rm_X6_lineOfTerms N) (hE : En p l e rm_X6_lineOfTerms s m args below meth c Q D A cX6_lineOfTerms .ireturn (wC N z1) [.int r])  (s0 : St) (t0 : Int32) (h : F_X6_lineOfTerms_81 s0 t0 = some (r, z1)) : Aw p l e rm_X6_lineOfTerms s m args below meth c Q D A 1 (wC N s0) 81 [] [.int t0] := by
  unfold F_X6_lineOfTerms_81 at h
  cases h
  exact aw_ret hE dX6_lineOfTerms_81
def F_X6_lineOfTerms_80 (s0 : St) : Option (Int32 × St) :=
  F_X6_lineOfTerms_81 s0 (0 : Int32)
set_option maxHeartbeats 4000000 in
set_option maxRecDepth 100000 in
theorem T_X6_lineOfTerms_80 {r : Int32} {z1 : St} (C : Cx p rm_X6_lineOfTerms s m args c D A cX6_lineOfTerms 1 RX6 rm_X6_lineOfTerms N) (hE : En p l e rm_X6_lineOfTerms s m args below meth c Q D A cX6_lineOfTerms .ireturn (wC N z1) [.int r])  (s0 : St) (h : F_X6_lineOfTerms_80 s0 = some (r, z1)) : Aw p l e rm_X6_lineOfTerms s m args below meth c Q D A 1 (wC N s0) 80 [] [] := by
  unfold F_X6_lineOfTerms_80 at h
  refine aw_iconst (v := 0) C dX6_lineOfTerms_80 (by decide) ?_
  refine aw_sub (lv' := []) [] rfl ?_
  exact T_X6_lineOfTerms_81 C hE s0 (0 : Int32) h
def F_X6_lineOfTerms_101 (s0 : St) (t0 : Int32) : Option (Int32 × St) :=
  some (t0, s0)
set_option maxHeartbeats 4000000 in
set_option maxRecDepth 100000 in
theorem T_X6_lineOfTerms_101 {r : Int32} {z1 : St} (C : Cx p rm_X6_lineOfTerms s m args c D A cX6_lineOfTerms 1 RX6 rm_X6_lineOfTerms N) (hE : En p l e rm_X6_lineOfTerms s m args below meth c Q D A cX6_lineOfTerms .ireturn (wC N z1) [.int r])  (s0 : St) (t0 : Int32) (h : F_X6_lineOfTerms_101 s0 t0 = some (r, z1)) : Aw p l e rm_X6_lineOfTerms s m args below meth c Q D A 1 (wC N s0) 101 [] [.int t0] := by
  unfold F_X6_lineOfTerms_101 at h
  cases h
  exact aw_ret hE dX6_lineOfTerms_101
def F_X6_lineOfTerms_100 (s0 : St) : Option (Int32 × St) :=
  F_X6_lineOfTerms_101 s0 (0 : Int32)
set_option maxHeartbeats 4000000 in
set_option maxRecDepth 100000 in
theorem T_X6_lineOfTerms_100 {r : Int32} {z1 : St} (C : Cx p rm_X6_lineOfTerms s m args c D A cX6_lineOfTerms 1 RX6 rm_X6_lineOfTerms N) (hE : En p l e rm_X6_lineOfTerms s m args below meth c Q D A cX6_lineOfTerms .ireturn (wC N z1) [.int r])  (s0 : St) (h : F_X6_lineOfTerms_100 s0 = some (r, z1)) : Aw p l e rm_X6_lineOfTerms s m args below meth c Q D A 1 (wC N s0) 100 [] [] := by
  unfold F_X6_lineOfTerms_100 at h
  refine aw_iconst (v := 0) C dX6_lineOfTerms_100 (by decide) ?_
  refine aw_sub (lv' := []) [] rfl ?_
  exact T_X6_lineOfTerms_101 C hE s0 (0 : Int32) h
def F_X6_lineOfTerms_121 (s0 : St) (t0 : Int32) : Option (Int32 × St) :=
  some (t0, s0)
set_option maxHeartbeats 4000000 in
set_option maxRecDepth 100000 in
theorem T_X6_lineOfTerms_121 {r : Int32} {z1 : St} (C : Cx p rm_X6_lineOfTerms s m args c D A cX6_lineOfTerms 1 RX6 rm_X6_lineOfTerms N) (hE : En p l e rm_X6_lineOfTerms s m args below meth c Q D A cX6_lineOfTerms .ireturn (wC N z1) [.int r])  (s0 : St) (t0 : Int32) (h : F_X6_lineOfTerms_121 s0 t0 = some (r, z1)) : Aw p l e rm_X6_lineOfTerms s m args below meth c Q D A 1 (wC N s0) 121 [] [.int t0] := by
  unfold F_X6_lineOfTerms_121 at h
  cases h
  exact aw_ret hE dX6_lineOfTerms_121
def F_X6_lineOfTerms_120 (s0 : St) : Option (Int32 × St) :=
  F_X6_lineOfTerms_121 s0 (0 : Int32)
set_option maxHeartbeats 4000000 in
set_option maxRecDepth 100000 in
theorem T_X6_lineOfTerms_120 {r : Int32} {z1 : St} (C : Cx p rm_X6_lineOfTerms s m args c D A cX6_lineOfTerms 1 RX6 rm_X6_lineOfTerms N) (hE : En p l e rm_X6_lineOfTerms s m args below meth c Q D A cX6_lineOfTerms .ireturn (wC N z1) [.int r])  (s0 : St) (h : F_X6_lineOfTerms_120 s0 = some (r, z1)) : Aw p l e rm_X6_lineOfTerms s m args below meth c Q D A 1 (wC N s0) 120 [] [] := by
  unfold F_X6_lineOfTerms_120 at h
  refine aw_iconst (v := 0) C dX6_lineOfTerms_120 (by decide) ?_
  refine aw_sub (lv' := []) [] rfl ?_
  exact T_X6_lineOfTerms_121 C hE s0 (0 : Int32) h
def F_X6_lineOfTerms_0 (s0 : St) : Option (Int32 × St) :=
  if (s0.1 6) = 0 then (
    oC (f_X6_once s0) fun w3 =>
    oL w3.1 fun v1 => oL w3.2 fun s2 =>
    if v1 = 0 then (
      F_X6_lineOfTerms_58 s2)
    else (
      oC (f_X6_unitLine s2) fun w6 =>
      oL w6.1 fun v4 => oL w6.2 fun s5 =>
      if v4 = 0 then (
        F_X6_lineOfTerms_58 s5)
      else (
        F_X6_lineOfTerms_59 s5 (1 : Int32))))
  else (
  if (s0.1 6) = 1 then (
    oC (f_X6_once s0) fun w9 =>
    oL w9.1 fun v7 => oL w9.2 fun s8 =>
    if v7 = 0 then (
      F_X6_lineOfTerms_80 s8)
    else (
      oC (f_X6_row 80 s8 (0 : Int32) (0 : Int32)) fun w12 =>
      oL w12.1 fun v10 => oL w12.2 fun s11 =>
      if v10 = 0 then (
        F_X6_lineOfTerms_80 s11)
      else (
        F_X6_lineOfTerms_81 s11 (1 : Int32))))
  else (
  if (s0.1 6) = 2 then (
    oC (f_X6_once s0) fun w15 =>
    oL w15.1 fun v13 => oL w15.2 fun s14 =>
    if v13 = 0 then (
      F_X6_lineOfTerms_100 s14)
    else (
      oC (f_X6_fearLine s14) fun w18 =>
      oL w18.1 fun v16 => oL w18.2 fun s17 =>
      if v16 = 0 then (
        F_X6_lineOfTerms_100 s17)
      else (
        F_X6_lineOfTerms_101 s17 (1 : Int32))))
  else (
  if (s0.1 6) = 3 then (
    oC (f_X6_once s0) fun w21 =>
    oL w21.1 fun v19 => oL w21.2 fun s20 =>
    if v19 = 0 then (
      F_X6_lineOfTerms_120 s20)
    else (
      oC (f_X6_loseLine s20) fun w24 =>
      oL w24.1 fun v22 => oL w24.2 fun s23 =>
      if v22 = 0 then (
        F_X6_lineOfTerms_120 s23)
      else (
        F_X6_lineOfTerms_121 s23 (1 : Int32))))
  else (
  if (s0.1 6) = 4 then (
    oC (f_X6_advance s0) fun w27 =>
    oL w27 fun s26 =>
    oC (f_X6_weighLine s26) fun w30 =>
    oL w30.1 fun v28 => oL w30.2 fun s29 =>
    some (v28, s29))
  else (
    oC (f_X6_refuse s0 (1 : Int32)) fun w33 =>
    oL w33.1 fun v31 => oL w33.2 fun s32 =>
    some (v31, s32))))))
set_option maxHeartbeats 4000000 in
set_option maxRecDepth 100000 in
theorem T_X6_lineOfTerms_0 {r : Int32} {z1 : St} (C : Cx p rm_X6_lineOfTerms s m args c D A cX6_lineOfTerms 1 RX6 rm_X6_lineOfTerms N) (hE : En p l e rm_X6_lineOfTerms s m args below meth c Q D A cX6_lineOfTerms .ireturn (wC N z1) [.int r])  (s0 : St) (h : F_X6_lineOfTerms_0 s0 = some (r, z1)) : Aw p l e rm_X6_lineOfTerms s m args below meth c Q D A 1 (wC N s0) 0 [(0, .ref (N.1 1))] [] := by
  unfold F_X6_lineOfTerms_0 at h
  refine aw_aload_n C 0 dX6_lineOfTerms_0 rfl ?_
  refine cg_rd_token C lw_11_7 dX6_lineOfTerms_1 ?_
  by_cases q0 : (s0.1 6) = (0 : Int32)
  · have h := bq_t q0 h
    refine aw_table (tgt := 40) C 36 dX6_lineOfTerms_4 (by rw [q0]; decide) (by rw [q0]; decide) (by rw [q0]; decide) (by decide) ?_
    refine aw_aload_n C 0 dX6_lineOfTerms_40 rfl ?_
    obtain ⟨⟨v1, s2⟩, cw3, h⟩ := oC_e h
    have h := oL_e (x := s2) rfl (oL_e (x := v1) rfl h)
    refine aw_callVi (n := 0) (As := []) (rest := []) (q0 := 1) C (c_X6_once l D N s0 s2 v1 cw3) lw_14_22 lw_14_23 lw_15_0 lw_2_1 lw_15_1 rfl rfl (by decide +kernel) ⟨Nat.le_of_ble_eq_true rfl, Nat.le_of_ble_eq_true rfl⟩ rfl rfl rfl rfl rfl (Nat.le_of_ble_eq_true rfl) dX6_lineOfTerms_41 ?_
    refine aw_if_eq (tgt := 58) C dX6_lineOfTerms_44 (by decide) (fun q => ?_) (fun q => ?_)
    · have h := bq_t q h
      refine aw_sub (lv' := []) [] rfl ?_
      exact T_X6_lineOfTerms_58 C hE s2 h
    · have h := bq_f q h
      refine aw_aload_n C 0 dX6_lineOfTerms_47 rfl ?_
      obtain ⟨⟨v4, s5⟩, cw6, h⟩ := oC_e h
      have h := oL_e (x := s5) rfl (oL_e (x := v4) rfl h)
      refine aw_callVi (n := 0) (As := []) (rest := []) (q0 := 1) C (c_X6_unitLine l D N s2 s5 v4 cw6) lw_15_6 lw_15_7 lw_15_8 lw_2_1 lw_15_9 rfl rfl (by decide +kernel) ⟨Nat.le_of_ble_eq_true rfl, Nat.le_of_ble_eq_true rfl⟩ rfl rfl rfl rfl rfl (Nat.le_of_ble_eq_true rfl) dX6_lineOfTerms_48 ?_
      refine aw_if_eq (tgt := 58) C dX6_lineOfTerms_51 (by decide) (fun q => ?_) (fun q => ?_)
      · have h := bq_t q h
        refine aw_sub (lv' := []) [] rfl ?_
        exact T_X6_lineOfTerms_58 C hE s5 h
      · have h := bq_f q h
        refine aw_iconst (v := 1) C dX6_lineOfTerms_54 (by decide) ?_
        refine aw_goto (tgt := 59) C dX6_lineOfTerms_55 (by decide) ?_
        refine aw_sub (lv' := []) [] rfl ?_
        exact T_X6_lineOfTerms_59 C hE s5 (1 : Int32) h
  have h := bq_f q0 h
  by_cases q1 : (s0.1 6) = (1 : Int32)
  · have h := bq_t q1 h
    refine aw_table (tgt := 60) C 56 dX6_lineOfTerms_4 (by rw [q1]; decide) (by rw [q1]; decide) (by rw [q1]; decide) (by decide) ?_
    refine aw_aload_n C 0 dX6_lineOfTerms_60 rfl ?_
    obtain ⟨⟨v7, s8⟩, cw9, h⟩ := oC_e h
    have h := oL_e (x := s8) rfl (oL_e (x := v7) rfl h)
    refine aw_callVi (n := 0) (As := []) (rest := []) (q0 := 1) C (c_X6_once l D N s0 s8 v7 cw9) lw_14_22 lw_14_23 lw_15_0 lw_2_1 lw_15_1 rfl rfl (by decide +kernel) ⟨Nat.le_of_ble_eq_true rfl, Nat.le_of_ble_eq_true rfl⟩ rfl rfl rfl rfl rfl (Nat.le_of_ble_eq_true rfl) dX6_lineOfTerms_61 ?_
    refine aw_if_eq (tgt := 80) C dX6_lineOfTerms_64 (by decide) (fun q => ?_) (fun q => ?_)
    · have h := bq_t q h
      refine aw_sub (lv' := []) [] rfl ?_
      exact T_X6_lineOfTerms_80 C hE s8 h
    · have h := bq_f q h
      refine aw_aload_n C 0 dX6_lineOfTerms_67 rfl ?_
      refine aw_iconst (v := 0) C dX6_lineOfTerms_68 (by decide) ?_
      refine aw_iconst (v := 0) C dX6_lineOfTerms_69 (by decide) ?_
      obtain ⟨⟨v10, s11⟩, cw12, h⟩ := oC_e h
      have h := oL_e (x := s11) rfl (oL_e (x := v10) rfl h)
      refine aw_callVi (n := 2) (As := [.int (0 : Int32), .int (0 : Int32)]) (rest := []) (q0 := 1) C (c_X6_row 80 l D N s8 s11 (0 : Int32) (0 : Int32) v10 cw12) lw_15_11 lw_15_12 lw_15_13 lw_2_1 lw_15_14 rfl rfl (by decide +kernel) ⟨Nat.le_of_ble_eq_true rfl, Nat.le_of_ble_eq_true rfl⟩ rfl rfl rfl rfl rfl (Nat.le_of_ble_eq_true rfl) dX6_lineOfTerms_70 ?_
      refine aw_if_eq (tgt := 80) C dX6_lineOfTerms_73 (by decide) (fun q => ?_) (fun q => ?_)
      · have h := bq_t q h
        refine aw_sub (lv' := []) [] rfl ?_
        exact T_X6_lineOfTerms_80 C hE s11 h
      · have h := bq_f q h
        refine aw_iconst (v := 1) C dX6_lineOfTerms_76 (by decide) ?_
        refine aw_goto (tgt := 81) C dX6_lineOfTerms_77 (by decide) ?_
        refine aw_sub (lv' := []) [] rfl ?_
        exact T_X6_lineOfTerms_81 C hE s11 (1 : Int32) h
  have h := bq_f q1 h
  by_cases q2 : (s0.1 6) = (2 : Int32)
  · have h := bq_t q2 h
    refine aw_table (tgt := 82) C 78 dX6_lineOfTerms_4 (by rw [q2]; decide) (by rw [q2]; decide) (by rw [q2]; decide) (by decide) ?_
    refine aw_aload_n C 0 dX6_lineOfTerms_82 rfl ?_
    obtain ⟨⟨v13, s14⟩, cw15, h⟩ := oC_e h
    have h := oL_e (x := s14) rfl (oL_e (x := v13) rfl h)
    refine aw_callVi (n := 0) (As := []) (rest := []) (q0 := 1) C (c_X6_once l D N s0 s14 v13 cw15) lw_14_22 lw_14_23 lw_15_0 lw_2_1 lw_15_1 rfl rfl (by decide +kernel) ⟨Nat.le_of_ble_eq_true rfl, Nat.le_of_ble_eq_true rfl⟩ rfl rfl rfl rfl rfl (Nat.le_of_ble_eq_true rfl) dX6_lineOfTerms_83 ?_
    refine aw_if_eq (tgt := 100) C dX6_lineOfTerms_86 (by decide) (fun q => ?_) (fun q => ?_)
    · have h := bq_t q h
      refine aw_sub (lv' := []) [] rfl ?_
      exact T_X6_lineOfTerms_100 C hE s14 h
    · have h := bq_f q h
      refine aw_aload_n C 0 dX6_lineOfTerms_89 rfl ?_
      obtain ⟨⟨v16, s17⟩, cw18, h⟩ := oC_e h
      have h := oL_e (x := s17) rfl (oL_e (x := v16) rfl h)
      refine aw_callVi (n := 0) (As := []) (rest := []) (q0 := 1) C (c_X6_fearLine l D N s14 s17 v16 cw18) lw_16_17 lw_16_18 lw_16_19 lw_2_1 lw_16_20 rfl rfl (by decide +kernel) ⟨Nat.le_of_ble_eq_true rfl, Nat.le_of_ble_eq_true rfl⟩ rfl rfl rfl rfl rfl (Nat.le_of_ble_eq_true rfl) dX6_lineOfTerms_90 ?_
      refine aw_if_eq (tgt := 100) C dX6_lineOfTerms_93 (by decide) (fun q => ?_) (fun q => ?_)
      · have h := bq_t q h
        refine aw_sub (lv' := []) [] rfl ?_
        exact T_X6_lineOfTerms_100 C hE s17 h
      · have h := bq_f q h
        refine aw_iconst (v := 1) C dX6_lineOfTerms_96 (by decide) ?_
        refine aw_goto (tgt := 101) C dX6_lineOfTerms_97 (by decide) ?_
        refine aw_sub (lv' := []) [] rfl ?_
        exact T_X6_lineOfTerms_101 C hE s17 (1 : Int32) h
  have h := bq_f q2 h
  by_cases q3 : (s0.1 6) = (3 : Int32)
  · have h := bq_t q3 h
    refine aw_table (tgt := 102) C 98 dX6_lineOfTerms_4 (by rw [q3]; decide) (by rw [q3]; decide) (by rw [q3]; decide) (by decide) ?_
    refine aw_aload_n C 0 dX6_lineOfTerms_102 rfl ?_
    obtain ⟨⟨v19, s20⟩, cw21, h⟩ := oC_e h
    have h := oL_e (x := s20) rfl (oL_e (x := v19) rfl h)
    refine aw_callVi (n := 0) (As := []) (rest := []) (q0 := 1) C (c_X6_once l D N s0 s20 v19 cw21) lw_14_22 lw_14_23 lw_15_0 lw_2_1 lw_15_1 rfl rfl (by decide +kernel) ⟨Nat.le_of_ble_eq_true rfl, Nat.le_of_ble_eq_true rfl⟩ rfl rfl rfl rfl rfl (Nat.le_of_ble_eq_true rfl) dX6_lineOfTerms_103 ?_
    refine aw_if_eq (tgt := 120) C dX6_lineOfTerms_106 (by decide) (fun q => ?_) (fun q => ?_)
    · have h := bq_t q h
      refine aw_sub (lv' := []) [] rfl ?_
      exact T_X6_lineOfTerms_120 C hE s20 h
    · have h := bq_f q h
      refine aw_aload_n C 0 dX6_lineOfTerms_109 rfl ?_
      obtain ⟨⟨v22, s23⟩, cw24, h⟩ := oC_e h
      have h := oL_e (x := s23) rfl (oL_e (x := v22) rfl h)
      refine aw_callVi (n := 0) (As := []) (rest := []) (q0 := 1) C (c_X6_loseLine l D N s20 s23 v22 cw24) lw_17_3 lw_17_4 lw_17_5 lw_2_1 lw_17_6 rfl rfl (by decide +kernel) ⟨Nat.le_of_ble_eq_true rfl, Nat.le_of_ble_eq_true rfl⟩ rfl rfl rfl rfl rfl (Nat.le_of_ble_eq_true rfl) dX6_lineOfTerms_110 ?_
      refine aw_if_eq (tgt := 120) C dX6_lineOfTerms_113 (by decide) (fun q => ?_) (fun q => ?_)
      · have h := bq_t q h
        refine aw_sub (lv' := []) [] rfl ?_
        exact T_X6_lineOfTerms_120 C hE s23 h
      · have h := bq_f q h
        refine aw_iconst (v := 1) C dX6_lineOfTerms_116 (by decide) ?_
        refine aw_goto (tgt := 121) C dX6_lineOfTerms_117 (by decide) ?_
        refine aw_sub (lv' := []) [] rfl ?_
        exact T_X6_lineOfTerms_121 C hE s23 (1 : Int32) h
  have h := bq_f q3 h
  by_cases q4 : (s0.1 6) = (4 : Int32)
  · have h := bq_t q4 h
    refine aw_table (tgt := 122) C 118 dX6_lineOfTerms_4 (by rw [q4]; decide) (by rw [q4]; decide) (by rw [q4]; decide) (by decide) ?_
    refine aw_aload_n C 0 dX6_lineOfTerms_122 rfl ?_
    obtain ⟨s26, cw27, h⟩ := oC_e h
    have h := oL_e (x := s26) rfl h
    refine aw_callVv (n := 0) (As := []) (rest := []) (q0 := 1) C (c_X6_advance l D N s0 s26 cw27) lw_11_9 lw_11_10 lw_11_11 lw_2_1 lw_11_12 rfl rfl (by decide +kernel) ⟨Nat.le_of_ble_eq_true rfl, Nat.le_of_ble_eq_true rfl⟩ rfl rfl rfl rfl rfl (Nat.le_of_ble_eq_true rfl) dX6_lineOfTerms_123 ?_
    refine aw_aload_n C 0 dX6_lineOfTerms_126 rfl ?_
    obtain ⟨⟨v28, s29⟩, cw30, h⟩ := oC_e h
    have h := oL_e (x := s29) rfl (oL_e (x := v28) rfl h)
    refine aw_callVi (n := 0) (As := []) (rest := []) (q0 := 1) C (c_X6_weighLine l D N s26 s29 v28 cw30) lw_17_8 lw_17_9 lw_17_10 lw_2_1 lw_17_11 rfl rfl (by decide +kernel) ⟨Nat.le_of_ble_eq_true rfl, Nat.le_of_ble_eq_true rfl⟩ rfl rfl rfl rfl rfl (Nat.le_of_ble_eq_true rfl) dX6_lineOfTerms_127 ?_
    cases h
    exact aw_ret hE dX6_lineOfTerms_130
  have h := bq_f q4 h
  refine aw_tableO (tgt := 131) C dX6_lineOfTerms_4 (by have n0 := sw_ne (k := 0) (by decide) q0; have n1 := sw_ne (k := 1) (by decide) q1; have n2 := sw_ne (k := 2) (by decide) q2; have n3 := sw_ne (k := 3) (by decide) q3; have n4 := sw_ne (k := 4) (by decide) q4; omega) (by decide) ?_
  refine aw_aload_n C 0 dX6_lineOfTerms_131 rfl ?_
  refine aw_iconst (v := 1) C dX6_lineOfTerms_132 (by decide) ?_
  obtain ⟨⟨v31, s32⟩, cw33, h⟩ := oC_e h
  have h := oL_e (x := s32) rfl (oL_e (x := v31) rfl h)
  refine aw_callVi (n := 1) (As := [.int (1 : Int32)]) (rest := []) (q0 := 1) C (c_X6_refuse l D N s0 s32 (1 : Int32) v31 cw33) lw_15_2 lw_15_3 lw_15_4 lw_2_1 lw_15_5 rfl rfl (by decide +kernel) ⟨Nat.le_of_ble_eq_true rfl, Nat.le_of_ble_eq_true rfl⟩ rfl rfl rfl rfl rfl (Nat.le_of_ble_eq_true rfl) dX6_lineOfTerms_133 ?_
  cases h
  exact aw_ret hE dX6_lineOfTerms_136
def f_X6_lineOfTerms (s0 : St) : Option (Int32 × St) := oC (F_X6_lineOfTerms_0 s0) fun w => oZ w.1 (some w)
theorem c_X6_lineOfTerms (l : Launch) (D : va_G) (N : Nm) (s0 z1 : St) (r : Int32) (h : f_X6_lineOfTerms s0 = some (r, z1)) : Meti l yX6_lineOfTerms (tsU yX6_lineOfTerms cX6_lineOfTerms 1 (some .boolean)) rm_X6_lineOfTerms D N [.ref (N.1 1)] (wC N s0) r (wC N z1) := by
  obtain ⟨w, h1, h2⟩ := oC_e h
  obtain ⟨hz, h2⟩ := oZ_e h2
  cases h2
  exact met_z (cc := cX6_lineOfTerms) (nL := 1) (own := RX6) (by decide) rfl (Nat.le_of_ble_eq_true rfl) (zN hz) (fun p e s m args below meth c Q A C hE => aw_sub [0] rfl (T_X6_lineOfTerms_0 C hE s0 h1))
/-! AwardLine$Reader.read(ILAwardLine$Terms;)I -/
def rm_X6_read : Room := { frames := 342, cells := 0, slots := 0, locals := 33045 }
def F_X6_read_99 (s0 : St) (x3 : Int32) : Option (Int32 × St) :=
  some (x3, s0)
set_option maxHeartbeats 4000000 in
set_option maxRecDepth 100000 in
theorem T_X6_read_99 {r : Int32} {z1 : St} (C : Cx p rm_X6_read s m args c D A cX6_read 4 RX6 rm_X6_read N) (hE : En p l e rm_X6_read s m args below meth c Q D A cX6_read .ireturn (wC N z1) [.int r])  (s0 : St) (x3 : Int32) (h : F_X6_read_99 s0 x3 = some (r, z1)) : Aw p l e rm_X6_read s m args below meth c Q D A 4 (wC N s0) 99 [(3, .int x3)] [] := by
  unfold F_X6_read_99 at h
  refine aw_iload_n C 0 dX6_read_99 rfl ?_
  cases h
  exact aw_ret hE dX6_read_100
def F_X6_read_91 (s0 : St) : Option (Int32 × St) :=
  some ((-1 : Int32), s0)
set_option maxHeartbeats 4000000 in
set_option maxRecDepth 100000 in
theorem T_X6_read_91 {r : Int32} {z1 : St} (C : Cx p rm_X6_read s m args c D A cX6_read 4 RX6 rm_X6_read N) (hE : En p l e rm_X6_read s m args below meth c Q D A cX6_read .ireturn (wC N z1) [.int r])  (s0 : St) (h : F_X6_read_91 s0 = some (r, z1)) : Aw p l e rm_X6_read s m args below meth c Q D A 4 (wC N s0) 91 [] [] := by
  unfold F_X6_read_91 at h
  refine aw_iconst (v := -1) C dX6_read_91 (by decide) ?_
  cases h
  exact aw_ret hE dX6_read_92
def F_X6_read_60_b (k60 : St → Int32 → Option (Int32 × St)) (s0 : St) (x3 : Int32) : Option (Int32 × St) :=
  if (7 : Int32) < x3 then (
    F_X6_read_99 s0 x3)
  else (
    if (s0.1 6) = (34 : Int32) then (
      F_X6_read_99 s0 x3)
    else (
      oC (f_X6_lineOfTerms s0) fun w3 =>
      oL w3.1 fun v1 => oL w3.2 fun s2 =>
      if v1 = 0 then (
        F_X6_read_91 s2)
      else (
        oC (f_X6_pass s2 (33 : Int32)) fun w6 =>
        oL w6.1 fun v4 => oL w6.2 fun s5 =>
        if v4 = 0 then (
          F_X6_read_91 s5)
        else (
          oL (x3 + (1 : Int32)) fun y7 =>
          k60 s5 y7))))
set_option maxHeartbeats 4000000 in
set_option maxRecDepth 100000 in
theorem T_X6_read_60_b {r : Int32} {z1 : St} {k60 : St → Int32 → Option (Int32 × St)} (C : Cx p rm_X6_read s m args c D A cX6_read 4 RX6 rm_X6_read N) (hE : En p l e rm_X6_read s m args below meth c Q D A cX6_read .ireturn (wC N z1) [.int r]) (hk60 : ∀ (s0 : St) (x3 : Int32), k60 s0 x3 = some (r, z1) → Aw p l e rm_X6_read s m args below meth c Q D A 4 (wC N s0) 60 [(0, .ref (N.1 1)), (3, .int x3)] []) (s0 : St) (x3 : Int32) (h : F_X6_read_60_b k60 s0 x3 = some (r, z1)) : Aw p l e rm_X6_read s m args below meth c Q D A 4 (wC N s0) 60 [(0, .ref (N.1 1)), (3, .int x3)] [] := by
  unfold F_X6_read_60_b at h
  refine aw_iload_n C 1 dX6_read_60 rfl ?_
  refine aw_bipush (v := 7) C dX6_read_61 (by decide) ?_
  refine aw_icmp_gt (tgt := 99) C dX6_read_63 (by decide) (fun q => ?_) (fun q => ?_)
  · have h := bq_t q h
    refine aw_sub (lv' := [(3, .int x3)]) [1] rfl ?_
    exact T_X6_read_99 C hE s0 x3 h
  · have h := bq_f q h
    refine aw_aload_n C 0 dX6_read_66 rfl ?_
    refine cg_rd_token C lw_11_7 dX6_read_67 ?_
    refine aw_bipush (v := 34) C dX6_read_70 (by decide) ?_
    refine aw_icmp_eq (tgt := 99) C dX6_read_72 (by decide) (fun q => ?_) (fun q => ?_)
    · have h := bq_t q h
      refine aw_sub (lv' := [(3, .int x3)]) [1] rfl ?_
      exact T_X6_read_99 C hE s0 x3 h
    · have h := bq_f q h
      refine aw_aload_n C 0 dX6_read_75 rfl ?_
      obtain ⟨⟨v1, s2⟩, cw3, h⟩ := oC_e h
      have h := oL_e (x := s2) rfl (oL_e (x := v1) rfl h)
      refine aw_callVi (n := 0) (As := []) (rest := []) (q0 := 1) C (c_X6_lineOfTerms l D N s0 s2 v1 cw3) lw_14_18 lw_14_19 lw_14_20 lw_2_1 lw_14_21 rfl rfl (by decide +kernel) ⟨Nat.le_of_ble_eq_true rfl, Nat.le_of_ble_eq_true rfl⟩ rfl rfl rfl rfl rfl (Nat.le_of_ble_eq_true rfl) dX6_read_76 ?_
      refine aw_if_eq (tgt := 91) C dX6_read_79 (by decide) (fun q => ?_) (fun q => ?_)
      · have h := bq_t q h
        refine aw_sub (lv' := []) [] rfl ?_
        exact T_X6_read_91 C hE s2 h
      · have h := bq_f q h
        refine aw_aload_n C 0 dX6_read_82 rfl ?_
        refine aw_bipush (v := 33) C dX6_read_83 (by decide) ?_
        obtain ⟨⟨v4, s5⟩, cw6, h⟩ := oC_e h
        have h := oL_e (x := s5) rfl (oL_e (x := v4) rfl h)
        refine aw_callVi (n := 1) (As := [.int (33 : Int32)]) (rest := []) (q0 := 1) C (c_X6_pass l D N s2 s5 (33 : Int32) v4 cw6) lw_16_13 lw_16_14 lw_16_15 lw_2_1 lw_16_16 rfl rfl (by decide +kernel) ⟨Nat.le_of_ble_eq_true rfl, Nat.le_of_ble_eq_true rfl⟩ rfl rfl rfl rfl rfl (Nat.le_of_ble_eq_true rfl) dX6_read_85 ?_
        refine aw_if_ne (tgt := 93) C dX6_read_88 (by decide) (fun q => ?_) (fun q => ?_)
        · have h := bq_f q h
          obtain ⟨y7, ey7⟩ : ∃ q : Int32, q = x3 + (1 : Int32) := ⟨_, rfl⟩
          have h := oL_e ey7 h
          refine aw_iinc (v := y7) (k := 1) (lv' := [(0, .ref (N.1 1)), (3, .int y7)]) C [1, 0] dX6_read_93 rfl (by rw [ey7]; rfl) (by decide) rfl ?_
          refine aw_goto (tgt := 60) C dX6_read_96 (by decide) ?_
          refine aw_sub (lv' := [(0, .ref (N.1 1)), (3, .int y7)]) [0, 1] rfl ?_
          exact hk60 s5 y7 h
        · have h := bq_t q h
          refine aw_sub (lv' := []) [] rfl ?_
          exact T_X6_read_91 C hE s5 h
def F_X6_read_60 : Nat → St → Int32 → Option (Int32 × St)
  | 0 => fun _ _ => none
  | n + 1 => F_X6_read_60_b (F_X6_read_60 n)
theorem T_X6_read_60 {r : Int32} {z1 : St} (C : Cx p rm_X6_read s m args c D A cX6_read 4 RX6 rm_X6_read N) (hE : En p l e rm_X6_read s m args below meth c Q D A cX6_read .ireturn (wC N z1) [.int r])  : ∀ (n : Nat) (s0 : St) (x3 : Int32), F_X6_read_60 n s0 x3 = some (r, z1) → Aw p l e rm_X6_read s m args below meth c Q D A 4 (wC N s0) 60 [(0, .ref (N.1 1)), (3, .int x3)] [] := by
  intro n
  induction n with
  | zero => intro s0 x3 h; cases h
  | succ n ih => intro s0 x3 h; exact T_X6_read_60_b C hE ih s0 x3 h
def F_X6_read_0 (s0 : St) (x1 : Int32) : Option (Int32 × St) :=
  oL (sI s0 12 2) fun s1 =>
  oT (s1.1 12) <|
  oC (f_X8_clear s1) fun w5 =>
  oL w5 fun s4 =>
  oL (sI s4 4 (jmin x1 (s4.1 1))) fun s6 =>
  oL (sI s6 5 (0 : Int32)) fun s7 =>
  oL (sI s7 2 (0 : Int32)) fun s8 =>
  oL (sI s8 3 (-1 : Int32)) fun s9 =>
  oL (sI s9 10 (0 : Int32)) fun s10 =>
  oL (sI s10 11 (0 : Int32)) fun s11 =>
  oL (sI s11 1 (0 : Int32)) fun s12 =>
  oC (f_X6_advance s12) fun w15 =>
  oL w15 fun s14 =>
  oL (0 : Int32) fun y16 =>
  F_X6_read_60 100000 s14 y16
set_option maxHeartbeats 4000000 in
set_option maxRecDepth 100000 in
theorem T_X6_read_0 {r : Int32} {z1 : St} (C : Cx p rm_X6_read s m args c D A cX6_read 4 RX6 rm_X6_read N) (hE : En p l e rm_X6_read s m args below meth c Q D A cX6_read .ireturn (wC N z1) [.int r])  (s0 : St) (x1 : Int32) (h : F_X6_read_0 s0 x1 = some (r, z1)) : Aw p l e rm_X6_read s m args below meth c Q D A 4 (wC N s0) 0 [(0, .ref (N.1 1)), (1, .int x1), (2, .ref (N.1 3))] [] := by
  unfold F_X6_read_0 at h
  refine aw_aload_n C 0 dX6_read_0 rfl ?_
  refine aw_aload_n C 2 dX6_read_1 rfl ?_
  refine cp_rd_into C lw_10_21 dX6_read_2 ?_
  refine ca_name (fun s1 es1 => ?_)
  have h := oL_e es1 h
  refine aw_aload_n C 0 dX6_read_5 rfl ?_
  obtain ⟨q2, h⟩ := oT_e h
  refine cg_rd_into C lw_10_21 dX6_read_6 ?_
  refine aw_into q2 ?_
  obtain ⟨s4, cw5, h⟩ := oC_e h
  have h := oL_e (x := s4) rfl h
  refine aw_callVv (n := 0) (As := []) (rest := []) (q0 := 3) C (c_X8_clear l D N s1 s4 cw5) lw_11_8 lw_5_19 lw_5_20 lw_2_5 lw_5_21 rfl rfl (by decide +kernel) ⟨Nat.le_of_ble_eq_true rfl, Nat.le_of_ble_eq_true rfl⟩ rfl rfl rfl rfl rfl (Nat.le_of_ble_eq_true rfl) dX6_read_9 ?_
  refine aw_aload_n C 0 dX6_read_12 rfl ?_
  refine aw_iload_n C 1 dX6_read_13 rfl ?_
  refine aw_aload_n C 0 dX6_read_14 rfl ?_
  refine cg_rd_held C lw_10_2 dX6_read_15 ?_
  refine aw_mmin C lw_10_22 lw_10_23 (by decide +kernel) lw_11_1 (Nat.le_of_ble_eq_true rfl) (Nat.le_of_ble_eq_true rfl) dX6_read_18 ?_
  refine cp_rd_length C lw_11_2 dX6_read_21 ?_
  refine ca_name (fun s6 es6 => ?_)
  have h := oL_e es6 h
  refine aw_aload_n C 0 dX6_read_24 rfl ?_
  refine aw_iconst (v := 0) C dX6_read_25 (by decide) ?_
  refine cp_rd_at C lw_11_3 dX6_read_26 ?_
  refine ca_name (fun s7 es7 => ?_)
  have h := oL_e es7 h
  refine aw_aload_n C 0 dX6_read_29 rfl ?_
  refine aw_iconst (v := 0) C dX6_read_30 (by decide) ?_
  refine cp_rd_fault C lw_11_4 dX6_read_31 ?_
  refine ca_name (fun s8 es8 => ?_)
  have h := oL_e es8 h
  refine aw_aload_n C 0 dX6_read_34 rfl ?_
  refine aw_iconst (v := -1) C dX6_read_35 (by decide) ?_
  refine cp_rd_faultPlace C lw_5_9 dX6_read_36 ?_
  refine ca_name (fun s9 es9 => ?_)
  have h := oL_e es9 h
  refine aw_aload_n C 0 dX6_read_39 rfl ?_
  refine aw_iconst (v := 0) C dX6_read_40 (by decide) ?_
  refine cp_rd_knotsRead C lw_11_5 dX6_read_41 ?_
  refine ca_name (fun s10 es10 => ?_)
  have h := oL_e es10 h
  refine aw_aload_n C 0 dX6_read_44 rfl ?_
  refine aw_iconst (v := 0) C dX6_read_45 (by decide) ?_
  refine cp_rd_linesTold C lw_11_6 dX6_read_46 ?_
  refine ca_name (fun s11 es11 => ?_)
  have h := oL_e es11 h
  refine aw_aload_n C 0 dX6_read_49 rfl ?_
  refine aw_iconst (v := 0) C dX6_read_50 (by decide) ?_
  refine cp_rd_held C lw_10_2 dX6_read_51 ?_
  refine ca_name (fun s12 es12 => ?_)
  have h := oL_e es12 h
  refine aw_aload_n C 0 dX6_read_54 rfl ?_
  obtain ⟨s14, cw15, h⟩ := oC_e h
  have h := oL_e (x := s14) rfl h
  refine aw_callVv (n := 0) (As := []) (rest := []) (q0 := 1) C (c_X6_advance l D N s12 s14 cw15) lw_11_9 lw_11_10 lw_11_11 lw_2_1 lw_11_12 rfl rfl (by decide +kernel) ⟨Nat.le_of_ble_eq_true rfl, Nat.le_of_ble_eq_true rfl⟩ rfl rfl rfl rfl rfl (Nat.le_of_ble_eq_true rfl) dX6_read_55 ?_
  refine aw_iconst (v := 0) C dX6_read_58 (by decide) ?_
  refine aw_topi (fun y16 ey16 => ?_)
  have h := oL_e ey16 h
  refine aw_istore_n (lv' := [(0, .ref (N.1 1)), (1, .int x1), (2, .ref (N.1 3)), (3, .int y16)]) C [1, 2, 3, 0] dX6_read_59 rfl (by decide) rfl ?_
  refine aw_sub (lv' := [(0, .ref (N.1 1)), (3, .int y16)]) [0, 3] rfl ?_
  exact T_X6_read_60 C hE 100000 s14 y16 h
def f_X6_read (s0 : St) (x1 : Int32) : Option (Int32 × St) := F_X6_read_0 s0 x1
theorem c_X6_read (l : Launch) (D : va_G) (N : Nm) (s0 z1 : St) (x1 : Int32) (r : Int32) (h : f_X6_read s0 x1 = some (r, z1)) : Meti l yX6_read (tsU yX6_read cX6_read 4 (some .int)) rm_X6_read D N [.ref (N.1 1), .int x1, .ref (N.1 3)] (wC N s0) r (wC N z1) :=
  met_i (cc := cX6_read) (nL := 4) (own := RX6) (by decide) rfl (Nat.le_of_ble_eq_true rfl) (fun p e s m args below meth c Q A C hE => aw_sub [0, 1, 2] rfl (T_X6_read_0 C hE s0 x1 h))
end WK
