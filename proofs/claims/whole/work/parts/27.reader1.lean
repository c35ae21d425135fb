section WK
variable {p : Program} {l : Launch} {e : Env} {s : State} {m : MethodId} {args : Array Value} {below : List Frame} {meth : Method} {c : Code} {Q : State → Prop} {D : va_G} {A : Nat → Prop} {N : Nm}
/-! AwardLine$Reader.hasRoom()Z -/
def rm_X6_hasRoom : Room := { frames := 0, cells := 0, slots := 0, locals := 0 }
def F_X6_hasRoom_18 (s0 : St) (t0 : Int32) : Option (Int32 × St) :=
  some (t0, s0)
set_option maxHeartbeats 4000000 in
set_option maxRecDepth 100000 in
theorem T_X6_hasRoom_18 {r : Int32} {z1 : St} (C : Cx p rm_X6_hasRoom s m args c D A cX6_hasRoom 1 RX6 rm_X6_hasRoom N) (hE : En p l e rm_X6_hasRoom s m args below meth c Q D A cX6_hasRoom .ireturn (wC N z1) [.int r])  (s0 : St) (t0 : Int32) (h : F_X6_hasRoom_18 s0 t0 = some (r, z1)) : Aw p l e rm_X6_hasRoom s m args below meth c Q D A 1 (wC N s0) 18 [] [.int t0] := by
  unfold F_X6_hasRoom_18 at h
  cases h
  exact aw_ret hE dX6_hasRoom_18
def F_X6_hasRoom_0 (s0 : St) : Option (Int32 × St) :=
  if (400 : Int32) < (s0.1 1) + (20 : Int32) then (
    F_X6_hasRoom_18 s0 (0 : Int32))
  else (
    F_X6_hasRoom_18 s0 (1 : Int32))
set_option maxHeartbeats 4000000 in
set_option maxRecDepth 100000 in
theorem T_X6_hasRoom_0 {r : Int32} {z1 : St} (C : Cx p rm_X6_hasRoom s m args c D A cX6_hasRoom 1 RX6 rm_X6_hasRoom N) (hE : En p l e rm_X6_hasRoom s m args below meth c Q D A cX6_hasRoom .ireturn (wC N z1) [.int r])  (s0 : St) (h : F_X6_hasRoom_0 s0 = some (r, z1)) : Aw p l e rm_X6_hasRoom s m args below meth c Q D A 1 (wC N s0) 0 [(0, .ref (N.1 1))] [] := by
  unfold F_X6_hasRoom_0 at h
  refine aw_aload_n C 0 dX6_hasRoom_0 rfl ?_
  refine cg_rd_held C lw_10_2 dX6_hasRoom_1 ?_
  refine aw_bipush (v := 20) C dX6_hasRoom_4 (by decide) ?_
  refine aw_iadd C dX6_hasRoom_6 ?_
  refine aw_sipush (v := 400) C dX6_hasRoom_7 (by decide) ?_
  refine aw_icmp_gt (tgt := 17) C dX6_hasRoom_10 (by decide) (fun q => ?_) (fun q => ?_)
  · have h := bq_t q h
    refine aw_iconst (v := 0) C dX6_hasRoom_17 (by decide) ?_
    refine aw_sub (lv' := []) [] rfl ?_
    exact T_X6_hasRoom_18 C hE s0 (0 : Int32) h
  · have h := bq_f q h
    refine aw_iconst (v := 1) C dX6_hasRoom_13 (by decide) ?_
    refine aw_goto (tgt := 18) C dX6_hasRoom_14 (by decide) ?_
    refine aw_sub (lv' := []) [] rfl ?_
    exact T_X6_hasRoom_18 C hE s0 (1 : Int32) h
def f_X6_hasRoom (s0 : St) : Option (Int32 × St) := oC (F_X6_hasRoom_0 s0) fun w => oZ w.1 (some w)
theorem c_X6_hasRoom (l : Launch) (D : va_G) (N : Nm) (s0 z1 : St) (r : Int32) (h : f_X6_hasRoom s0 = some (r, z1)) : Meti l yX6_hasRoom (tsU yX6_hasRoom cX6_hasRoom 1 (some .boolean)) rm_X6_hasRoom D N [.ref (N.1 1)] (wC N s0) r (wC N z1) := by
  obtain ⟨w, h1, h2⟩ := oC_e h
  obtain ⟨hz, h2⟩ := oZ_e h2
  cases h2
  exact met_z (cc := cX6_hasRoom) (nL := 1) (own := RX6) (by decide) rfl (Nat.le_of_ble_eq_true rfl) (zN hz) (fun p e s m args below meth c Q A C hE => aw_sub [0] rfl (T_X6_hasRoom_0 C hE s0 h1))
/-! AwardLine$Reader.store(I)V -/
def rm_X6_store : Room := { frames := 0, cells := 0, slots := 0, locals := 0 }
def F_X6_store_49 (s0 : St) : Option (St) :=
  some s0
set_option maxHeartbeats 4000000 in
set_option maxRecDepth 100000 in
theorem T_X6_store_49 {z1 : St} (C : Cx p rm_X6_store s m args c D A cX6_store 3 RX6 rm_X6_store N) (hE : En p l e rm_X6_store s m args below meth c Q D A cX6_store .return_ (wC N z1) [])  (s0 : St) (h : F_X6_store_49 s0 = some z1) : Aw p l e rm_X6_store s m args below meth c Q D A 3 (wC N s0) 49 [] [] := by
  unfold F_X6_store_49 at h
  cases h
  exact aw_ret hE dX6_store_49
def F_X6_store_3_b (k3 : St → Int32 → Int32 → Option (St)) (s0 : St) (x1 : Int32) (x2 : Int32) : Option (St) :=
  if x2 < 0 then (
    F_X6_store_49 s0)
  else (
    if (400 : Int32) ≤ (s0.1 1) then (
      F_X6_store_49 s0)
    else (
      oA (s0.1 1) 400 <|
      oL (sA s0 0 (upd (s0.2.1 0) (Int32.toNatClampNeg (s0.1 1)) ((ushr x1 x2) &&& (255 : Int32)))) fun s2 =>
      oL (sI s2 1 ((s2.1 1) + (1 : Int32))) fun s3 =>
      oL (x2 + (-8 : Int32)) fun y4 =>
      k3 s3 x1 y4))
set_option maxHeartbeats 4000000 in
set_option maxRecDepth 100000 in
theorem T_X6_store_3_b {z1 : St} {k3 : St → Int32 → Int32 → Option (St)} (C : Cx p rm_X6_store s m args c D A cX6_store 3 RX6 rm_X6_store N) (hE : En p l e rm_X6_store s m args below meth c Q D A cX6_store .return_ (wC N z1) []) (hk3 : ∀ (s0 : St) (x1 : Int32) (x2 : Int32), k3 s0 x1 x2 = some z1 → Aw p l e rm_X6_store s m args below meth c Q D A 3 (wC N s0) 3 [(0, .ref (N.1 1)), (1, .int x1), (2, .int x2)] []) (s0 : St) (x1 : Int32) (x2 : Int32) (h : F_X6_store_3_b k3 s0 x1 x2 = some z1) : Aw p l e rm_X6_store s m args below meth c Q D A 3 (wC N s0) 3 [(0, .ref (N.1 1)), (1, .int x1), (2, .int x2)] [] := by
  unfold F_X6_store_3_b at h
  refine aw_iload_n C 2 dX6_store_3 rfl ?_
  refine aw_if_lt (tgt := 49) C dX6_store_4 (by decide) (fun q => ?_) (fun q => ?_)
  · have h := bq_t q h
    refine aw_sub (lv' := []) [] rfl ?_
    exact T_X6_store_49 C hE s0 h
  · have h := bq_f q h
    refine aw_aload_n C 0 dX6_store_7 rfl ?_
    refine cg_rd_held C lw_10_2 dX6_store_8 ?_
    refine aw_sipush (v := 400) C dX6_store_11 (by decide) ?_
    refine aw_icmp_ge (tgt := 49) C dX6_store_14 (by decide) (fun q => ?_) (fun q => ?_)
    · have h := bq_t q h
      refine aw_sub (lv' := []) [] rfl ?_
      exact T_X6_store_49 C hE s0 h
    · have h := bq_f q h
      refine aw_aload_n C 0 dX6_store_17 rfl ?_
      refine cg_rd_tape C lw_5_10 dX6_store_18 ?_
      refine aw_aload_n C 0 dX6_store_21 rfl ?_
      refine cg_rd_held C lw_10_2 dX6_store_22 ?_
      refine aw_iload_n C 1 dX6_store_25 rfl ?_
      refine aw_iload_n C 2 dX6_store_26 rfl ?_
      refine aw_iushr C dX6_store_27 ?_
      refine aw_sipush (v := 255) C dX6_store_28 (by decide) ?_
      refine aw_iand C dX6_store_31 ?_
      obtain ⟨q1, h⟩ := oA_e h
      refine ca_iast (k := 0) C (by decide) rfl q1 dX6_store_32 ?_
      refine ca_name (fun s2 es2 => ?_)
      have h := oL_e es2 h
      refine aw_aload_n C 0 dX6_store_33 rfl ?_
      refine aw_dup C dX6_store_34 rfl ?_
      refine cg_rd_held C lw_10_2 dX6_store_35 ?_
      refine aw_iconst (v := 1) C dX6_store_38 (by decide) ?_
      refine aw_iadd C dX6_store_39 ?_
      refine cp_rd_held C lw_10_2 dX6_store_40 ?_
      refine ca_name (fun s3 es3 => ?_)
      have h := oL_e es3 h
      obtain ⟨y4, ey4⟩ : ∃ q : Int32, q = x2 + (-8 : Int32) := ⟨_, rfl⟩
      have h := oL_e ey4 h
      refine aw_iinc (v := y4) (k := 2) (lv' := [(0, .ref (N.1 1)), (1, .int x1), (2, .int y4)]) C [1, 2, 0] dX6_store_43 rfl (by rw [ey4]; rfl) (by decide) rfl ?_
      refine aw_goto (tgt := 3) C dX6_store_46 (by decide) ?_
      refine aw_sub (lv' := [(0, .ref (N.1 1)), (1, .int x1), (2, .int y4)]) [0, 1, 2] rfl ?_
      exact hk3 s3 x1 y4 h
def F_X6_store_3 : Nat → St → Int32 → Int32 → Option (St)
  | 0 => fun _ _ _ => none
  | n + 1 => F_X6_store_3_b (F_X6_store_3 n)
theorem T_X6_store_3 {z1 : St} (C : Cx p rm_X6_store s m args c D A cX6_store 3 RX6 rm_X6_store N) (hE : En p l e rm_X6_store s m args below meth c Q D A cX6_store .return_ (wC N z1) [])  : ∀ (n : Nat) (s0 : St) (x1 : Int32) (x2 : Int32), F_X6_store_3 n s0 x1 x2 = some z1 → Aw p l e rm_X6_store s m args below meth c Q D A 3 (wC N s0) 3 [(0, .ref (N.1 1)), (1, .int x1), (2, .int x2)] [] := by
  intro n
  induction n with
  | zero => intro s0 x1 x2 h; cases h
  | succ n ih => intro s0 x1 x2 h; exact T_X6_store_3_b C hE ih s0 x1 x2 h
def F_X6_store_0 (s0 : St) (x1 : Int32) : Option (St) :=
  oL (24 : Int32) fun y1 =>
  F_X6_store_3 100000 s0 x1 y1
set_option maxHeartbeats 4000000 in
set_option maxRecDepth 100000 in
theorem T_X6_store_0 {z1 : St} (C : Cx p rm_X6_store s m args c D A cX6_store 3 RX6 rm_X6_store N) (hE : En p l e rm_X6_store s m args below meth c Q D A cX6_store .return_ (wC N z1) [])  (s0 : St) (x1 : Int32) (h : F_X6_store_0 s0 x1 = some z1) : Aw p l e rm_X6_store s m args below meth c Q D A 3 (wC N s0) 0 [(0, .ref (N.1 1)), (1, .int x1)] [] := by
  unfold F_X6_store_0 at h
  refine aw_bipush (v := 24) C dX6_store_0 (by decide) ?_
  refine aw_topi (fun y1 ey1 => ?_)
  have h := oL_e ey1 h
  refine aw_istore_n (lv' := [(0, .ref (N.1 1)), (1, .int x1), (2, .int y1)]) C [1, 2, 0] dX6_store_2 rfl (by decide) rfl ?_
  refine aw_sub (lv' := [(0, .ref (N.1 1)), (1, .int x1), (2, .int y1)]) [0, 1, 2] rfl ?_
  exact T_X6_store_3 C hE 100000 s0 x1 y1 h
def f_X6_store (s0 : St) (x1 : Int32) : Option (St) := F_X6_store_0 s0 x1
theorem c_X6_store (l : Launch) (D : va_G) (N : Nm) (s0 z1 : St) (x1 : Int32) (h : f_X6_store s0 x1 = some z1) : Metv l yX6_store (tsU yX6_store cX6_store 3 none) rm_X6_store D N [.ref (N.1 1), .int x1] (wC N s0) (wC N z1) :=
  met_v (cc := cX6_store) (nL := 3) (own := RX6) (by decide) rfl (Nat.le_of_ble_eq_true rfl) (fun p e s m args below meth c Q A C hE => aw_sub [0, 1] rfl (T_X6_store_0 C hE s0 x1 h))
/-! AwardLine$Reader.refuse(I)Z -/
def rm_X6_refuse : Room := { frames := 0, cells := 0, slots := 0, locals := 0 }
def F_X6_refuse_0 (s0 : St) (x1 : Int32) : Option (Int32 × St) :=
  oL (sI s0 2 x1) fun s1 =>
  oL (sI s1 3 (s1.1 7)) fun s2 =>
  some ((0 : Int32), s2)
set_option maxHeartbeats 4000000 in
set_option maxRecDepth 100000 in
theorem T_X6_refuse_0 {r : Int32} {z1 : St} (C : Cx p rm_X6_refuse s m args c D A cX6_refuse 2 RX6 rm_X6_refuse N) (hE : En p l e rm_X6_refuse s m args below meth c Q D A cX6_refuse .ireturn (wC N z1) [.int r])  (s0 : St) (x1 : Int32) (h : F_X6_refuse_0 s0 x1 = some (r, z1)) : Aw p l e rm_X6_refuse s m args below meth c Q D A 2 (wC N s0) 0 [(0, .ref (N.1 1)), (1, .int x1)] [] := by
  unfold F_X6_refuse_0 at h
  refine aw_aload_n C 0 dX6_refuse_0 rfl ?_
  refine aw_iload_n C 1 dX6_refuse_1 rfl ?_
  refine cp_rd_fault C lw_11_4 dX6_refuse_2 ?_
  refine ca_name (fun s1 es1 => ?_)
  have h := oL_e es1 h
  refine aw_aload_n C 0 dX6_refuse_5 rfl ?_
  refine aw_aload_n C 0 dX6_refuse_6 rfl ?_
  refine cg_rd_place C lw_11_13 dX6_refuse_7 ?_
  refine cp_rd_faultPlace C lw_5_9 dX6_refuse_10 ?_
  refine ca_name (fun s2 es2 => ?_)
  have h := oL_e es2 h
  refine aw_iconst (v := 0) C dX6_refuse_13 (by decide) ?_
  cases h
  exact aw_ret hE dX6_refuse_14
def f_X6_refuse (s0 : St) (x1 : Int32) : Option (Int32 × St) := oC (F_X6_refuse_0 s0 x1) fun w => oZ w.1 (some w)
theorem c_X6_refuse (l : Launch) (D : va_G) (N : Nm) (s0 z1 : St) (x1 : Int32) (r : Int32) (h : f_X6_refuse s0 x1 = some (r, z1)) : Meti l yX6_refuse (tsU yX6_refuse cX6_refuse 2 (some .boolean)) rm_X6_refuse D N [.ref (N.1 1), .int x1] (wC N s0) r (wC N z1) := by
  obtain ⟨w, h1, h2⟩ := oC_e h
  obtain ⟨hz, h2⟩ := oZ_e h2
  cases h2
  exact met_z (cc := cX6_refuse) (nL := 2) (own := RX6) (by decide) rfl (Nat.le_of_ble_eq_true rfl) (zN hz) (fun p e s m args below meth c Q A C hE => aw_sub [0, 1] rfl (T_X6_refuse_0 C hE s0 x1 h1))
/-! AwardLine$Reader.isLetter(I)Z -/
def rm_X6_isLetter : Room := { frames := 0, cells := 0, slots := 0, locals := 0 }
def F_X6_isLetter_17 (s0 : St) (t0 : Int32) : Option (Int32 × St) :=
  some (t0, s0)
set_option maxHeartbeats 4000000 in
set_option maxRecDepth 100000 in
theorem T_X6_isLetter_17 {r : Int32} {z1 : St} (C : Cx p rm_X6_isLetter s m args c D A cX6_isLetter 1 RX6 rm_X6_isLetter N) (hE : En p l e rm_X6_isLetter s m args below meth c Q D A cX6_isLetter .ireturn (wC N z1) [.int r])  (s0 : St) (t0 : Int32) (h : F_X6_isLetter_17 s0 t0 = some (r, z1)) : Aw p l e rm_X6_isLetter s m args below meth c Q D A 1 (wC N s0) 17 [] [.int t0] := by
  unfold F_X6_isLetter_17 at h
  cases h
  exact aw_ret hE dX6_isLetter_17
def F_X6_isLetter_16 (s0 : St) : Option (Int32 × St) :=
  F_X6_isLetter_17 s0 (0 : Int32)
set_option maxHeartbeats 4000000 in
set_option maxRecDepth 100000 in
theorem T_X6_isLetter_16 {r : Int32} {z1 : St} (C : Cx p rm_X6_isLetter s m args c D A cX6_isLetter 1 RX6 rm_X6_isLetter N) (hE : En p l e rm_X6_isLetter s m args below meth c Q D A cX6_isLetter .ireturn (wC N z1) [.int r])  (s0 : St) (h : F_X6_isLetter_16 s0 = some (r, z1)) : Aw p l e rm_X6_isLetter s m args below meth c Q D A 1 (wC N s0) 16 [] [] := by
  unfold F_X6_isLetter_16 at h
  refine aw_iconst (v := 0) C dX6_isLetter_16 (by decide) ?_
  refine aw_sub (lv' := []) [] rfl ?_
  exact T_X6_isLetter_17 C hE s0 (0 : Int32) h
def F_X6_isLetter_0 (s0 : St) (x0 : Int32) : Option (Int32 × St) :=
  if x0 < (97 : Int32) then (
    F_X6_isLetter_16 s0)
  else (
    if (122 : Int32) < x0 then (
      F_X6_isLetter_16 s0)
    else (
      F_X6_isLetter_17 s0 (1 : Int32)))
set_option maxHeartbeats 4000000 in
set_option maxRecDepth 100000 in
theorem T_X6_isLetter_0 {r : Int32} {z1 : St} (C : Cx p rm_X6_isLetter s m args c D A cX6_isLetter 1 RX6 rm_X6_isLetter N) (hE : En p l e rm_X6_isLetter s m args below meth c Q D A cX6_isLetter .ireturn (wC N z1) [.int r])  (s0 : St) (x0 : Int32) (h : F_X6_isLetter_0 s0 x0 = some (r, z1)) : Aw p l e rm_X6_isLetter s m args below meth c Q D A 1 (wC N s0) 0 [(0, .int x0)] [] := by
  unfold F_X6_isLetter_0 at h
  refine aw_iload_n C 0 dX6_isLetter_0 rfl ?_
  refine aw_bipush (v := 97) C dX6_isLetter_1 (by decide) ?_
  refine aw_icmp_lt (tgt := 16) C dX6_isLetter_3 (by decide) (fun q => ?_) (fun q => ?_)
  · have h := bq_t q h
    refine aw_sub (lv' := []) [] rfl ?_
    exact T_X6_isLetter_16 C hE s0 h
  · have h := bq_f q h
    refine aw_iload_n C 0 dX6_isLetter_6 rfl ?_
    refine aw_bipush (v := 122) C dX6_isLetter_7 (by decide) ?_
    refine aw_icmp_gt (tgt := 16) C dX6_isLetter_9 (by decide) (fun q => ?_) (fun q => ?_)
    · have h := bq_t q h
      refine aw_sub (lv' := []) [] rfl ?_
      exact T_X6_isLetter_16 C hE s0 h
    · have h := bq_f q h
      refine aw_iconst (v := 1) C dX6_isLetter_12 (by decide) ?_
      refine aw_goto (tgt := 17) C dX6_isLetter_13 (by decide) ?_
      refine aw_sub (lv' := []) [] rfl ?_
      exact T_X6_isLetter_17 C hE s0 (1 : Int32) h
def f_X6_isLetter (s0 : St) (x0 : Int32) : Option (Int32 × St) := oC (F_X6_isLetter_0 s0 x0) fun w => oZ w.1 (some w)
theorem c_X6_isLetter (l : Launch) (D : va_G) (N : Nm) (s0 z1 : St) (x0 : Int32) (r : Int32) (h : f_X6_isLetter s0 x0 = some (r, z1)) : Meti l yX6_isLetter (tsU yX6_isLetter cX6_isLetter 1 (some .boolean)) rm_X6_isLetter D N [.int x0] (wC N s0) r (wC N z1) := by
  obtain ⟨w, h1, h2⟩ := oC_e h
  obtain ⟨hz, h2⟩ := oZ_e h2
  cases h2
  exact met_z (cc := cX6_isLetter) (nL := 1) (own := RX6) (by decide) rfl (Nat.le_of_ble_eq_true rfl) (zN hz) (fun p e s m args below meth c Q A C hE => aw_sub [0] rfl (T_X6_isLetter_0 C hE s0 x0 h1))
/-! AwardLine$Reader.isDigit(I)Z -/
def rm_X6_isDigit : Room := { frames := 0, cells := 0, slots := 0, locals := 0 }
def F_X6_isDigit_17 (s0 : St) (t0 : Int32) : Option (Int32 × St) :=
  some (t0, s0)
set_option maxHeartbeats 4000000 in
set_option maxRecDepth 100000 in
theorem T_X6_isDigit_17 {r : Int32} {z1 : St} (C : Cx p rm_X6_isDigit s m args c D A cX6_isDigit 1 RX6 rm_X6_isDigit N) (hE : En p l e rm_X6_isDigit s m args below meth c Q D A cX6_isDigit .ireturn (wC N z1) [.int r])  (s0 : St) (t0 : Int32) (h : F_X6_isDigit_17 s0 t0 = some (r, z1)) : Aw p l e rm_X6_isDigit s m args below meth c Q D A 1 (wC N s0) 17 [] [.int t0] := by
  unfold F_X6_isDigit_17 at h
  cases h
  exact aw_ret hE dX6_isDigit_17
def F_X6_isDigit_16 (s0 : St) : Option (Int32 × St) :=
  F_X6_isDigit_17 s0 (0 : Int32)
set_option maxHeartbeats 4000000 in
set_option maxRecDepth 100000 in
theorem T_X6_isDigit_16 {r : Int32} {z1 : St} (C : Cx p rm_X6_isDigit s m args c D A cX6_isDigit 1 RX6 rm_X6_isDigit N) (hE : En p l e rm_X6_isDigit s m args below meth c Q D A cX6_isDigit .ireturn (wC N z1) [.int r])  (s0 : St) (h : F_X6_isDigit_16 s0 = some (r, z1)) : Aw p l e rm_X6_isDigit s m args below meth c Q D A 1 (wC N s0) 16 [] [] := by
  unfold F_X6_isDigit_16 at h
  refine aw_iconst (v := 0) C dX6_isDigit_16 (by decide) ?_
  refine aw_sub (lv' := []) [] rfl ?_
  exact T_X6_isDigit_17 C hE s0 (0 : Int32) h
def F_X6_isDigit_0 (s0 : St) (x0 : Int32) : Option (Int32 × St) :=
  if x0 < (48 : Int32) then (
    F_X6_isDigit_16 s0)
  else (
    if (57 : Int32) < x0 then (
      F_X6_isDigit_16 s0)
    else (
      F_X6_isDigit_17 s0 (1 : Int32)))
set_option maxHeartbeats 4000000 in
set_option maxRecDepth 100000 in
theorem T_X6_isDigit_0 {r : Int32} {z1 : St} (C : Cx p rm_X6_isDigit s m args c D A cX6_isDigit 1 RX6 rm_X6_isDigit N) (hE : En p l e rm_X6_isDigit s m args below meth c Q D A cX6_isDigit .ireturn (wC N z1) [.int r])  (s0 : St) (x0 : Int32) (h : F_X6_isDigit_0 s0 x0 = some (r, z1)) : Aw p l e rm_X6_isDigit s m args below meth c Q D A 1 (wC N s0) 0 [(0, .int x0)] [] := by
  unfold F_X6_isDigit_0 at h
  refine aw_iload_n C 0 dX6_isDigit_0 rfl ?_
  refine aw_bipush (v := 48) C dX6_isDigit_1 (by decide) ?_
  refine aw_icmp_lt (tgt := 16) C dX6_isDigit_3 (by decide) (fun q => ?_) (fun q => ?_)
  · have h := bq_t q h
    refine aw_sub (lv' := []) [] rfl ?_
    exact T_X6_isDigit_16 C hE s0 h
  · have h := bq_f q h
    refine aw_iload_n C 0 dX6_isDigit_6 rfl ?_
    refine aw_bipush (v := 57) C dX6_isDigit_7 (by decide) ?_
    refine aw_icmp_gt (tgt := 16) C dX6_isDigit_9 (by decide) (fun q => ?_) (fun q => ?_)
    · have h := bq_t q h
      refine aw_sub (lv' := []) [] rfl ?_
      exact T_X6_isDigit_16 C hE s0 h
    · have h := bq_f q h
      refine aw_iconst (v := 1) C dX6_isDigit_12 (by decide) ?_
      refine aw_goto (tgt := 17) C dX6_isDigit_13 (by decide) ?_
      refine aw_sub (lv' := []) [] rfl ?_
      exact T_X6_isDigit_17 C hE s0 (1 : Int32) h
def f_X6_isDigit (s0 : St) (x0 : Int32) : Option (Int32 × St) := oC (F_X6_isDigit_0 s0 x0) fun w => oZ w.1 (some w)
theorem c_X6_isDigit (l : Launch) (D : va_G) (N : Nm) (s0 z1 : St) (x0 : Int32) (r : Int32) (h : f_X6_isDigit s0 x0 = some (r, z1)) : Meti l yX6_isDigit (tsU yX6_isDigit cX6_isDigit 1 (some .boolean)) rm_X6_isDigit D N [.int x0] (wC N s0) r (wC N z1) := by
  obtain ⟨w, h1, h2⟩ := oC_e h
  obtain ⟨hz, h2⟩ := oZ_e h2
  cases h2
  exact met_z (cc := cX6_isDigit) (nL := 1) (own := RX6) (by decide) rfl (Nat.le_of_ble_eq_true rfl) (zN hz) (fun p e s m args below meth c Q A C hE => aw_sub [0] rfl (T_X6_isDigit_0 C hE s0 x0 h1))
/-! AwardLine$Reader.follows(I)Z -/
def rm_X6_follows : Room := { frames := 0, cells := 0, slots := 0, locals := 0 }
def F_X6_follows_36 (s0 : St) : Option (Int32 × St) :=
  some ((0 : Int32), s0)
set_option maxHeartbeats 4000000 in
set_option maxRecDepth 100000 in
theorem T_X6_follows_36 {r : Int32} {z1 : St} (C : Cx p rm_X6_follows s m args c D A cX6_follows 2 RX6 rm_X6_follows N) (hE : En p l e rm_X6_follows s m args below meth c Q D A cX6_follows .ireturn (wC N z1) [.int r])  (s0 : St) (h : F_X6_follows_36 s0 = some (r, z1)) : Aw p l e rm_X6_follows s m args below meth c Q D A 2 (wC N s0) 36 [] [] := by
  unfold F_X6_follows_36 at h
  refine aw_iconst (v := 0) C dX6_follows_36 (by decide) ?_
  cases h
  exact aw_ret hE dX6_follows_37
def F_X6_follows_0 (s0 : St) (x1 : Int32) : Option (Int32 × St) :=
  if (s0.1 4) ≤ (s0.1 5) then (
    F_X6_follows_36 s0)
  else (
    oA (s0.1 5) 400 <|
    if (s0.2.1 0 (Int32.toNatClampNeg (s0.1 5))) = x1 then (
      oL (sI s0 5 ((s0.1 5) + (1 : Int32))) fun s2 =>
      some ((1 : Int32), s2))
    else (
      F_X6_follows_36 s0))
set_option maxHeartbeats 4000000 in
set_option maxRecDepth 100000 in
theorem T_X6_follows_0 {r : Int32} {z1 : St} (C : Cx p rm_X6_follows s m args c D A cX6_follows 2 RX6 rm_X6_follows N) (hE : En p l e rm_X6_follows s m args below meth c Q D A cX6_follows .ireturn (wC N z1) [.int r])  (s0 : St) (x1 : Int32) (h : F_X6_follows_0 s0 x1 = some (r, z1)) : Aw p l e rm_X6_follows s m args below meth c Q D A 2 (wC N s0) 0 [(0, .ref (N.1 1)), (1, .int x1)] [] := by
  unfold F_X6_follows_0 at h
  refine aw_aload_n C 0 dX6_follows_0 rfl ?_
  refine cg_rd_at C lw_11_3 dX6_follows_1 ?_
  refine aw_aload_n C 0 dX6_follows_4 rfl ?_
  refine cg_rd_length C lw_11_2 dX6_follows_5 ?_
  refine aw_icmp_ge (tgt := 36) C dX6_follows_8 (by decide) (fun q => ?_) (fun q => ?_)
  · have h := bq_t q h
    refine aw_sub (lv' := []) [] rfl ?_
    exact T_X6_follows_36 C hE s0 h
  · have h := bq_f q h
    refine aw_aload_n C 0 dX6_follows_11 rfl ?_
    refine cg_rd_tape C lw_5_10 dX6_follows_12 ?_
    refine aw_aload_n C 0 dX6_follows_15 rfl ?_
    refine cg_rd_at C lw_11_3 dX6_follows_16 ?_
    obtain ⟨q1, h⟩ := oA_e h
    refine ca_iald (k := 0) C (by decide) rfl q1 dX6_follows_19 ?_
    refine aw_iload_n C 1 dX6_follows_20 rfl ?_
    refine aw_icmp_ne (tgt := 36) C dX6_follows_21 (by decide) (fun q => ?_) (fun q => ?_)
    · have h := bq_f q h
      refine aw_sub (lv' := []) [] rfl ?_
      exact T_X6_follows_36 C hE s0 h
    · have h := bq_t q h
      refine aw_aload_n C 0 dX6_follows_24 rfl ?_
      refine aw_dup C dX6_follows_25 rfl ?_
      refine cg_rd_at C lw_11_3 dX6_follows_26 ?_
      refine aw_iconst (v := 1) C dX6_follows_29 (by decide) ?_
      refine aw_iadd C dX6_follows_30 ?_
      refine cp_rd_at C lw_11_3 dX6_follows_31 ?_
      refine ca_name (fun s2 es2 => ?_)
      have h := oL_e es2 h
      refine aw_iconst (v := 1) C dX6_follows_34 (by decide) ?_
      cases h
      exact aw_ret hE dX6_follows_35
def f_X6_follows (s0 : St) (x1 : Int32) : Option (Int32 × St) := oC (F_X6_follows_0 s0 x1) fun w => oZ w.1 (some w)
theorem c_X6_follows (l : Launch) (D : va_G) (N : Nm) (s0 z1 : St) (x1 : Int32) (r : Int32) (h : f_X6_follows s0 x1 = some (r, z1)) : Meti l yX6_follows (tsU yX6_follows cX6_follows 2 (some .boolean)) rm_X6_follows D N [.ref (N.1 1), .int x1] (wC N s0) r (wC N z1) := by
  obtain ⟨w, h1, h2⟩ := oC_e h
  obtain ⟨hz, h2⟩ := oZ_e h2
  cases h2
  exact met_z (cc := cX6_follows) (nL := 2) (own := RX6) (by decide) rfl (Nat.le_of_ble_eq_true rfl) (zN hz) (fun p e s m args below meth c Q A C hE => aw_sub [0, 1] rfl (T_X6_follows_0 C hE s0 x1 h1))
/-! AwardLine$Reader.readSign(I)V -/
def rm_X6_readSign : Room := { frames := 1, cells := 0, slots := 0, locals := 21 }
def F_X6_readSign_254 (s0 : St) : Option (St) :=
  some s0
set_option maxHeartbeats 4000000 in
set_option maxRecDepth 100000 in
theorem T_X6_readSign_254 {z1 : St} (C : Cx p rm_X6_readSign s m args c D A cX6_readSign 2 RX6 rm_X6_readSign N) (hE : En p l e rm_X6_readSign s m args below meth c Q D A cX6_readSign .return_ (wC N z1) [])  (s0 : St) (h : F_X6_readSign_254 s0 = some z1) : Aw p l e rm_X6_readSign s m args below meth c Q D A 2 (wC N s0) 254 [] [] := by
  unfold F_X6_readSign_254 at h
  cases h
  exact aw_ret hE dX6_readSign_254
def F_X6_readSign_248 (s0 : St) : Option (St) :=
  oL (sI s0 6 (35 : Int32)) fun s1 =>
  F_X6_readSign_254 s1
set_option maxHeartbeats 4000000 in
set_option maxRecDepth 100000 in
theorem T_X6_readSign_248 {z1 : St} (C : Cx p rm_X6_readSign s m args c D A cX6_readSign 2 RX6 rm_X6_readSign N) (hE : En p l e rm_X6_readSign s m args below meth c Q D A cX6_readSign .return_ (wC N z1) [])  (s0 : St) (h : F_X6_readSign_248 s0 = some z1) : Aw p l e rm_X6_readSign s m args below meth c Q D A 2 (wC N s0) 248 [(0, .ref (N.1 1))] [] := by
  unfold F_X6_readSign_248 at h
  refine aw_aload_n C 0 dX6_readSign_248 rfl ?_
  refine aw_bipush (v := 35) C dX6_readSign_249 (by decide) ?_
  refine cp_rd_token C lw_11_7 dX6_readSign_251 ?_
  refine ca_name (fun s1 es1 => ?_)
  have h := oL_e es1 h
  refine aw_sub (lv' := []) [] rfl ?_
  exact T_X6_readSign_254 C hE s1 h
def F_X6_readSign_147 (s0 : St) (t0 : Int32) : Option (St) :=
  oL (sI s0 6 t0) fun s1 =>
  F_X6_readSign_254 s1
set_option maxHeartbeats 4000000 in
set_option maxRecDepth 100000 in
theorem T_X6_readSign_147 {z1 : St} (C : Cx p rm_X6_readSign s m args c D A cX6_readSign 2 RX6 rm_X6_readSign N) (hE : En p l e rm_X6_readSign s m args below meth c Q D A cX6_readSign .return_ (wC N z1) [])  (s0 : St) (t0 : Int32) (h : F_X6_readSign_147 s0 t0 = some z1) : Aw p l e rm_X6_readSign s m args below meth c Q D A 2 (wC N s0) 147 [] [.int t0, .ref (N.1 1)] := by
  unfold F_X6_readSign_147 at h
  refine cp_rd_token C lw_11_7 dX6_readSign_147 ?_
  refine ca_name (fun s1 es1 => ?_)
  have h := oL_e es1 h
  refine aw_goto (tgt := 254) C dX6_readSign_150 (by decide) ?_
  refine aw_sub (lv' := []) [] rfl ?_
  exact T_X6_readSign_254 C hE s1 h
def F_X6_readSign_170 (s0 : St) (t0 : Int32) : Option (St) :=
  oL (sI s0 6 t0) fun s1 =>
  F_X6_readSign_254 s1
set_option maxHeartbeats 4000000 in
set_option maxRecDepth 100000 in
theorem T_X6_readSign_170 {z1 : St} (C : Cx p rm_X6_readSign s m args c D A cX6_readSign 2 RX6 rm_X6_readSign N) (hE : En p l e rm_X6_readSign s m args below meth c Q D A cX6_readSign .return_ (wC N z1) [])  (s0 : St) (t0 : Int32) (h : F_X6_readSign_170 s0 t0 = some z1) : Aw p l e rm_X6_readSign s m args below meth c Q D A 2 (wC N s0) 170 [] [.int t0, .ref (N.1 1)] := by
  unfold F_X6_readSign_170 at h
  refine cp_rd_token C lw_11_7 dX6_readSign_170 ?_
  refine ca_name (fun s1 es1 => ?_)
  have h := oL_e es1 h
  refine aw_goto (tgt := 254) C dX6_readSign_173 (by decide) ?_
  refine aw_sub (lv' := []) [] rfl ?_
  exact T_X6_readSign_254 C hE s1 h
def F_X6_readSign_0 (s0 : St) (x1 : Int32) : Option (St) :=
  oL (sI s0 5 ((s0.1 5) + (1 : Int32))) fun s1 =>
  if x1 = 40 then (
    oL (sI s1 6 (31 : Int32)) fun s2 =>
    F_X6_readSign_254 s2)
  else (
  if x1 = 41 then (
    oL (sI s1 6 (32 : Int32)) fun s3 =>
    F_X6_readSign_254 s3)
  else (
  if x1 = 42 then (
    oL (sI s1 6 (23 : Int32)) fun s4 =>
    F_X6_readSign_254 s4)
  else (
  if x1 = 43 then (
    oL (sI s1 6 (21 : Int32)) fun s5 =>
    F_X6_readSign_254 s5)
  else (
  if x1 = 44 then (
    F_X6_readSign_248 s1)
  else (
  if x1 = 45 then (
    oL (sI s1 6 (22 : Int32)) fun s6 =>
    F_X6_readSign_254 s6)
  else (
  if x1 = 46 then (
    F_X6_readSign_248 s1)
  else (
  if x1 = 47 then (
    oL (sI s1 6 (24 : Int32)) fun s7 =>
    F_X6_readSign_254 s7)
  else (
  if x1 = 48 then (
    F_X6_readSign_248 s1)
  else (
  if x1 = 49 then (
    F_X6_readSign_248 s1)
  else (
  if x1 = 50 then (
    F_X6_readSign_248 s1)
  else (
  if x1 = 51 then (
    F_X6_readSign_248 s1)
  else (
  if x1 = 52 then (
    F_X6_readSign_248 s1)
  else (
  if x1 = 53 then (
    F_X6_readSign_248 s1)
  else (
  if x1 = 54 then (
    F_X6_readSign_248 s1)
  else (
  if x1 = 55 then (
    F_X6_readSign_248 s1)
  else (
  if x1 = 56 then (
    F_X6_readSign_248 s1)
  else (
  if x1 = 57 then (
    F_X6_readSign_248 s1)
  else (
  if x1 = 58 then (
    F_X6_readSign_248 s1)
  else (
  if x1 = 59 then (
    oL (sI s1 6 (33 : Int32)) fun s8 =>
    F_X6_readSign_254 s8)
  else (
  if x1 = 60 then (
    oC (f_X6_follows s1 (61 : Int32)) fun w11 =>
    oL w11.1 fun v9 => oL w11.2 fun s10 =>
    if v9 = 0 then (
      oC (f_X6_follows s10 (62 : Int32)) fun w14 =>
      oL w14.1 fun v12 => oL w14.2 fun s13 =>
      if v12 = 0 then (
        F_X6_readSign_147 s13 (25 : Int32))
      else (
        F_X6_readSign_147 s13 (28 : Int32)))
    else (
      F_X6_readSign_147 s10 (26 : Int32)))
  else (
  if x1 = 61 then (
    oL (sI s1 6 (27 : Int32)) fun s15 =>
    F_X6_readSign_254 s15)
  else (
  if x1 = 62 then (
    oC (f_X6_follows s1 (61 : Int32)) fun w18 =>
    oL w18.1 fun v16 => oL w18.2 fun s17 =>
    if v16 = 0 then (
      F_X6_readSign_170 s17 (30 : Int32))
    else (
      F_X6_readSign_170 s17 (29 : Int32)))
  else (
    F_X6_readSign_248 s1)))))))))))))))))))))))
set_option maxHeartbeats 4000000 in
set_option maxRecDepth 100000 in
theorem T_X6_readSign_0 {z1 : St} (C : Cx p rm_X6_readSign s m args c D A cX6_readSign 2 RX6 rm_X6_readSign N) (hE : En p l e rm_X6_readSign s m args below meth c Q D A cX6_readSign .return_ (wC N z1) [])  (s0 : St) (x1 : Int32) (h : F_X6_readSign_0 s0 x1 = some z1) : Aw p l e rm_X6_readSign s m args below meth c Q D A 2 (wC N s0) 0 [(0, .ref (N.1 1)), (1, .int x1)] [] := by
  unfold F_X6_readSign_0 at h
  refine aw_aload_n C 0 dX6_readSign_0 rfl ?_
  refine aw_dup C dX6_readSign_1 rfl ?_
  refine cg_rd_at C lw_11_3 dX6_readSign_2 ?_
  refine aw_iconst (v := 1) C dX6_readSign_5 (by decide) ?_
  refine aw_iadd C dX6_readSign_6 ?_
  refine cp_rd_at C lw_11_3 dX6_readSign_7 ?_
  refine ca_name (fun s1 es1 => ?_)
  have h := oL_e es1 h
  refine aw_iload_n C 1 dX6_readSign_10 rfl ?_
  by_cases q0 : x1 = (40 : Int32)
  · have h := bq_t q0 h
    refine aw_table (tgt := 221) C 210 dX6_readSign_11 (by rw [q0]; decide) (by rw [q0]; decide) (by rw [q0]; decide) (by decide) ?_
    refine aw_aload_n C 0 dX6_readSign_221 rfl ?_
    refine aw_bipush (v := 31) C dX6_readSign_222 (by decide) ?_
    refine cp_rd_token C lw_11_7 dX6_readSign_224 ?_
    refine ca_name (fun s2 es2 => ?_)
    have h := oL_e es2 h
    refine aw_goto (tgt := 254) C dX6_readSign_227 (by decide) ?_
    refine aw_sub (lv' := []) [] rfl ?_
    exact T_X6_readSign_254 C hE s2 h
  have h := bq_f q0 h
  by_cases q1 : x1 = (41 : Int32)
  · have h := bq_t q1 h
    refine aw_table (tgt := 230) C 219 dX6_readSign_11 (by rw [q1]; decide) (by rw [q1]; decide) (by rw [q1]; decide) (by decide) ?_
    refine aw_aload_n C 0 dX6_readSign_230 rfl ?_
    refine aw_bipush (v := 32) C dX6_readSign_231 (by decide) ?_
    refine cp_rd_token C lw_11_7 dX6_readSign_233 ?_
    refine ca_name (fun s3 es3 => ?_)
    have h := oL_e es3 h
    refine aw_goto (tgt := 254) C dX6_readSign_236 (by decide) ?_
    refine aw_sub (lv' := []) [] rfl ?_
    exact T_X6_readSign_254 C hE s3 h
  have h := bq_f q1 h
  by_cases q2 : x1 = (42 : Int32)
  · have h := bq_t q2 h
    refine aw_table (tgt := 203) C 192 dX6_readSign_11 (by rw [q2]; decide) (by rw [q2]; decide) (by rw [q2]; decide) (by decide) ?_
    refine aw_aload_n C 0 dX6_readSign_203 rfl ?_
    refine aw_bipush (v := 23) C dX6_readSign_204 (by decide) ?_
    refine cp_rd_token C lw_11_7 dX6_readSign_206 ?_
    refine ca_name (fun s4 es4 => ?_)
    have h := oL_e es4 h
    refine aw_goto (tgt := 254) C dX6_readSign_209 (by decide) ?_
    refine aw_sub (lv' := []) [] rfl ?_
    exact T_X6_readSign_254 C hE s4 h
  have h := bq_f q2 h
  by_cases q3 : x1 = (43 : Int32)
  · have h := bq_t q3 h
    refine aw_table (tgt := 185) C 174 dX6_readSign_11 (by rw [q3]; decide) (by rw [q3]; decide) (by rw [q3]; decide) (by decide) ?_
    refine aw_aload_n C 0 dX6_readSign_185 rfl ?_
    refine aw_bipush (v := 21) C dX6_readSign_186 (by decide) ?_
    refine cp_rd_token C lw_11_7 dX6_readSign_188 ?_
    refine ca_name (fun s5 es5 => ?_)
    have h := oL_e es5 h
    refine aw_goto (tgt := 254) C dX6_readSign_191 (by decide) ?_
    refine aw_sub (lv' := []) [] rfl ?_
    exact T_X6_readSign_254 C hE s5 h
  have h := bq_f q3 h
  by_cases q4 : x1 = (44 : Int32)
  · have h := bq_t q4 h
    refine aw_table (tgt := 248) C 237 dX6_readSign_11 (by rw [q4]; decide) (by rw [q4]; decide) (by rw [q4]; decide) (by decide) ?_
    refine aw_sub (lv' := [(0, .ref (N.1 1))]) [0] rfl ?_
    exact T_X6_readSign_248 C hE s1 h
  have h := bq_f q4 h
  by_cases q5 : x1 = (45 : Int32)
  · have h := bq_t q5 h
    refine aw_table (tgt := 194) C 183 dX6_readSign_11 (by rw [q5]; decide) (by rw [q5]; decide) (by rw [q5]; decide) (by decide) ?_
    refine aw_aload_n C 0 dX6_readSign_194 rfl ?_
    refine aw_bipush (v := 22) C dX6_readSign_195 (by decide) ?_
    refine cp_rd_token C lw_11_7 dX6_readSign_197 ?_
    refine ca_name (fun s6 es6 => ?_)
    have h := oL_e es6 h
    refine aw_goto (tgt := 254) C dX6_readSign_200 (by decide) ?_
    refine aw_sub (lv' := []) [] rfl ?_
    exact T_X6_readSign_254 C hE s6 h
  have h := bq_f q5 h
  by_cases q6 : x1 = (46 : Int32)
  · have h := bq_t q6 h
    refine aw_table (tgt := 248) C 237 dX6_readSign_11 (by rw [q6]; decide) (by rw [q6]; decide) (by rw [q6]; decide) (by decide) ?_
    refine aw_sub (lv' := [(0, .ref (N.1 1))]) [0] rfl ?_
    exact T_X6_readSign_248 C hE s1 h
  have h := bq_f q6 h
  by_cases q7 : x1 = (47 : Int32)
  · have h := bq_t q7 h
    refine aw_table (tgt := 212) C 201 dX6_readSign_11 (by rw [q7]; decide) (by rw [q7]; decide) (by rw [q7]; decide) (by decide) ?_
    refine aw_aload_n C 0 dX6_readSign_212 rfl ?_
    refine aw_bipush (v := 24) C dX6_readSign_213 (by decide) ?_
    refine cp_rd_token C lw_11_7 dX6_readSign_215 ?_
    refine ca_name (fun s7 es7 => ?_)
    have h := oL_e es7 h
    refine aw_goto (tgt := 254) C dX6_readSign_218 (by decide) ?_
    refine aw_sub (lv' := []) [] rfl ?_
    exact T_X6_readSign_254 C hE s7 h
  have h := bq_f q7 h
  by_cases q8 : x1 = (48 : Int32)
  · have h := bq_t q8 h
    refine aw_table (tgt := 248) C 237 dX6_readSign_11 (by rw [q8]; decide) (by rw [q8]; decide) (by rw [q8]; decide) (by decide) ?_
    refine aw_sub (lv' := [(0, .ref (N.1 1))]) [0] rfl ?_
    exact T_X6_readSign_248 C hE s1 h
  have h := bq_f q8 h
  by_cases q9 : x1 = (49 : Int32)
  · have h := bq_t q9 h
    refine aw_table (tgt := 248) C 237 dX6_readSign_11 (by rw [q9]; decide) (by rw [q9]; decide) (by rw [q9]; decide) (by decide) ?_
    refine aw_sub (lv' := [(0, .ref (N.1 1))]) [0] rfl ?_
    exact T_X6_readSign_248 C hE s1 h
  have h := bq_f q9 h
  by_cases q10 : x1 = (50 : Int32)
  · have h := bq_t q10 h
    refine aw_table (tgt := 248) C 237 dX6_readSign_11 (by rw [q10]; decide) (by rw [q10]; decide) (by rw [q10]; decide) (by decide) ?_
    refine aw_sub (lv' := [(0, .ref (N.1 1))]) [0] rfl ?_
    exact T_X6_readSign_248 C hE s1 h
  have h := bq_f q10 h
  by_cases q11 : x1 = (51 : Int32)
  · have h := bq_t q11 h
    refine aw_table (tgt := 248) C 237 dX6_readSign_11 (by rw [q11]; decide) (by rw [q11]; decide) (by rw [q11]; decide) (by decide) ?_
    refine aw_sub (lv' := [(0, .ref (N.1 1))]) [0] rfl ?_
    exact T_X6_readSign_248 C hE s1 h
  have h := bq_f q11 h
  by_cases q12 : x1 = (52 : Int32)
  · have h := bq_t q12 h
    refine aw_table (tgt := 248) C 237 dX6_readSign_11 (by rw [q12]; decide) (by rw [q12]; decide) (by rw [q12]; decide) (by decide) ?_
    refine aw_sub (lv' := [(0, .ref (N.1 1))]) [0] rfl ?_
    exact T_X6_readSign_248 C hE s1 h
  have h := bq_f q12 h
  by_cases q13 : x1 = (53 : Int32)
  · have h := bq_t q13 h
    refine aw_table (tgt := 248) C 237 dX6_readSign_11 (by rw [q13]; decide) (by rw [q13]; decide) (by rw [q13]; decide) (by decide) ?_
    refine aw_sub (lv' := [(0, .ref (N.1 1))]) [0] rfl ?_
    exact T_X6_readSign_248 C hE s1 h
  have h := bq_f q13 h
  by_cases q14 : x1 = (54 : Int32)
  · have h := bq_t q14 h
    refine aw_table (tgt := 248) C 237 dX6_readSign_11 (by rw [q14]; decide) (by rw [q14]; decide) (by rw [q14]; decide) (by decide) ?_
    refine aw_sub (lv' := [(0, .ref (N.1 1))]) [0] rfl ?_
    exact T_X6_readSign_248 C hE s1 h
  have h := bq_f q14 h
  by_cases q15 : x1 = (55 : Int32)
  · have h := bq_t q15 h
    refine aw_table (tgt := 248) C 237 dX6_readSign_11 (by rw [q15]; decide) (by rw [q15]; decide) (by rw [q15]; decide) (by decide) ?_
    refine aw_sub (lv' := [(0, .ref (N.1 1))]) [0] rfl ?_
    exact T_X6_readSign_248 C hE s1 h
  have h := bq_f q15 h
  by_cases q16 : x1 = (56 : Int32)
  · have h := bq_t q16 h
    refine aw_table (tgt := 248) C 237 dX6_readSign_11 (by rw [q16]; decide) (by rw [q16]; decide) (by rw [q16]; decide) (by decide) ?_
    refine aw_sub (lv' := [(0, .ref (N.1 1))]) [0] rfl ?_
    exact T_X6_readSign_248 C hE s1 h
  have h := bq_f q16 h
  by_cases q17 : x1 = (57 : Int32)
  · have h := bq_t q17 h
    refine aw_table (tgt := 248) C 237 dX6_readSign_11 (by rw [q17]; decide) (by rw [q17]; decide) (by rw [q17]; decide) (by decide) ?_
    refine aw_sub (lv' := [(0, .ref (N.1 1))]) [0] rfl ?_
    exact T_X6_readSign_248 C hE s1 h
  have h := bq_f q17 h
  by_cases q18 : x1 = (58 : Int32)
  · have h := bq_t q18 h
    refine aw_table (tgt := 248) C 237 dX6_readSign_11 (by rw [q18]; decide) (by rw [q18]; decide) (by rw [q18]; decide) (by decide) ?_
    refine aw_sub (lv' := [(0, .ref (N.1 1))]) [0] rfl ?_
    exact T_X6_readSign_248 C hE s1 h
  have h := bq_f q18 h
  by_cases q19 : x1 = (59 : Int32)
  · have h := bq_t q19 h
    refine aw_table (tgt := 239) C 228 dX6_readSign_11 (by rw [q19]; decide) (by rw [q19]; decide) (by rw [q19]; decide) (by decide) ?_
    refine aw_aload_n C 0 dX6_readSign_239 rfl ?_
    refine aw_bipush (v := 33) C dX6_readSign_240 (by decide) ?_
    refine cp_rd_token C lw_11_7 dX6_readSign_242 ?_
    refine ca_name (fun s8 es8 => ?_)
    have h := oL_e es8 h
    refine aw_goto (tgt := 254) C dX6_readSign_245 (by decide) ?_
    refine aw_sub (lv' := []) [] rfl ?_
    exact T_X6_readSign_254 C hE s8 h
  have h := bq_f q19 h
  by_cases q20 : x1 = (60 : Int32)
  · have h := bq_t q20 h
    refine aw_table (tgt := 116) C 105 dX6_readSign_11 (by rw [q20]; decide) (by rw [q20]; decide) (by rw [q20]; decide) (by decide) ?_
    refine aw_aload_n C 0 dX6_readSign_116 rfl ?_
    refine aw_aload_n C 0 dX6_readSign_117 rfl ?_
    refine aw_bipush (v := 61) C dX6_readSign_118 (by decide) ?_
    obtain ⟨⟨v9, s10⟩, cw11, h⟩ := oC_e h
    have h := oL_e (x := s10) rfl (oL_e (x := v9) rfl h)
    refine aw_callVi (n := 1) (As := [.int (61 : Int32)]) (rest := [.ref (N.1 1)]) (q0 := 1) C (c_X6_follows l D N s1 s10 (61 : Int32) v9 cw11) lw_14_14 lw_14_15 lw_14_16 lw_2_1 lw_14_17 rfl rfl (by decide +kernel) ⟨Nat.le_of_ble_eq_true rfl, Nat.le_of_ble_eq_true rfl⟩ rfl rfl rfl rfl rfl (Nat.le_of_ble_eq_true rfl) dX6_readSign_120 ?_
    refine aw_if_eq (tgt := 131) C dX6_readSign_123 (by decide) (fun q => ?_) (fun q => ?_)
    · have h := bq_t q h
      refine aw_aload_n C 0 dX6_readSign_131 rfl ?_
      refine aw_bipush (v := 62) C dX6_readSign_132 (by decide) ?_
      obtain ⟨⟨v12, s13⟩, cw14, h⟩ := oC_e h
      have h := oL_e (x := s13) rfl (oL_e (x := v12) rfl h)
      refine aw_callVi (n := 1) (As := [.int (62 : Int32)]) (rest := [.ref (N.1 1)]) (q0 := 1) C (c_X6_follows l D N s10 s13 (62 : Int32) v12 cw14) lw_14_14 lw_14_15 lw_14_16 lw_2_1 lw_14_17 rfl rfl (by decide +kernel) ⟨Nat.le_of_ble_eq_true rfl, Nat.le_of_ble_eq_true rfl⟩ rfl rfl rfl rfl rfl (Nat.le_of_ble_eq_true rfl) dX6_readSign_134 ?_
      refine aw_if_eq (tgt := 145) C dX6_readSign_137 (by decide) (fun q => ?_) (fun q => ?_)
      · have h := bq_t q h
        refine aw_bipush (v := 25) C dX6_readSign_145 (by decide) ?_
        refine aw_sub (lv' := []) [] rfl ?_
        exact T_X6_readSign_147 C hE s13 (25 : Int32) h
      · have h := bq_f q h
        refine aw_bipush (v := 28) C dX6_readSign_140 (by decide) ?_
        refine aw_goto (tgt := 147) C dX6_readSign_142 (by decide) ?_
        refine aw_sub (lv' := []) [] rfl ?_
        exact T_X6_readSign_147 C hE s13 (28 : Int32) h
    · have h := bq_f q h
      refine aw_bipush (v := 26) C dX6_readSign_126 (by decide) ?_
      refine aw_goto (tgt := 147) C dX6_readSign_128 (by decide) ?_
      refine aw_sub (lv' := []) [] rfl ?_
      exact T_X6_readSign_147 C hE s10 (26 : Int32) h
  have h := bq_f q20 h
  by_cases q21 : x1 = (61 : Int32)
  · have h := bq_t q21 h
    refine aw_table (tgt := 176) C 165 dX6_readSign_11 (by rw [q21]; decide) (by rw [q21]; decide) (by rw [q21]; decide) (by decide) ?_
    refine aw_aload_n C 0 dX6_readSign_176 rfl ?_
    refine aw_bipush (v := 27) C dX6_readSign_177 (by decide) ?_
    refine cp_rd_token C lw_11_7 dX6_readSign_179 ?_
    refine ca_name (fun s15 es15 => ?_)
    have h := oL_e es15 h
    refine aw_goto (tgt := 254) C dX6_readSign_182 (by decide) ?_
    refine aw_sub (lv' := []) [] rfl ?_
    exact T_X6_readSign_254 C hE s15 h
  have h := bq_f q21 h
  by_cases q22 : x1 = (62 : Int32)
  · have h := bq_t q22 h
    refine aw_table (tgt := 153) C 142 dX6_readSign_11 (by rw [q22]; decide) (by rw [q22]; decide) (by rw [q22]; decide) (by decide) ?_
    refine aw_aload_n C 0 dX6_readSign_153 rfl ?_
    refine aw_aload_n C 0 dX6_readSign_154 rfl ?_
    refine aw_bipush (v := 61) C dX6_readSign_155 (by decide) ?_
    obtain ⟨⟨v16, s17⟩, cw18, h⟩ := oC_e h
    have h := oL_e (x := s17) rfl (oL_e (x := v16) rfl h)
    refine aw_callVi (n := 1) (As := [.int (61 : Int32)]) (rest := [.ref (N.1 1)]) (q0 := 1) C (c_X6_follows l D N s1 s17 (61 : Int32) v16 cw18) lw_14_14 lw_14_15 lw_14_16 lw_2_1 lw_14_17 rfl rfl (by decide +kernel) ⟨Nat.le_of_ble_eq_true rfl, Nat.le_of_ble_eq_true rfl⟩ rfl rfl rfl rfl rfl (Nat.le_of_ble_eq_true rfl) dX6_readSign_157 ?_
    refine aw_if_eq (tgt := 168) C dX6_readSign_160 (by decide) (fun q => ?_) (fun q => ?_)
    · have h := bq_t q h
      refine aw_bipush (v := 30) C dX6_readSign_168 (by decide) ?_
      refine aw_sub (lv' := []) [] rfl ?_
      exact T_X6_readSign_170 C hE s17 (30 : Int32) h
    · have h := bq_f q h
      refine aw_bipush (v := 29) C dX6_readSign_163 (by decide) ?_
      refine aw_goto (tgt := 170) C dX6_readSign_165 (by decide) ?_
      refine aw_sub (lv' := []) [] rfl ?_
      exact T_X6_readSign_170 C hE s17 (29 : Int32) h
  have h := bq_f q22 h
  refine aw_tableO (tgt := 248) C dX6_readSign_11 (by have n0 := sw_ne (k := 40) (by decide) q0; have n1 := sw_ne (k := 41) (by decide) q1; have n2 := sw_ne (k := 42) (by decide) q2; have n3 := sw_ne (k := 43) (by decide) q3; have n4 := sw_ne (k := 44) (by decide) q4; have n5 := sw_ne (k := 45) (by decide) q5; have n6 := sw_ne (k := 46) (by decide) q6; have n7 := sw_ne (k := 47) (by decide) q7; have n8 := sw_ne (k := 48) (by decide) q8; have n9 := sw_ne (k := 49) (by decide) q9; have n10 := sw_ne (k := 50) (by decide) q10; have n11 := sw_ne (k := 51) (by decide) q11; have n12 := sw_ne (k := 52) (by decide) q12; have n13 := sw_ne (k := 53) (by decide) q13; have n14 := sw_ne (k := 54) (by decide) q14; have n15 := sw_ne (k := 55) (by decide) q15; have n16 := sw_ne (k := 56) (by decide) q16; have n17 := sw_ne (k := 57) (by decide) q17; have n18 := sw_ne (k := 58) (by decide) q18; have n19 := sw_ne (k := 59) (by decide) q19; have n20 := sw_ne (k := 60) (by decide) q20; have n21 := sw_ne (k := 61) (by decide) q21; have n22 := sw_ne (k := 62) (by decide) q22; omega) (by decide) ?_
  refine aw_sub (lv' := [(0, .ref (N.1 1))]) [0] rfl ?_
  exact T_X6_readSign_248 C hE s1 h
def f_X6_readSign (s0 : St) (x1 : Int32) : Option (St) := F_X6_readSign_0 s0 x1
theorem c_X6_readSign (l : Launch) (D : va_G) (N : Nm) (s0 z1 : St) (x1 : Int32) (h : f_X6_readSign s0 x1 = some z1) : Metv l yX6_readSign (tsU yX6_readSign cX6_readSign 2 none) rm_X6_readSign D N [.ref (N.1 1), .int x1] (wC N s0) (wC N z1) :=
  met_v (cc := cX6_readSign) (nL := 2) (own := RX6) (by decide) rfl (Nat.le_of_ble_eq_true rfl) (fun p e s m args below meth c Q A C hE => aw_sub [0, 1] rfl (T_X6_readSign_0 C hE s0 x1 h))
/-! AwardLine$Reader.readNumber()V -/
def rm_X6_readNumber : Room := { frames := 1, cells := 0, slots := 0, locals := 20 }
def F_X6_readNumber_78 (s0 : St) : Option (St) :=
  oL (sI s0 6 (20 : Int32)) fun s1 =>
  some s1
set_option maxHeartbeats 4000000 in
set_option maxRecDepth 100000 in
theorem T_X6_readNumber_78 {z1 : St} (C : Cx p rm_X6_readNumber s m args c D A cX6_readNumber 1 RX6 rm_X6_readNumber N) (hE : En p l e rm_X6_readNumber s m args below meth c Q D A cX6_readNumber .return_ (wC N z1) [])  (s0 : St) (h : F_X6_readNumber_78 s0 = some z1) : Aw p l e rm_X6_readNumber s m args below meth c Q D A 1 (wC N s0) 78 [(0, .ref (N.1 1))] [] := by
  unfold F_X6_readNumber_78 at h
  refine aw_aload_n C 0 dX6_readNumber_78 rfl ?_
  refine aw_bipush (v := 20) C dX6_readNumber_79 (by decide) ?_
  refine cp_rd_token C lw_11_7 dX6_readNumber_81 ?_
  refine ca_name (fun s1 es1 => ?_)
  have h := oL_e es1 h
  cases h
  exact aw_ret hE dX6_readNumber_84
def F_X6_readNumber_65 (k5 : St → Option (St)) (s0 : St) : Option (St) :=
  oL (sI s0 5 ((s0.1 5) + (1 : Int32))) fun s1 =>
  k5 s1
set_option maxHeartbeats 4000000 in
set_option maxRecDepth 100000 in
theorem T_X6_readNumber_65 {z1 : St} {k5 : St → Option (St)} (C : Cx p rm_X6_readNumber s m args c D A cX6_readNumber 1 RX6 rm_X6_readNumber N) (hE : En p l e rm_X6_readNumber s m args below meth c Q D A cX6_readNumber .return_ (wC N z1) []) (hk5 : ∀ (s0 : St), k5 s0 = some z1 → Aw p l e rm_X6_readNumber s m args below meth c Q D A 1 (wC N s0) 5 [(0, .ref (N.1 1))] []) (s0 : St) (h : F_X6_readNumber_65 k5 s0 = some z1) : Aw p l e rm_X6_readNumber s m args below meth c Q D A 1 (wC N s0) 65 [(0, .ref (N.1 1))] [] := by
  unfold F_X6_readNumber_65 at h
  refine aw_aload_n C 0 dX6_readNumber_65 rfl ?_
  refine aw_dup C dX6_readNumber_66 rfl ?_
  refine cg_rd_at C lw_11_3 dX6_readNumber_67 ?_
  refine aw_iconst (v := 1) C dX6_readNumber_70 (by decide) ?_
  refine aw_iadd C dX6_readNumber_71 ?_
  refine cp_rd_at C lw_11_3 dX6_readNumber_72 ?_
  refine ca_name (fun s1 es1 => ?_)
  have h := oL_e es1 h
  refine aw_goto (tgt := 5) C dX6_readNumber_75 (by decide) ?_
  refine aw_sub (lv' := [(0, .ref (N.1 1))]) [0] rfl ?_
  exact hk5 s1 h
def F_X6_readNumber_5_b (k5 : St → Option (St)) (s0 : St) : Option (St) :=
  if (s0.1 4) ≤ (s0.1 5) then (
    F_X6_readNumber_78 s0)
  else (
    oA (s0.1 5) 400 <|
    oC (f_X6_isDigit s0 (s0.2.1 0 (Int32.toNatClampNeg (s0.1 5)))) fun w4 =>
    oL w4.1 fun v2 => oL w4.2 fun s3 =>
    if v2 = 0 then (
      F_X6_readNumber_78 s3)
    else (
      if (9999 : Int32) < (s3.1 8) then (
        F_X6_readNumber_65 k5 s3)
      else (
        oA (s3.1 5) 400 <|
        oL (sI s3 8 ((((s3.1 8) * (10 : Int32)) + (s3.2.1 0 (Int32.toNatClampNeg (s3.1 5)))) - (48 : Int32))) fun s6 =>
        F_X6_readNumber_65 k5 s6)))
set_option maxHeartbeats 4000000 in
set_option maxRecDepth 100000 in
theorem T_X6_readNumber_5_b {z1 : St} {k5 : St → Option (St)} (C : Cx p rm_X6_readNumber s m args c D A cX6_readNumber 1 RX6 rm_X6_readNumber N) (hE : En p l e rm_X6_readNumber s m args below meth c Q D A cX6_readNumber .return_ (wC N z1) []) (hk5 : ∀ (s0 : St), k5 s0 = some z1 → Aw p l e rm_X6_readNumber s m args below meth c Q D A 1 (wC N s0) 5 [(0, .ref (N.1 1))] []) (s0 : St) (h : F_X6_readNumber_5_b k5 s0 = some z1) : Aw p l e rm_X6_readNumber s m args below meth c Q D A 1 (wC N s0) 5 [(0, .ref (N.1 1))] [] := by
  unfold F_X6_readNumber_5_b at h
  refine aw_aload_n C 0 dX6_readNumber_5 rfl ?_
  refine cg_rd_at C lw_11_3 dX6_readNumber_6 ?_
  refine aw_aload_n C 0 dX6_readNumber_9 rfl ?_
  refine cg_rd_length C lw_11_2 dX6_readNumber_10 ?_
  refine aw_icmp_ge (tgt := 78) C dX6_readNumber_13 (by decide) (fun q => ?_) (fun q => ?_)
  · have h := bq_t q h
    refine aw_sub (lv' := [(0, .ref (N.1 1))]) [0] rfl ?_
    exact T_X6_readNumber_78 C hE s0 h
  · have h := bq_f q h
    refine aw_aload_n C 0 dX6_readNumber_16 rfl ?_
    refine cg_rd_tape C lw_5_10 dX6_readNumber_17 ?_
    refine aw_aload_n C 0 dX6_readNumber_20 rfl ?_
    refine cg_rd_at C lw_11_3 dX6_readNumber_21 ?_
    obtain ⟨q1, h⟩ := oA_e h
    refine ca_iald (k := 0) C (by decide) rfl q1 dX6_readNumber_24 ?_
    obtain ⟨⟨v2, s3⟩, cw4, h⟩ := oC_e h
    have h := oL_e (x := s3) rfl (oL_e (x := v2) rfl h)
    refine aw_callSi (n := 1) (As := [.int (s0.2.1 0 (Int32.toNatClampNeg (s0.1 5)))]) (rest := []) C (c_X6_isDigit l D N s0 s3 (s0.2.1 0 (Int32.toNatClampNeg (s0.1 5))) v2 cw4) lw_14_2 lw_14_3 lw_2_1 lw_14_4 rfl rfl (by decide +kernel) ⟨Nat.le_of_ble_eq_true rfl, Nat.le_of_ble_eq_true rfl⟩ rfl rfl (Nat.le_of_ble_eq_true rfl) dX6_readNumber_25 ?_
    refine aw_if_eq (tgt := 78) C dX6_readNumber_28 (by decide) (fun q => ?_) (fun q => ?_)
    · have h := bq_t q h
      refine aw_sub (lv' := [(0, .ref (N.1 1))]) [0] rfl ?_
      exact T_X6_readNumber_78 C hE s3 h
    · have h := bq_f q h
      refine aw_aload_n C 0 dX6_readNumber_31 rfl ?_
      refine cg_rd_number C lw_14_9 dX6_readNumber_32 ?_
      refine aw_sipush (v := 9999) C dX6_readNumber_35 (by decide) ?_
      refine aw_icmp_gt (tgt := 65) C dX6_readNumber_38 (by decide) (fun q => ?_) (fun q => ?_)
      · have h := bq_t q h
        refine aw_sub (lv' := [(0, .ref (N.1 1))]) [0] rfl ?_
        exact T_X6_readNumber_65 C hE hk5 s3 h
      · have h := bq_f q h
        refine aw_aload_n C 0 dX6_readNumber_41 rfl ?_
        refine aw_aload_n C 0 dX6_readNumber_42 rfl ?_
        refine cg_rd_number C lw_14_9 dX6_readNumber_43 ?_
        refine aw_bipush (v := 10) C dX6_readNumber_46 (by decide) ?_
        refine aw_imul C dX6_readNumber_48 ?_
        refine aw_aload_n C 0 dX6_readNumber_49 rfl ?_
        refine cg_rd_tape C lw_5_10 dX6_readNumber_50 ?_
        refine aw_aload_n C 0 dX6_readNumber_53 rfl ?_
        refine cg_rd_at C lw_11_3 dX6_readNumber_54 ?_
        obtain ⟨q5, h⟩ := oA_e h
        refine ca_iald (k := 0) C (by decide) rfl q5 dX6_readNumber_57 ?_
        refine aw_iadd C dX6_readNumber_58 ?_
        refine aw_bipush (v := 48) C dX6_readNumber_59 (by decide) ?_
        refine aw_isub C dX6_readNumber_61 ?_
        refine cp_rd_number C lw_14_9 dX6_readNumber_62 ?_
        refine ca_name (fun s6 es6 => ?_)
        have h := oL_e es6 h
        refine aw_sub (lv' := [(0, .ref (N.1 1))]) [0] rfl ?_
        exact T_X6_readNumber_65 C hE hk5 s6 h
def F_X6_readNumber_5 : Nat → St → Option (St)
  | 0 => fun _ => none
  | n + 1 => F_X6_readNumber_5_b (F_X6_readNumber_5 n)
theorem T_X6_readNumber_5 {z1 : St} (C : Cx p rm_X6_readNumber s m args c D A cX6_readNumber 1 RX6 rm_X6_readNumber N) (hE : En p l e rm_X6_readNumber s m args below meth c Q D A cX6_readNumber .return_ (wC N z1) [])  : ∀ (n : Nat) (s0 : St), F_X6_readNumber_5 n s0 = some z1 → Aw p l e rm_X6_readNumber s m args below meth c Q D A 1 (wC N s0) 5 [(0, .ref (N.1 1))] [] := by
  intro n
  induction n with
  | zero => intro s0 h; cases h
  | succ n ih => intro s0 h; exact T_X6_readNumber_5_b C hE ih s0 h
def F_X6_readNumber_0 (s0 : St) : Option (St) :=
  oL (sI s0 8 (0 : Int32)) fun s1 =>
  F_X6_readNumber_5 100000 s1
set_option maxHeartbeats 4000000 in
set_option maxRecDepth 100000 in
theorem T_X6_readNumber_0 {z1 : St} (C : Cx p rm_X6_readNumber s m args c D A cX6_readNumber 1 RX6 rm_X6_readNumber N) (hE : En p l e rm_X6_readNumber s m args below meth c Q D A cX6_readNumber .return_ (wC N z1) [])  (s0 : St) (h : F_X6_readNumber_0 s0 = some z1) : Aw p l e rm_X6_readNumber s m args below meth c Q D A 1 (wC N s0) 0 [(0, .ref (N.1 1))] [] := by
  unfold F_X6_readNumber_0 at h
  refine aw_aload_n C 0 dX6_readNumber_0 rfl ?_
  refine aw_iconst (v := 0) C dX6_readNumber_1 (by decide) ?_
  refine cp_rd_number C lw_14_9 dX6_readNumber_2 ?_
  refine ca_name (fun s1 es1 => ?_)
  have h := oL_e es1 h
  refine aw_sub (lv' := [(0, .ref (N.1 1))]) [0] rfl ?_
  exact T_X6_readNumber_5 C hE 100000 s1 h
def f_X6_readNumber (s0 : St) : Option (St) := F_X6_readNumber_0 s0
theorem c_X6_readNumber (l : Launch) (D : va_G) (N : Nm) (s0 z1 : St) (h : f_X6_readNumber s0 = some z1) : Metv l yX6_readNumber (tsU yX6_readNumber cX6_readNumber 1 none) rm_X6_readNumber D N [.ref (N.1 1)] (wC N s0) (wC N z1) :=
  met_v (cc := cX6_readNumber) (nL := 1) (own := RX6) (by decide) rfl (Nat.le_of_ble_eq_true rfl) (fun p e s m args below meth c Q A C hE => aw_sub [0] rfl (T_X6_readNumber_0 C hE s0 h))
/-! AwardLine$Reader.rankOf(I)I -/
def rm_X6_rankOf : Room := { frames := 0, cells := 0, slots := 0, locals := 0 }
def F_X6_rankOf_69 (s0 : St) (t0 : Int32) : Option (Int32 × St) :=
  some (t0, s0)
set_option maxHeartbeats 4000000 in
set_option maxRecDepth 100000 in
theorem T_X6_rankOf_69 {r : Int32} {z1 : St} (C : Cx p rm_X6_rankOf s m args c D A cX6_rankOf 1 RX6 rm_X6_rankOf N) (hE : En p l e rm_X6_rankOf s m args below meth c Q D A cX6_rankOf .ireturn (wC N z1) [.int r])  (s0 : St) (t0 : Int32) (h : F_X6_rankOf_69 s0 t0 = some (r, z1)) : Aw p l e rm_X6_rankOf s m args below meth c Q D A 1 (wC N s0) 69 [] [.int t0] := by
  unfold F_X6_rankOf_69 at h
  cases h
  exact aw_ret hE dX6_rankOf_69
def F_X6_rankOf_68 (s0 : St) : Option (Int32 × St) :=
  F_X6_rankOf_69 s0 (-1 : Int32)
set_option maxHeartbeats 4000000 in
set_option maxRecDepth 100000 in
theorem T_X6_rankOf_68 {r : Int32} {z1 : St} (C : Cx p rm_X6_rankOf s m args c D A cX6_rankOf 1 RX6 rm_X6_rankOf N) (hE : En p l e rm_X6_rankOf s m args below meth c Q D A cX6_rankOf .ireturn (wC N z1) [.int r])  (s0 : St) (h : F_X6_rankOf_68 s0 = some (r, z1)) : Aw p l e rm_X6_rankOf s m args below meth c Q D A 1 (wC N s0) 68 [] [] := by
  unfold F_X6_rankOf_68 at h
  refine aw_iconst (v := -1) C dX6_rankOf_68 (by decide) ?_
  refine aw_sub (lv' := []) [] rfl ?_
  exact T_X6_rankOf_69 C hE s0 (-1 : Int32) h
def F_X6_rankOf_52 (s0 : St) (x0 : Int32) : Option (Int32 × St) :=
  if x0 < (25 : Int32) then (
    F_X6_rankOf_68 s0)
  else (
    if (30 : Int32) < x0 then (
      F_X6_rankOf_68 s0)
    else (
      F_X6_rankOf_69 s0 (3 : Int32)))
set_option maxHeartbeats 4000000 in
set_option maxRecDepth 100000 in
theorem T_X6_rankOf_52 {r : Int32} {z1 : St} (C : Cx p rm_X6_rankOf s m args c D A cX6_rankOf 1 RX6 rm_X6_rankOf N) (hE : En p l e rm_X6_rankOf s m args below meth c Q D A cX6_rankOf .ireturn (wC N z1) [.int r])  (s0 : St) (x0 : Int32) (h : F_X6_rankOf_52 s0 x0 = some (r, z1)) : Aw p l e rm_X6_rankOf s m args below meth c Q D A 1 (wC N s0) 52 [(0, .int x0)] [] := by
  unfold F_X6_rankOf_52 at h
  refine aw_iload_n C 0 dX6_rankOf_52 rfl ?_
  refine aw_bipush (v := 25) C dX6_rankOf_53 (by decide) ?_
  refine aw_icmp_lt (tgt := 68) C dX6_rankOf_55 (by decide) (fun q => ?_) (fun q => ?_)
  · have h := bq_t q h
    refine aw_sub (lv' := []) [] rfl ?_
    exact T_X6_rankOf_68 C hE s0 h
  · have h := bq_f q h
    refine aw_iload_n C 0 dX6_rankOf_58 rfl ?_
    refine aw_bipush (v := 30) C dX6_rankOf_59 (by decide) ?_
    refine aw_icmp_gt (tgt := 68) C dX6_rankOf_61 (by decide) (fun q => ?_) (fun q => ?_)
    · have h := bq_t q h
      refine aw_sub (lv' := []) [] rfl ?_
      exact T_X6_rankOf_68 C hE s0 h
    · have h := bq_f q h
      refine aw_iconst (v := 3) C dX6_rankOf_64 (by decide) ?_
      refine aw_goto (tgt := 69) C dX6_rankOf_65 (by decide) ?_
      refine aw_sub (lv' := []) [] rfl ?_
      exact T_X6_rankOf_69 C hE s0 (3 : Int32) h
def F_X6_rankOf_48 (s0 : St) : Option (Int32 × St) :=
  some ((4 : Int32), s0)
set_option maxHeartbeats 4000000 in
set_option maxRecDepth 100000 in
theorem T_X6_rankOf_48 {r : Int32} {z1 : St} (C : Cx p rm_X6_rankOf s m args c D A cX6_rankOf 1 RX6 rm_X6_rankOf N) (hE : En p l e rm_X6_rankOf s m args below meth c Q D A cX6_rankOf .ireturn (wC N z1) [.int r])  (s0 : St) (h : F_X6_rankOf_48 s0 = some (r, z1)) : Aw p l e rm_X6_rankOf s m args below meth c Q D A 1 (wC N s0) 48 [] [] := by
  unfold F_X6_rankOf_48 at h
  refine aw_iconst (v := 4) C dX6_rankOf_48 (by decide) ?_
  cases h
  exact aw_ret hE dX6_rankOf_49
def F_X6_rankOf_50 (s0 : St) : Option (Int32 × St) :=
  some ((5 : Int32), s0)
set_option maxHeartbeats 4000000 in
set_option maxRecDepth 100000 in
theorem T_X6_rankOf_50 {r : Int32} {z1 : St} (C : Cx p rm_X6_rankOf s m args c D A cX6_rankOf 1 RX6 rm_X6_rankOf N) (hE : En p l e rm_X6_rankOf s m args below meth c Q D A cX6_rankOf .ireturn (wC N z1) [.int r])  (s0 : St) (h : F_X6_rankOf_50 s0 = some (r, z1)) : Aw p l e rm_X6_rankOf s m args below meth c Q D A 1 (wC N s0) 50 [] [] := by
  unfold F_X6_rankOf_50 at h
  refine aw_iconst (v := 5) C dX6_rankOf_50 (by decide) ?_
  cases h
  exact aw_ret hE dX6_rankOf_51
def F_X6_rankOf_0 (s0 : St) (x0 : Int32) : Option (Int32 × St) :=
  if x0 = 18 then (
    some ((1 : Int32), s0))
  else (
  if x0 = 19 then (
    some ((0 : Int32), s0))
  else (
  if x0 = 20 then (
    F_X6_rankOf_52 s0 x0)
  else (
  if x0 = 21 then (
    F_X6_rankOf_48 s0)
  else (
  if x0 = 22 then (
    F_X6_rankOf_48 s0)
  else (
  if x0 = 23 then (
    F_X6_rankOf_50 s0)
  else (
  if x0 = 24 then (
    F_X6_rankOf_50 s0)
  else (
    F_X6_rankOf_52 s0 x0)))))))
set_option maxHeartbeats 4000000 in
set_option maxRecDepth 100000 in
theorem T_X6_rankOf_0 {r : Int32} {z1 : St} (C : Cx p rm_X6_rankOf s m args c D A cX6_rankOf 1 RX6 rm_X6_rankOf N) (hE : En p l e rm_X6_rankOf s m args below meth c Q D A cX6_rankOf .ireturn (wC N z1) [.int r])  (s0 : St) (x0 : Int32) (h : F_X6_rankOf_0 s0 x0 = some (r, z1)) : Aw p l e rm_X6_rankOf s m args below meth c Q D A 1 (wC N s0) 0 [(0, .int x0)] [] := by
  unfold F_X6_rankOf_0 at h
  refine aw_iload_n C 0 dX6_rankOf_0 rfl ?_
  by_cases q0 : x0 = (18 : Int32)
  · have h := bq_t q0 h
    refine aw_table (tgt := 46) C 45 dX6_rankOf_1 (by rw [q0]; decide) (by rw [q0]; decide) (by rw [q0]; decide) (by decide) ?_
    refine aw_iconst (v := 1) C dX6_rankOf_46 (by decide) ?_
    cases h
    exact aw_ret hE dX6_rankOf_47
  have h := bq_f q0 h
  by_cases q1 : x0 = (19 : Int32)
  · have h := bq_t q1 h
    refine aw_table (tgt := 44) C 43 dX6_rankOf_1 (by rw [q1]; decide) (by rw [q1]; decide) (by rw [q1]; decide) (by decide) ?_
    refine aw_iconst (v := 0) C dX6_rankOf_44 (by decide) ?_
    cases h
    exact aw_ret hE dX6_rankOf_45
  have h := bq_f q1 h
  by_cases q2 : x0 = (20 : Int32)
  · have h := bq_t q2 h
    refine aw_table (tgt := 52) C 51 dX6_rankOf_1 (by rw [q2]; decide) (by rw [q2]; decide) (by rw [q2]; decide) (by decide) ?_
    refine aw_sub (lv' := [(0, .int x0)]) [0] rfl ?_
    exact T_X6_rankOf_52 C hE s0 x0 h
  have h := bq_f q2 h
  by_cases q3 : x0 = (21 : Int32)
  · have h := bq_t q3 h
    refine aw_table (tgt := 48) C 47 dX6_rankOf_1 (by rw [q3]; decide) (by rw [q3]; decide) (by rw [q3]; decide) (by decide) ?_
    refine aw_sub (lv' := []) [] rfl ?_
    exact T_X6_rankOf_48 C hE s0 h
  have h := bq_f q3 h
  by_cases q4 : x0 = (22 : Int32)
  · have h := bq_t q4 h
    refine aw_table (tgt := 48) C 47 dX6_rankOf_1 (by rw [q4]; decide) (by rw [q4]; decide) (by rw [q4]; decide) (by decide) ?_
    refine aw_sub (lv' := []) [] rfl ?_
    exact T_X6_rankOf_48 C hE s0 h
  have h := bq_f q4 h
  by_cases q5 : x0 = (23 : Int32)
  · have h := bq_t q5 h
    refine aw_table (tgt := 50) C 49 dX6_rankOf_1 (by rw [q5]; decide) (by rw [q5]; decide) (by rw [q5]; decide) (by decide) ?_
    refine aw_sub (lv' := []) [] rfl ?_
    exact T_X6_rankOf_50 C hE s0 h
  have h := bq_f q5 h
  by_cases q6 : x0 = (24 : Int32)
  · have h := bq_t q6 h
    refine aw_table (tgt := 50) C 49 dX6_rankOf_1 (by rw [q6]; decide) (by rw [q6]; decide) (by rw [q6]; decide) (by decide) ?_
    refine aw_sub (lv' := []) [] rfl ?_
    exact T_X6_rankOf_50 C hE s0 h
  have h := bq_f q6 h
  refine aw_tableO (tgt := 52) C dX6_rankOf_1 (by have n0 := sw_ne (k := 18) (by decide) q0; have n1 := sw_ne (k := 19) (by decide) q1; have n2 := sw_ne (k := 20) (by decide) q2; have n3 := sw_ne (k := 21) (by decide) q3; have n4 := sw_ne (k := 22) (by decide) q4; have n5 := sw_ne (k := 23) (by decide) q5; have n6 := sw_ne (k := 24) (by decide) q6; omega) (by decide) ?_
  refine aw_sub (lv' := [(0, .int x0)]) [0] rfl ?_
  exact T_X6_rankOf_52 C hE s0 x0 h
def f_X6_rankOf (s0 : St) (x0 : Int32) : Option (Int32 × St) := F_X6_rankOf_0 s0 x0
theorem c_X6_rankOf (l : Launch) (D : va_G) (N : Nm) (s0 z1 : St) (x0 : Int32) (r : Int32) (h : f_X6_rankOf s0 x0 = some (r, z1)) : Meti l yX6_rankOf (tsU yX6_rankOf cX6_rankOf 1 (some .int)) rm_X6_rankOf D N [.int x0] (wC N s0) r (wC N z1) :=
  met_i (cc := cX6_rankOf) (nL := 1) (own := RX6) (by decide) rfl (Nat.le_of_ble_eq_true rfl) (fun p e s m args below meth c Q A C hE => aw_sub [0] rfl (T_X6_rankOf_0 C hE s0 x0 h))
/-! AwardLine$Reader.emit(II)V -/
def rm_X6_emit : Room := { frames := 0, cells := 0, slots := 0, locals := 0 }
def F_X6_emit_57 (s0 : St) : Option (St) :=
  some s0
set_option maxHeartbeats 4000000 in
set_option maxRecDepth 100000 in
theorem T_X6_emit_57 {z1 : St} (C : Cx p rm_X6_emit s m args c D A cX6_emit 3 RX6 rm_X6_emit N) (hE : En p l e rm_X6_emit s m args below meth c Q D A cX6_emit .return_ (wC N z1) [])  (s0 : St) (h : F_X6_emit_57 s0 = some z1) : Aw p l e rm_X6_emit s m args below meth c Q D A 3 (wC N s0) 57 [] [] := by
  unfold F_X6_emit_57 at h
  cases h
  exact aw_ret hE dX6_emit_57
def F_X6_emit_0 (s0 : St) (x1 : Int32) (x2 : Int32) : Option (St) :=
  oT (s0.1 12) <|
  if (64 : Int32) ≤ (s0.1 20) then (
    F_X6_emit_57 s0)
  else (
    oT (s0.1 12) <|
    oT (s0.1 12) <|
    oA (s0.1 20) 64 <|
    oL (sA s0 5 (upd (s0.2.1 5) (Int32.toNatClampNeg (s0.1 20)) x1)) fun s5 =>
    oT (s5.1 12) <|
    oT (s5.1 12) <|
    oA (s5.1 20) 64 <|
    oL (sA s5 6 (upd (s5.2.1 6) (Int32.toNatClampNeg (s5.1 20)) x2)) fun s9 =>
    oT (s9.1 12) <|
    oL (sI s9 20 ((s9.1 20) + (1 : Int32))) fun s11 =>
    F_X6_emit_57 s11)
set_option maxHeartbeats 4000000 in
set_option maxRecDepth 100000 in
theorem T_X6_emit_0 {z1 : St} (C : Cx p rm_X6_emit s m args c D A cX6_emit 3 RX6 rm_X6_emit N) (hE : En p l e rm_X6_emit s m args below meth c Q D A cX6_emit .return_ (wC N z1) [])  (s0 : St) (x1 : Int32) (x2 : Int32) (h : F_X6_emit_0 s0 x1 x2 = some z1) : Aw p l e rm_X6_emit s m args below meth c Q D A 3 (wC N s0) 0 [(0, .ref (N.1 1)), (1, .int x1), (2, .int x2)] [] := by
  unfold F_X6_emit_0 at h
  refine aw_aload_n C 0 dX6_emit_0 rfl ?_
  obtain ⟨q1, h⟩ := oT_e h
  refine cg_rd_into C lw_10_21 dX6_emit_1 ?_
  refine aw_into q1 ?_
  refine cg_ts_knots C lw_16_8 dX6_emit_4 ?_
  refine aw_bipush (v := 64) C dX6_emit_7 (by decide) ?_
  refine aw_icmp_ge (tgt := 57) C dX6_emit_9 (by decide) (fun q => ?_) (fun q => ?_)
  · have h := bq_t q h
    refine aw_sub (lv' := []) [] rfl ?_
    exact T_X6_emit_57 C hE s0 h
  · have h := bq_f q h
    refine aw_aload_n C 0 dX6_emit_12 rfl ?_
    obtain ⟨q2, h⟩ := oT_e h
    refine cg_rd_into C lw_10_21 dX6_emit_13 ?_
    refine aw_into q2 ?_
    refine cg_ts_knot C lw_16_9 dX6_emit_16 ?_
    refine aw_aload_n C 0 dX6_emit_19 rfl ?_
    obtain ⟨q3, h⟩ := oT_e h
    refine cg_rd_into C lw_10_21 dX6_emit_20 ?_
    refine aw_into q3 ?_
    refine cg_ts_knots C lw_16_8 dX6_emit_23 ?_
    refine aw_iload_n C 1 dX6_emit_26 rfl ?_
    obtain ⟨q4, h⟩ := oA_e h
    refine ca_iast (k := 5) C (by decide) rfl q4 dX6_emit_27 ?_
    refine ca_name (fun s5 es5 => ?_)
    have h := oL_e es5 h
    refine aw_aload_n C 0 dX6_emit_28 rfl ?_
    obtain ⟨q6, h⟩ := oT_e h
    refine cg_rd_into C lw_10_21 dX6_emit_29 ?_
    refine aw_into q6 ?_
    refine cg_ts_number C lw_16_10 dX6_emit_32 ?_
    refine aw_aload_n C 0 dX6_emit_35 rfl ?_
    obtain ⟨q7, h⟩ := oT_e h
    refine cg_rd_into C lw_10_21 dX6_emit_36 ?_
    refine aw_into q7 ?_
    refine cg_ts_knots C lw_16_8 dX6_emit_39 ?_
    refine aw_iload_n C 2 dX6_emit_42 rfl ?_
    obtain ⟨q8, h⟩ := oA_e h
    refine ca_iast (k := 6) C (by decide) rfl q8 dX6_emit_43 ?_
    refine ca_name (fun s9 es9 => ?_)
    have h := oL_e es9 h
    refine aw_aload_n C 0 dX6_emit_44 rfl ?_
    obtain ⟨q10, h⟩ := oT_e h
    refine cg_rd_into C lw_10_21 dX6_emit_45 ?_
    refine aw_into q10 ?_
    refine aw_dup C dX6_emit_48 rfl ?_
    refine cg_ts_knots C lw_16_8 dX6_emit_49 ?_
    refine aw_iconst (v := 1) C dX6_emit_52 (by decide) ?_
    refine aw_iadd C dX6_emit_53 ?_
    refine cp_ts_knots C lw_16_8 dX6_emit_54 ?_
    refine ca_name (fun s11 es11 => ?_)
    have h := oL_e es11 h
    refine aw_sub (lv' := []) [] rfl ?_
    exact T_X6_emit_57 C hE s11 h
def f_X6_emit (s0 : St) (x1 : Int32) (x2 : Int32) : Option (St) := F_X6_emit_0 s0 x1 x2
theorem c_X6_emit (l : Launch) (D : va_G) (N : Nm) (s0 z1 : St) (x1 : Int32) (x2 : Int32) (h : f_X6_emit s0 x1 x2 = some z1) : Metv l yX6_emit (tsU yX6_emit cX6_emit 3 none) rm_X6_emit D N [.ref (N.1 1), .int x1, .int x2] (wC N s0) (wC N z1) :=
  met_v (cc := cX6_emit) (nL := 3) (own := RX6) (by decide) rfl (Nat.le_of_ble_eq_true rfl) (fun p e s m args below meth c Q A C hE => aw_sub [0, 1, 2] rfl (T_X6_emit_0 C hE s0 x1 x2 h))
end WK
