/-! PURE: states under writing, frames, loops, bits, bitCount -/
theorem sI_i (z : St) (k j : Nat) (v : Int32) : (sI z k v).1 j = if j = k then v else z.1 j := rfl
theorem sA_a (z : St) (k j : Nat) (g : Nat → Int32) : (sA z k g).2.1 j = if j = k then g else z.2.1 j := rfl
theorem sA_j (z : St) (k : Nat) (g : Nat → Int32) : (sA z k g).2.2 = z.2.2 := rfl
theorem sI_a (z : St) (k : Nat) (v : Int32) : (sI z k v).2.1 = z.2.1 := rfl
theorem sI_j (z : St) (k : Nat) (v : Int32) : (sI z k v).2.2 = z.2.2 := rfl
theorem sJ_i (z : St) (k : Nat) (g : Nat → Int64) : (sJ z k g).1 = z.1 := rfl
theorem sJ_a (z : St) (k : Nat) (g : Nat → Int64) : (sJ z k g).2.1 = z.2.1 := rfl
theorem sJ_j (z : St) (k j : Nat) (g : Nat → Int64) : (sJ z k g).2.2 j = if j = k then g else z.2.2 j := rfl
theorem upd_i (f : Nat → Int32) (k j : Nat) (x : Int32) : upd f k x j = if j = k then x else f j := rfl
theorem oC_none {α R : Type} (k : α → Option R) : oC none k = none := rfl
/-- z' is z but for the int fields I and the arrays A -/
def fr (I A : List Nat) (z z' : St) : Prop := (∀ k, k ∉ I → z'.1 k = z.1 k) ∧ (∀ k, k ∉ A → z'.2.1 k = z.2.1 k)
theorem fr_0 {I A : List Nat} {z : St} : fr I A z z := ⟨fun _ _ => rfl, fun _ _ => rfl⟩
theorem fr_t {I A : List Nat} {x y z : St} (h1 : fr I A x y) (h2 : fr I A y z) : fr I A x z := ⟨fun k hk => (h2.1 k hk).trans (h1.1 k hk), fun k hk => (h2.2 k hk).trans (h1.2 k hk)⟩
theorem fr_m {I A I' A' : List Nat} {x y : St} (h1 : fr I A x y) (hI : ∀ k, k ∈ I → k ∈ I') (hA : ∀ k, k ∈ A → k ∈ A') : fr I' A' x y := ⟨fun k hk => h1.1 k (fun q => hk (hI k q)), fun k hk => h1.2 k (fun q => hk (hA k q))⟩
theorem fr_I {I A : List Nat} {x y : St} {k : Nat} {v : Int32} (h : fr I A x y) (hk : k ∈ I) : fr I A x (sI y k v) := ⟨fun j hj => by rw [sI_i, if_neg (fun q => hj (by rw [q]; exact hk))]; exact h.1 j hj, h.2⟩
theorem fr_A {I A : List Nat} {x y : St} {k : Nat} {g : Nat → Int32} (h : fr I A x y) (hk : k ∈ A) : fr I A x (sA y k g) := ⟨h.1, fun j hj => by rw [sA_a, if_neg (fun q => hj (by rw [q]; exact hk))]; exact h.2 j hj⟩
theorem fr_J {I A : List Nat} {x y : St} {k : Nat} {g : Nat → Int64} (h : fr I A x y) : fr I A x (sJ y k g) := ⟨h.1, h.2⟩
/-- a loop that counts down: j turns are left -/
theorem loop_d {σ : Type} (W : Nat → Nat → σ → Prop) (I : Nat → σ → Prop) (hx : ∀ n s, I 0 s → W (n + 1) 0 s) (hs : ∀ n j s, I (j + 1) s → (∀ s', I j s' → W n j s') → W (n + 1) (j + 1) s) : ∀ n j s, j < n → I j s → W n j s := by
  intro n
  induction n with
  | zero => intro j s h; omega
  | succ n ih =>
    intro j s hn hI
    cases j with
    | zero => exact hx n s hI
    | succ j => exact hs n j s hI (fun s' h' => ih j s' (by omega) h')
theorem i_lit (n : Nat) : (OfNat.ofNat n : Int32) = nI n := rfl
theorem nI_sub {a b : Nat} (h : b ≤ a) : nI a - nI b = nI (a - b) := by
  have e : nI a = nI (a - b) + nI b := by rw [nI_add]; congr 1; omega
  rw [e, Int32.add_sub_cancel]
theorem ushr_nI {a k : Nat} (ha : a < 4294967296) (hk : k < 32) : ushr (nI a) (nI k) = nI (a / 2 ^ k) := by
  have hs : a / 2 ^ k ≤ a := Nat.div_le_self _ _
  have e2 : UInt32.ofNat a >>> (UInt32.ofNat k &&& Int32.toUInt32 31) = UInt32.ofNat (a / 2 ^ k) := by
    apply UInt32.toNat_inj.1
    have h1 : (UInt32.ofNat a).toNat = a := Nat.mod_eq_of_lt (by omega)
    have h2 : (UInt32.ofNat (a / 2 ^ k)).toNat = a / 2 ^ k := Nat.mod_eq_of_lt (by omega)
    rw [UInt32.toNat_shiftRight, nx_cnt ⟨k, hk⟩, h1, h2, Nat.shiftRight_eq_div_pow]
  show (UInt32.ofNat a >>> (UInt32.ofNat k &&& Int32.toUInt32 31)).toInt32 = _
  rw [e2]
  rfl
theorem nI_all (x : Int32) : ∃ n, n < 4294967296 ∧ x = nI n := ⟨x.toBitVec.toNat, x.toBitVec.isLt, Int32.toBitVec_inj.1 (by show _ = BitVec.ofNat 32 _; simp)⟩
theorem bt_nI {n i : Nat} (hi : i < 32) : bt (nI n) i = n.testBit i := by
  show (BitVec.ofNat 32 n).getLsbD i = _
  rw [BitVec.getLsbD_ofNat, decide_eq_true hi, Bool.true_and]
theorem b_1 (i : Nat) : bt 1 i = decide (i = 0) := by
  rcases Nat.lt_or_ge i 32 with h | h
  · exact (by decide +kernel : ∀ i, i < 32 → bt 1 i = decide (i = 0)) i h
  · rw [b_big h, decide_eq_false (by omega)]
theorem b_not (x : Int32) {i : Nat} (hi : i < 32) : bt (x ^^^ (-1 : Int32)) i = !bt x i := by
  rw [b_xor, b_m1 i hi, Bool.xor_true]
theorem b_test (x : Int32) {v : Nat} (hv : v < 32) : ((x >>> (nI v &&& 31)) &&& (1 : Int32)) = if bt x v then 1 else 0 := by
  apply b_ext
  intro i hi
  rw [b_and, b_sshr v hv x hi, b_1]
  by_cases h : i = 0
  · subst h
    cases hb : bt x v <;> simp [hv, hb, b_0, b_1]
  · cases bt x v <;> simp [h, b_0, b_1]
theorem b_test0 (x : Int32) {v : Nat} (hv : v < 32) : ((x >>> (nI v &&& 31)) &&& (1 : Int32)) = 0 ↔ bt x v = false := by
  rw [b_test x hv]
  cases bt x v <;> decide
theorem b_one {v i : Nat} (hv : v < 32) (hi : i < 32) : bt ((1 : Int32) <<< (nI v &&& 31)) i = decide (i = v) := by
  rw [b_shl v hv _ hi, b_1]
  by_cases h : v ≤ i
  · rw [decide_eq_true h, Bool.true_and]
    exact decide_eq_decide.mpr (by omega)
  · rw [decide_eq_false h, Bool.false_and, decide_eq_false (by omega)]
theorem b_ush (x : Int32) {k i : Nat} (hk : k < 32) : bt (ushr x (nI k)) i = bt x (k + i) := b_ushr k hk x i
/-- bits below n alone -/
def bl (x : Int32) (n : Nat) : Prop := ∀ i, n ≤ i → bt x i = false
theorem bl_nI {x : Int32} {n : Nat} (hn : n ≤ 31) (h : bl x n) : ∃ k, k < 2 ^ n ∧ x = nI k := by
  obtain ⟨k, hk, rfl⟩ := nI_all x
  refine ⟨k, ?_, rfl⟩
  apply Nat.lt_pow_two_of_testBit
  intro i hi
  rcases Nat.lt_or_ge i 32 with q | q
  · rw [← bt_nI q]; exact h i hi
  · exact Nat.testBit_lt_two_pow (Nat.lt_of_lt_of_le (Nat.lt_of_lt_of_eq hk (show 4294967296 = 2 ^ 32 by decide)) (Nat.pow_le_pow_right (by omega) q))
theorem bl_of {k n : Nat} (hn : n ≤ 32) (h : k < 2 ^ n) : bl (nI k) n := by
  intro i hi
  rcases Nat.lt_or_ge i 32 with q | q
  · rw [bt_nI q]; exact Nat.testBit_lt_two_pow (Nat.lt_of_lt_of_le h (Nat.pow_le_pow_right (by omega) hi))
  · exact b_big q
