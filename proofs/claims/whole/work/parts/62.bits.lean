/-! PURE: states under writing, frames, loops, bits, bitCount -/
theorem sI_i (z : St) (k j : Nat) (v : Int32) : (sI z k v).1 j = if j = k then v else z.1 j := rfl
theorem sA_a (z : St) (k j : Nat) (g : Nat → Int32) : (sA z k g).2.1 j = if j = k then g else z.2.1 j := rfl
theorem sA_j (z : St) (k : Nat) (g : Nat → Int32) : (sA z k g).2.2 = z.2.2 := rfl
theorem sI_a (z : St) (k : Nat) (v : Int32) : (sI z k v).2.1 = z.2.1 := rfl
theorem sI_j (z : St) (k : Nat) (v : Int32) : (sI z k v).2.2 = z.2.2 := rfl
theorem sJ_i (z : St) (k : Nat) (g : Nat → Int64) : (sJ z k g).1 = z.1 := rfl
theorem sJ_a (z : St) (k : Nat) (g : Nat → Int64) : (sJ z k g).2.1 = z.2.1 := rfl
theorem sJ_j (z : St) (k j : Nat) (g : Nat → Int64) : (sJ z k g).2.2 j = if j = k then g else z.2.2 j := rfl
theorem upd_i (f : Nat → Int32) (k j : Nat) (x : Int32) : upd f k x j = if j = k then x else f j := rfl
theorem oC_none {α R : Type} (k : α → Option R) : oC none k = none := rfl
/-- z' is z but for the int fields I and the arrays A -/
def fr (I A : List Nat) (z z' : St) : Prop := (∀ k, k ∉ I → z'.1 k = z.1 k) ∧ (∀ k, k ∉ A → z'.2.1 k = z.2.1 k)
theorem fr_0 {I A : List Nat} {z : St} : fr I A z z := ⟨fun _ _ => rfl, fun _ _ => rfl⟩
theorem fr_t {I A : List Nat} {x y z : St} (h1 : fr I A x y) (h2 : fr I A y z) : fr I A x z := ⟨fun k hk => (h2.1 k hk).trans (h1.1 k hk), fun k hk => (h2.2 k hk).trans (h1.2 k hk)⟩
theorem fr_m {I A I' A' : List Nat} {x y : St} (h1 : fr I A x y) (hI : ∀ k, k ∈ I → k ∈ I') (hA : ∀ k, k ∈ A → k ∈ A') : fr I' A' x y := ⟨fun k hk => h1.1 k (fun q => hk (hI k q)), fun k hk => h1.2 k (fun q => hk (hA k q))⟩
theorem fr_I {I A : List Nat} {x y : St} {k : Nat} {v : Int32} (h : fr I A x y) (hk : k ∈ I) : fr I A x (sI y k v) := ⟨fun j hj => by rw [sI_i, if_neg (fun q => hj (by rw [q]; exact hk))]; exact h.1 j hj, h.2⟩
theorem fr_A {I A : List Nat} {x y : St} {k : Nat} {g : Nat → Int32} (h : fr I A x y) (hk : k ∈ A) : fr I A x (sA y k g) := ⟨h.1, fun j hj => by rw [sA_a, if_neg (fun q => hj (by rw [q]; exact hk))]; exact h.2 j hj⟩
theorem fr_J {I A : List Nat} {x y : St} {k : Nat} {g : Nat → Int64} (h : fr I A x y) : fr I A x (sJ y k g) := ⟨h.1, h.2⟩
/-- a loop that counts down: j turns are left -/
theorem loop_d {σ : Type} (W : Nat → Nat → σ → Prop) (I : Nat → σ → Prop) (hx : ∀ n s, I 0 s → W (n + 1) 0 s) (hs : ∀ n j s, I (j + 1) s → (∀ s', I j s' → W n j s') → W (n + 1) (j + 1) s) : ∀ n j s, j < n → I j s → W n j s := by
  intro n
  induction n with
  | zero => intro j s h; omega
  | succ n ih =>
    intro j s hn hI
    cases j with
    | zero => exact hx n s hI
    | succ j => exact hs n j s hI (fun s' h' => ih j s' (by omega) h')
theorem i_lit (n : Nat) : (OfNat.ofNat n : Int32) = nI n := rfl
theorem nI_sub {a b : Nat} (h : b ≤ a) : nI a - nI b = nI (a - b) := by
  have e : nI a = nI (a - b) + nI b := by rw [nI_add]; congr 1; omega
  rw [e, Int32.add_sub_cancel]
theorem ushr_nI {a k : Nat} (ha : a < 4294967296) (hk : k < 32) : ushr (nI a) (nI k) = nI (a / 2 ^ k) := by
  have hs : a / 2 ^ k ≤ a := Nat.div_le_self _ _
  have e2 : UInt32.ofNat a >>> (UInt32.ofNat k &&& Int32.toUInt32 31) = UInt32.ofNat (a / 2 ^ k) := by
    apply UInt32.toNat_inj.1
    have h1 : (UInt32.ofNat a).toNat = a := Nat.mod_eq_of_lt (by omega)
    have h2 : (UInt32.ofNat (a / 2 ^ k)).toNat = a / 2 ^ k := Nat.mod_eq_of_lt (by omega)
    rw [UInt32.toNat_shiftRight, nx_cnt ⟨k, hk⟩, h1, h2, Nat.shiftRight_eq_div_pow]
  show (UInt32.ofNat a >>> (UInt32.ofNat k &&& Int32.toUInt32 31)).toInt32 = _
  rw [e2]
  rfl
theorem nI_all (x : Int32) : ∃ n, n < 4294967296 ∧ x = nI n := ⟨x.toBitVec.toNat, x.toBitVec.isLt, Int32.toBitVec_inj.1 (by show _ = BitVec.ofNat 32 _; simp)⟩
theorem bt_nI {n i : Nat} (hi : i < 32) : bt (nI n) i = n.testBit i := by
  show (BitVec.ofNat 32 n).getLsbD i = _
  rw [BitVec.getLsbD_ofNat, decide_eq_true hi, Bool.true_and]
theorem b_1 (i : Nat) : bt 1 i = decide (i = 0) := by
  rcases Nat.lt_or_ge i 32 with h | h
  · exact (by decide +kernel : ∀ i, i < 32 → bt 1 i = decide (i = 0)) i h
  · rw [b_big h, decide_eq_false (by omega)]
theorem b_not (x : Int32) {i : Nat} (hi : i < 32) : bt (x ^^^ (-1 : Int32)) i = !bt x i := by
  rw [b_xor, b_m1 i hi, Bool.xor_true]
theorem b_test (x : Int32) {v : Nat} (hv : v < 32) : ((x >>> (nI v &&& 31)) &&& (1 : Int32)) = if bt x v then 1 else 0 := by
  apply b_ext
  intro i hi
  rw [b_and, b_sshr v hv x hi, b_1]
  by_cases h : i = 0
  · subst h
    cases hb : bt x v <;> simp [hv, hb, b_0, b_1]
  · cases bt x v <;> simp [h, b_0, b_1]
theorem b_test0 (x : Int32) {v : Nat} (hv : v < 32) : ((x >>> (nI v &&& 31)) &&& (1 : Int32)) = 0 ↔ bt x v = false := by
  rw [b_test x hv]
  cases bt x v <;> decide
theorem b_one {v i : Nat} (hv : v < 32) (hi : i < 32) : bt ((1 : Int32) <<< (nI v &&& 31)) i = decide (i = v) := by
  rw [b_shl v hv _ hi, b_1]
  by_cases h : v ≤ i
  · rw [decide_eq_true h, Bool.true_and]
    exact decide_eq_decide.mpr (by omega)
  · rw [decide_eq_false h, Bool.false_and, decide_eq_false (by omega)]
theorem b_ush (x : Int32) {k i : Nat} (hk : k < 32) : bt (ushr x (nI k)) i = bt x (k + i) := b_ushr k hk x i
/-- bits below n alone -/
def bl (x : Int32) (n : Nat) : Prop := ∀ i, n ≤ i → bt x i = false
theorem bl_nI {x : Int32} {n : Nat} (hn : n ≤ 31) (h : bl x n) : ∃ k, k < 2 ^ n ∧ x = nI k := by
  obtain ⟨k, hk, rfl⟩ := nI_all x
  refine ⟨k, ?_, rfl⟩
  apply Nat.lt_pow_two_of_testBit
  intro i hi
  rcases Nat.lt_or_ge i 32 with q | q
  · rw [← bt_nI q]; exact h i hi
  · exact Nat.testBit_lt_two_pow (Nat.lt_of_lt_of_le hk (Nat.pow_le_pow_right (by omega) q))
theorem bl_of {k n : Nat} (hn : n ≤ 32) (h : k < 2 ^ n) : bl (nI k) n := by
  intro i hi
  rcases Nat.lt_or_ge i 32 with q | q
  · rw [bt_nI q]; exact Nat.testBit_lt_two_pow (Nat.lt_of_lt_of_le h (Nat.pow_le_pow_right (by omega) hi))
  · exact b_big q
/-! Integer.bitCount -/
theorem and_cat {k a c x y : Nat} (ha : a < 2 ^ k) (hc : c < 2 ^ k) : (2 ^ k * x + a) &&& (2 ^ k * y + c) = 2 ^ k * (x &&& y) + (a &&& c) := by
  apply Nat.eq_of_testBit_eq
  intro i
  rw [Nat.testBit_and, Nat.testBit_two_pow_mul_add _ ha, Nat.testBit_two_pow_mul_add _ hc, Nat.testBit_two_pow_mul_add _ (Nat.lt_of_le_of_lt Nat.and_le_left ha)]
  split <;> simp [Nat.testBit_and]
def pM1 : Nat → Nat | 0 => 0 | k + 1 => 4 * pM1 k + 1
def pM2 : Nat → Nat | 0 => 0 | k + 1 => 16 * pM2 k + 3
def pM3 : Nat → Nat | 0 => 0 | k + 1 => 256 * pM3 k + 15
def pF1 : Nat → Nat → Nat | 0, _ => 0 | k + 1, n => 4 * pF1 k (n / 4) + (n % 2 + n / 2 % 2)
def pF2 : Nat → Nat → Nat | 0, _ => 0 | k + 1, n => 16 * pF2 k (n / 16) + ((n % 2 + n / 2 % 2) + (n / 4 % 2 + n / 8 % 2))
def pF3 : Nat → Nat → Nat | 0, _ => 0 | k + 1, n => 256 * pF3 k (n / 256) + ((n % 2 + n / 2 % 2) + (n / 4 % 2 + n / 8 % 2) + ((n / 16 % 2 + n / 32 % 2) + (n / 64 % 2 + n / 128 % 2)))
theorem pS1 : ∀ k n, n < 4 ^ k → n - (n / 2 &&& pM1 k) = pF1 k n
  | 0, n, h => by have e : n = 0 := by simp at h; exact h
                  subst e; rfl
  | k + 1, n, h => by
    have ih := pS1 k (n / 4) (by rw [Nat.pow_succ] at h; omega)
    have e : n / 2 = 2 ^ 2 * (n / 4 / 2) + (2 * (n / 4 % 2) + n / 2 % 2) := by omega
    have e2 : pM1 (k + 1) = 2 ^ 2 * pM1 k + 1 := rfl
    have a : (2 * (n / 4 % 2) + n / 2 % 2) &&& 1 = n / 2 % 2 := by rw [Nat.and_one_is_mod]; omega
    have le : n / 4 / 2 &&& pM1 k ≤ n / 4 / 2 := Nat.and_le_left
    rw [e2, e, and_cat (by omega) (by omega), a]
    show _ = 4 * pF1 k (n / 4) + (n % 2 + n / 2 % 2)
    rw [← ih]
    omega
theorem pS2 : ∀ k n, (pF1 (2 * k) n &&& pM2 k) + (pF1 (2 * k) n / 4 &&& pM2 k) = pF2 k n
  | 0, n => rfl
  | k + 1, n => by
    have ih := pS2 k (n / 16)
    have e0 : pF1 (2 * (k + 1)) n = 16 * pF1 (2 * k) (n / 16) + (4 * (n / 4 % 2 + n / 8 % 2) + (n % 2 + n / 2 % 2)) := by
      show 4 * (4 * pF1 (2 * k) (n / 4 / 4) + (n / 4 % 2 + n / 4 / 2 % 2)) + (n % 2 + n / 2 % 2) = _
      rw [Nat.div_div_eq_div_mul, Nat.div_div_eq_div_mul]
      omega
    have e2 : pM2 (k + 1) = 2 ^ 4 * pM2 k + 3 := rfl
    generalize hr : pF1 (2 * k) (n / 16) = r at *
    have l0 : n % 2 + n / 2 % 2 < 4 := by omega
    have l1 : n / 4 % 2 + n / 8 % 2 < 4 := by omega
    show _ = 16 * pF2 k (n / 16) + ((n % 2 + n / 2 % 2) + (n / 4 % 2 + n / 8 % 2))
    generalize hc0 : n % 2 + n / 2 % 2 = c0 at *
    generalize hc1 : n / 4 % 2 + n / 8 % 2 = c1 at *
    have e4 : (16 * r + (4 * c1 + c0)) / 4 = 2 ^ 4 * (r / 4) + (4 * (r % 4) + c1) := by omega
    have e5 : 16 * r + (4 * c1 + c0) = 2 ^ 4 * r + (4 * c1 + c0) := by omega
    have a1 : (4 * c1 + c0) &&& 3 = c0 := by rw [show (3 : Nat) = 2 ^ 2 - 1 from rfl, Nat.and_two_pow_sub_one_eq_mod]; omega
    have a2 : (4 * (r % 4) + c1) &&& 3 = c1 := by rw [show (3 : Nat) = 2 ^ 2 - 1 from rfl, Nat.and_two_pow_sub_one_eq_mod]; omega
    rw [e0, e2, e4, e5, and_cat (by omega) (by omega), and_cat (by omega) (by omega), a1, a2, ← ih]
    omega
theorem pF2_low (k n : Nat) : pF2 k n % 16 ≤ 4 := by
  cases k with
  | zero => exact Nat.zero_le _
  | succ k =>
    show (16 * pF2 k (n / 16) + ((n % 2 + n / 2 % 2) + (n / 4 % 2 + n / 8 % 2))) % 16 ≤ 4
    omega
theorem pS3 : ∀ k n, (pF2 (2 * k) n + pF2 (2 * k) n / 16) &&& pM3 k = pF3 k n
  | 0, n => rfl
  | k + 1, n => by
    have ih := pS3 k (n / 256)
    have lo := pF2_low (2 * k) (n / 256)
    have e0 : pF2 (2 * (k + 1)) n = 256 * pF2 (2 * k) (n / 256) + (16 * ((n / 16 % 2 + n / 32 % 2) + (n / 64 % 2 + n / 128 % 2)) + ((n % 2 + n / 2 % 2) + (n / 4 % 2 + n / 8 % 2))) := by
      show 16 * (16 * pF2 (2 * k) (n / 16 / 16) + ((n / 16 % 2 + n / 16 / 2 % 2) + (n / 16 / 4 % 2 + n / 16 / 8 % 2))) + _ = _
      simp only [Nat.div_div_eq_div_mul, Nat.reduceMul]
      omega
    have e2 : pM3 (k + 1) = 2 ^ 8 * pM3 k + 15 := rfl
    generalize hr : pF2 (2 * k) (n / 256) = r at *
    show _ = 256 * pF3 k (n / 256) + ((n % 2 + n / 2 % 2) + (n / 4 % 2 + n / 8 % 2) + ((n / 16 % 2 + n / 32 % 2) + (n / 64 % 2 + n / 128 % 2)))
    have l0 : (n % 2 + n / 2 % 2) + (n / 4 % 2 + n / 8 % 2) ≤ 4 := by omega
    have l1 : (n / 16 % 2 + n / 32 % 2) + (n / 64 % 2 + n / 128 % 2) ≤ 4 := by omega
    generalize hc0 : (n % 2 + n / 2 % 2) + (n / 4 % 2 + n / 8 % 2) = d0 at *
    generalize hc1 : (n / 16 % 2 + n / 32 % 2) + (n / 64 % 2 + n / 128 % 2) = d1 at *
    have e4 : 256 * r + (16 * d1 + d0) + (256 * r + (16 * d1 + d0)) / 16 = 2 ^ 8 * (r + r / 16) + (16 * (r % 16 + d1) + (d0 + d1)) := by omega
    have a1 : (16 * (r % 16 + d1) + (d0 + d1)) &&& 15 = d0 + d1 := by rw [show (15 : Nat) = 2 ^ 4 - 1 from rfl, Nat.and_two_pow_sub_one_eq_mod]; omega
    rw [e0, e2, e4, and_cat (by omega) (by omega), a1, ← ih]
theorem pF1_le : ∀ k n, pF1 k n < 4 ^ k
  | 0, _ => by decide
  | k + 1, n => by
    have ih := pF1_le k (n / 4)
    show 4 * pF1 k (n / 4) + (n % 2 + n / 2 % 2) < _
    rw [Nat.pow_succ]; omega
theorem pF2_le : ∀ k n, pF2 k n < 16 ^ k
  | 0, _ => by decide
  | k + 1, n => by
    have ih := pF2_le k (n / 16)
    show 16 * pF2 k (n / 16) + ((n % 2 + n / 2 % 2) + (n / 4 % 2 + n / 8 % 2)) < _
    rw [Nat.pow_succ]; omega
/-- how many bits x has -/
def pc (x : Int32) : Nat := fb_ct (bt x) 32
theorem pc_le (x : Int32) : pc x ≤ 32 := fb_ct_le _ _
theorem bt_n {n i : Nat} (hi : i < 32) : (if bt (nI n) i then 1 else 0) = n / 2 ^ i % 2 := by
  rw [bt_nI hi, Nat.testBit_eq_decide_div_mod_eq]
  by_cases h : n / 2 ^ i % 2 = 1
  · rw [decide_eq_true h, if_pos rfl, h]
  · rw [decide_eq_false h, if_neg (by decide)]; omega
theorem p_bitCount (z : St) (x : Int32) : f_J6_bitCount_0f7a4 z x = some (nI (pc x), z) := by
  obtain ⟨n, hn, rfl⟩ := nI_all x
  unfold f_J6_bitCount_0f7a4 F_J6_bitCount_0f7a4_0
  simp only [oL_eq, i_lit]
  have s1 := pS1 16 n (by omega)
  have s2 := pS2 8 n
  have s3 := pS3 4 n
  have l1 := pF1_le 16 n
  have l2 := pF2_le 8 n
  rw [show pM1 16 = 1431655765 from by decide] at s1
  rw [show pM2 8 = 858993459 from by decide] at s2
  rw [show pM3 4 = 252645135 from by decide] at s3
  have le1 : n / 2 &&& 1431655765 ≤ n := Nat.le_trans Nat.and_le_left (Nat.div_le_self _ _)
  have q1 : nI n - (ushr (nI n) (nI 1) &&& nI 1431655765) = nI (pF1 16 n) := by
    rw [ushr_nI hn (by omega), nx_and, Nat.pow_one, nI_sub le1, s1]
  have q2 : (nI (pF1 16 n) &&& nI 858993459) + (ushr (nI (pF1 16 n)) (nI 2) &&& nI 858993459) = nI (pF2 8 n) := by
    rw [ushr_nI (by omega) (by omega), nx_and, nx_and, nI_add, ← s2]
  have q3 : (nI (pF2 8 n) + ushr (nI (pF2 8 n)) (nI 4)) &&& nI 252645135 = nI (pF3 4 n) := by
    rw [ushr_nI (by omega) (by omega), nI_add, nx_and, ← s3]
  have e3 : ∃ a b c d, a ≤ 8 ∧ b ≤ 8 ∧ c ≤ 8 ∧ d ≤ 8 ∧ pF3 4 n = a + 256 * b + 65536 * c + 16777216 * d ∧ pc (nI n) = a + b + c + d := by
    refine ⟨_, _, _, _, ?_, ?_, ?_, ?_, ?_, ?_⟩
    rotate_left 4
    · show 256 * (256 * (256 * (256 * 0 + _) + _) + _) + _ = _
      rw [show ∀ a b c d : Nat, 256 * (256 * (256 * (256 * 0 + d) + c) + b) + a = a + 256 * b + 65536 * c + 16777216 * d from by intros; omega]
    · unfold pc
      simp only [fb_ct, bt_n, Nat.reduceLT, Nat.div_div_eq_div_mul, Nat.reduceMul, Nat.reducePow, Nat.div_one]
      omega
    all_goals omega
  obtain ⟨a, b, c, d, ha, hb, hc, hd, e, ep⟩ := e3
  have q4 : nI (pF3 4 n) + ushr (nI (pF3 4 n)) (nI 8) = nI (a + b + 256 * (b + c) + 65536 * (c + d) + 16777216 * d) := by
    rw [ushr_nI (by omega) (by omega), nI_add]; congr 1; rw [e, show 2 ^ 8 = 256 from rfl]; omega
  have q5 : nI (a + b + 256 * (b + c) + 65536 * (c + d) + 16777216 * d) + ushr (nI (a + b + 256 * (b + c) + 65536 * (c + d) + 16777216 * d)) (nI 16) = nI (a + b + c + d + 256 * (b + c + d) + 65536 * (c + d) + 16777216 * d) := by
    rw [ushr_nI (by omega) (by omega), nI_add]; congr 1; rw [show 2 ^ 16 = 65536 from rfl]; omega
  rw [q1, q2, q3, q4, q5, nx_and, show (63 : Nat) = 2 ^ 6 - 1 from rfl, Nat.and_two_pow_sub_one_eq_mod, ep]
  have : (a + b + c + d + 256 * (b + c + d) + 65536 * (c + d) + 16777216 * d) % 2 ^ 6 = a + b + c + d := by rw [show 2 ^ 6 = 64 from rfl]; omega
  rw [this]
