/-! Integer.bitCount -/
theorem and_cat {k a c x y : Nat} (ha : a < 2 ^ k) (hc : c < 2 ^ k) : (2 ^ k * x + a) &&& (2 ^ k * y + c) = 2 ^ k * (x &&& y) + (a &&& c) := by
  apply Nat.eq_of_testBit_eq
  intro i
  rw [Nat.testBit_and, Nat.testBit_two_pow_mul_add _ ha, Nat.testBit_two_pow_mul_add _ hc, Nat.testBit_two_pow_mul_add _ (Nat.lt_of_le_of_lt Nat.and_le_left ha)]
  split <;> simp [Nat.testBit_and]
def pM1 : Nat → Nat | 0 => 0 | k + 1 => 4 * pM1 k + 1
def pM2 : Nat → Nat | 0 => 0 | k + 1 => 16 * pM2 k + 3
def pM3 : Nat → Nat | 0 => 0 | k + 1 => 256 * pM3 k + 15
def p2 (n : Nat) : Nat := n % 2 + n / 2 % 2
def p4 (n : Nat) : Nat := p2 n + p2 (n / 4)
def p8 (n : Nat) : Nat := p4 n + p4 (n / 16)
theorem p2_le (n : Nat) : p2 n ≤ 2 := by unfold p2; omega
theorem p4_le (n : Nat) : p4 n ≤ 4 := by have := p2_le n; have := p2_le (n / 4); unfold p4; omega
theorem p8_le (n : Nat) : p8 n ≤ 8 := by have := p4_le n; have := p4_le (n / 16); unfold p8; omega
def pF1 : Nat → Nat → Nat | 0, _ => 0 | k + 1, n => 4 * pF1 k (n / 4) + p2 n
def pF2 : Nat → Nat → Nat | 0, _ => 0 | k + 1, n => 16 * pF2 k (n / 16) + p4 n
def pF3 : Nat → Nat → Nat | 0, _ => 0 | k + 1, n => 256 * pF3 k (n / 256) + p8 n
theorem pF1_s (k n : Nat) : pF1 (k + 1) n = 4 * pF1 k (n / 4) + p2 n := rfl
theorem pF2_s (k n : Nat) : pF2 (k + 1) n = 16 * pF2 k (n / 16) + p4 n := rfl
theorem pF3_s (k n : Nat) : pF3 (k + 1) n = 256 * pF3 k (n / 256) + p8 n := rfl
theorem pS1 : ∀ k n, n < 4 ^ k → n - (n / 2 &&& pM1 k) = pF1 k n
  | 0, n, h => by
    have e : n = 0 := by rw [Nat.pow_zero] at h; omega
    subst e; rfl
  | k + 1, n, h => by
    have ih := pS1 k (n / 4) (by rw [Nat.pow_succ] at h; omega)
    have e : n / 2 = 2 ^ 2 * (n / 4 / 2) + (2 * (n / 4 % 2) + n / 2 % 2) := by omega
    have e2 : pM1 (k + 1) = 2 ^ 2 * pM1 k + 1 := rfl
    have a : (2 * (n / 4 % 2) + n / 2 % 2) &&& 1 = n / 2 % 2 := by rw [Nat.and_one_is_mod]; omega
    have le : n / 4 / 2 &&& pM1 k ≤ n / 4 / 2 := Nat.and_le_left
    rw [e2, e, and_cat (by omega) (by omega), a, pF1_s, ← ih]
    unfold p2
    generalize n / 4 / 2 &&& pM1 k = y at *
    omega
theorem pS2 : ∀ k n, (pF1 (2 * k) n &&& pM2 k) + (pF1 (2 * k) n / 4 &&& pM2 k) = pF2 k n
  | 0, n => by simp [pF1, pF2, pM2]
  | k + 1, n => by
    have ih := pS2 k (n / 16)
    have e0 : pF1 (2 * (k + 1)) n = 16 * pF1 (2 * k) (n / 16) + (4 * p2 (n / 4) + p2 n) := by
      rw [show 2 * (k + 1) = 2 * k + 1 + 1 from by omega, pF1_s, pF1_s, Nat.div_div_eq_div_mul, show 4 * 4 = 16 from rfl]
      omega
    have e2 : pM2 (k + 1) = 2 ^ 4 * pM2 k + 3 := rfl
    have l0 := p2_le n
    have l1 := p2_le (n / 4)
    rw [pF2_s, ← ih, e0, e2]
    unfold p4
    generalize pF1 (2 * k) (n / 16) = r
    generalize p2 n = c0 at *
    generalize p2 (n / 4) = c1 at *
    have e4 : (16 * r + (4 * c1 + c0)) / 4 = 2 ^ 4 * (r / 4) + (4 * (r % 4) + c1) := by omega
    have e5 : 16 * r + (4 * c1 + c0) = 2 ^ 4 * r + (4 * c1 + c0) := by omega
    have a1 : (4 * c1 + c0) &&& 3 = c0 := by rw [show (3 : Nat) = 2 ^ 2 - 1 from rfl, Nat.and_two_pow_sub_one_eq_mod]; omega
    have a2 : (4 * (r % 4) + c1) &&& 3 = c1 := by rw [show (3 : Nat) = 2 ^ 2 - 1 from rfl, Nat.and_two_pow_sub_one_eq_mod]; omega
    rw [e4, e5, and_cat (by omega) (by omega), and_cat (by omega) (by omega), a1, a2]
    omega
theorem pF2_low (k n : Nat) : pF2 k n % 16 ≤ 4 := by
  cases k with
  | zero => exact Nat.zero_le _
  | succ k =>
    have := p4_le n
    rw [pF2_s]
    omega
theorem pS3 : ∀ k n, (pF2 (2 * k) n + pF2 (2 * k) n / 16) &&& pM3 k = pF3 k n
  | 0, n => by simp [pF2, pF3, pM3]
  | k + 1, n => by
    have ih := pS3 k (n / 256)
    have lo := pF2_low (2 * k) (n / 256)
    have e0 : pF2 (2 * (k + 1)) n = 256 * pF2 (2 * k) (n / 256) + (16 * p4 (n / 16) + p4 n) := by
      rw [show 2 * (k + 1) = 2 * k + 1 + 1 from by omega, pF2_s, pF2_s, Nat.div_div_eq_div_mul, show 16 * 16 = 256 from rfl]
      omega
    have e2 : pM3 (k + 1) = 2 ^ 8 * pM3 k + 15 := rfl
    have l0 := p4_le n
    have l1 := p4_le (n / 16)
    rw [pF3_s, ← ih, e0, e2]
    unfold p8
    generalize pF2 (2 * k) (n / 256) = r at *
    generalize p4 n = d0 at *
    generalize p4 (n / 16) = d1 at *
    have e4 : 256 * r + (16 * d1 + d0) + (256 * r + (16 * d1 + d0)) / 16 = 2 ^ 8 * (r + r / 16) + (16 * (r % 16 + d1) + (d0 + d1)) := by omega
    have a1 : (16 * (r % 16 + d1) + (d0 + d1)) &&& 15 = d0 + d1 := by rw [show (15 : Nat) = 2 ^ 4 - 1 from rfl, Nat.and_two_pow_sub_one_eq_mod]; omega
    rw [e4, and_cat (by omega) (by omega), a1]
theorem pF1_le : ∀ k n, pF1 k n < 4 ^ k
  | 0, _ => Nat.one_pos
  | k + 1, n => by
    have ih := pF1_le k (n / 4)
    have := p2_le n
    rw [pF1_s, Nat.pow_succ]; omega
theorem pF2_le : ∀ k n, pF2 k n < 16 ^ k
  | 0, _ => Nat.one_pos
  | k + 1, n => by
    have ih := pF2_le k (n / 16)
    have := p4_le n
    rw [pF2_s, Nat.pow_succ]; omega
/-- how many bits x has -/
def pc (x : Int32) : Nat := fb_ct (bt x) 32
theorem pc_le (x : Int32) : pc x ≤ 32 := fb_ct_le _ _
theorem bt_n {n i : Nat} (hi : i < 32) : (if bt (nI n) i then 1 else 0) = n / 2 ^ i % 2 := by
  rw [bt_nI hi, Nat.testBit_eq_decide_div_mod_eq]
  by_cases h : n / 2 ^ i % 2 = 1
  · rw [decide_eq_true h, if_pos rfl, h]
  · rw [decide_eq_false h, if_neg (by decide)]; omega
theorem ct8 (n m : Nat) (hm : m + 8 ≤ 32) : fb_ct (fun k => bt (nI n) (m + k)) 8 = p8 (n / 2 ^ m) := by
  have e : ∀ k, k < 8 → (if bt (nI n) (m + k) then 1 else 0) = n / 2 ^ m / 2 ^ k % 2 := by
    intro k hk
    rw [bt_n (by omega), Nat.pow_add, Nat.div_div_eq_div_mul]
  simp only [fb_ct]
  rw [e 0 (by omega), e 1 (by omega), e 2 (by omega), e 3 (by omega), e 4 (by omega), e 5 (by omega), e 6 (by omega), e 7 (by omega)]
  generalize n / 2 ^ m = y
  unfold p8 p4 p2
  simp only [Nat.div_div_eq_div_mul, Nat.reduceMul, Nat.reducePow, Nat.div_one, Nat.add_assoc, Nat.zero_add]
theorem pc_8 (n : Nat) : pc (nI n) = p8 n + p8 (n / 256) + p8 (n / 65536) + p8 (n / 16777216) := by
  have h0 := ct8 n 0 (by omega)
  have h1 := ct8 n 8 (by omega)
  have h2 := ct8 n 16 (by omega)
  have h3 := ct8 n 24 (by omega)
  simp only [Nat.pow_zero, Nat.div_one, Nat.zero_add, Nat.reducePow] at h0 h1 h2 h3
  unfold pc
  rw [show (32 : Nat) = 24 + 8 from rfl, fb_ct_split, show (24 : Nat) = 16 + 8 from rfl, fb_ct_split, show (16 : Nat) = 8 + 8 from rfl, fb_ct_split]
  rw [← h0, ← h1, ← h2, ← h3]
theorem p_bitCount (z : St) (x : Int32) : f_J6_bitCount_0f7a4 z x = some (nI (pc x), z) := by
  obtain ⟨n, hn, rfl⟩ := nI_all x
  unfold f_J6_bitCount_0f7a4 F_J6_bitCount_0f7a4_0
  simp only [oL_eq]
  rw [show (1 : Int32) = nI 1 from rfl, show (1431655765 : Int32) = nI 1431655765 from rfl, show (858993459 : Int32) = nI 858993459 from rfl, show (2 : Int32) = nI 2 from rfl, show (4 : Int32) = nI 4 from rfl, show (252645135 : Int32) = nI 252645135 from rfl, show (8 : Int32) = nI 8 from rfl, show (16 : Int32) = nI 16 from rfl, show (63 : Int32) = nI 63 from rfl]
  have s1 := pS1 16 n (Nat.lt_of_lt_of_eq hn (by decide))
  have s2 := pS2 8 n
  have s3 := pS3 4 n
  have l1 : pF1 16 n < 4294967296 := Nat.lt_of_lt_of_eq (pF1_le 16 n) (by decide)
  have l2 : pF2 8 n < 4294967296 := Nat.lt_of_lt_of_eq (pF2_le 8 n) (by decide)
  rw [show pM1 16 = 1431655765 from by decide +kernel] at s1
  rw [show pM2 8 = 858993459 from by decide +kernel, show 2 * 8 = 16 from rfl] at s2
  rw [show pM3 4 = 252645135 from by decide +kernel, show 2 * 4 = 8 from rfl] at s3
  have le1 : n / 2 &&& 1431655765 ≤ n := Nat.le_trans Nat.and_le_left (Nat.div_le_self _ _)
  have q1 : nI n - (ushr (nI n) (nI 1) &&& nI 1431655765) = nI (pF1 16 n) := by
    rw [ushr_nI hn (by omega), nx_and, Nat.pow_one, nI_sub le1, s1]
  have q2 : (nI (pF1 16 n) &&& nI 858993459) + (ushr (nI (pF1 16 n)) (nI 2) &&& nI 858993459) = nI (pF2 8 n) := by
    rw [ushr_nI l1 (by omega), nx_and, nx_and, nI_add, ← s2]
  have q3 : (nI (pF2 8 n) + ushr (nI (pF2 8 n)) (nI 4)) &&& nI 252645135 = nI (pF3 4 n) := by
    rw [ushr_nI l2 (by omega), nI_add, nx_and, ← s3]
  have e : pF3 4 n = p8 n + 256 * p8 (n / 256) + 65536 * p8 (n / 65536) + 16777216 * p8 (n / 16777216) := by
    rw [pF3_s, pF3_s, pF3_s, pF3_s, show pF3 0 (n / 256 / 256 / 256 / 256) = 0 from rfl]
    simp only [Nat.div_div_eq_div_mul, Nat.reduceMul]
    omega
  have ep := pc_8 n
  have ha := p8_le n
  have hb := p8_le (n / 256)
  have hc := p8_le (n / 65536)
  have hd := p8_le (n / 16777216)
  rw [q1, q2, q3]
  generalize p8 n = a at *
  generalize p8 (n / 256) = b at *
  generalize p8 (n / 65536) = c at *
  generalize p8 (n / 16777216) = d at *
  have q4 : nI (pF3 4 n) + ushr (nI (pF3 4 n)) (nI 8) = nI (a + b + 256 * (b + c) + 65536 * (c + d) + 16777216 * d) := by
    rw [ushr_nI (by omega) (by omega), nI_add, e, show 2 ^ 8 = 256 from rfl]; congr 1; omega
  have q5 : nI (a + b + 256 * (b + c) + 65536 * (c + d) + 16777216 * d) + ushr (nI (a + b + 256 * (b + c) + 65536 * (c + d) + 16777216 * d)) (nI 16) = nI (a + b + c + d + 256 * (b + c + d) + 65536 * (c + d) + 16777216 * d) := by
    rw [ushr_nI (by omega) (by omega), nI_add, show 2 ^ 16 = 65536 from rfl]; congr 1; omega
  rw [q4, q5, nx_and, show (63 : Nat) = 2 ^ 6 - 1 from rfl, Nat.and_two_pow_sub_one_eq_mod, ep]
  have : (a + b + c + d + 256 * (b + c + d) + 65536 * (c + d) + 16777216 * d) % 2 ^ 6 = a + b + c + d := by rw [show 2 ^ 6 = 64 from rfl]; omega
  rw [this]
