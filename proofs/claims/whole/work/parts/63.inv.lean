/-! PURE: what holds between the class's state z and the reference's state w -/
def ivDay (z w : St) : Prop := ∃ t, t ≤ 999 ∧ z.1 0 = nI t ∧ w.1 21 = nI t
def ivLand (z w : St) (W H : Nat) : Prop := (2 ≤ W ∧ W ≤ 5 ∧ 2 ≤ H ∧ H ≤ 5) ∧ w.1 22 = nI W ∧ w.1 23 = nI H ∧ z.1 26 = nI W ∧ z.1 21 = nI (W * H) ∧ (∀ i, bt (z.1 22) i = decide (i < W * H)) ∧ (∀ i, bt (z.1 27) i = decide (i < W * H ∧ i % W = 0)) ∧ (∀ i, bt (z.1 28) i = decide (i < W * H ∧ i % W = W - 1))
def ivVil (z w : St) (n : Nat) : Prop :=
  (∀ v, v < n → (∃ d, d < 6 ∧ w.2.1 7 v = nI d) ∧ (w.2.1 8 v = -1 ∨ w.2.1 8 v = 0 ∨ w.2.1 8 v = 1) ∧ (w.2.1 9 v = 0 ∨ w.2.1 9 v = 1)) ∧
  (∀ d, d < 6 → ∀ v, bt (z.2.1 7 d) v = decide (v < n ∧ w.2.1 7 v = nI d)) ∧
  (∀ s, s < 2 → ∀ v, bt (z.2.1 8 s) v = decide (v < n ∧ w.2.1 8 v = nI s)) ∧
  (∀ v, bt (z.1 23) v = decide (v < n ∧ w.2.1 9 v = 1))
/-- a canal i: k drink -/
def canOK (z w : St) (n i k : Nat) : Prop := w.2.1 12 i = nI k ∧ z.2.1 9 i = w.2.1 11 (6 * i) ∧ (∀ j, j ≤ k → ∃ v, v < n ∧ w.2.1 11 (6 * i + j) = nI v) ∧ (∀ j j', j < j' → j' ≤ k → w.2.1 11 (6 * i + j) ≠ w.2.1 11 (6 * i + j')) ∧ (∀ v, v < 32 → (bt (z.2.1 10 i) v = true ↔ ∃ j, j < k ∧ w.2.1 11 (6 * i + (j + 1)) = nI v))
def ivCan (z w : St) (n : Nat) : Prop := ∃ c, c ≤ 6 ∧ z.1 25 = nI c ∧ w.1 24 = nI c ∧ (∀ v, v < 32 → (bt (z.1 24) v = true ↔ ∃ i, i < c ∧ w.2.1 11 (6 * i) = nI v)) ∧ ∀ i, i < c → ∃ k, k ≤ 5 ∧ canOK z w n i k
/-- a note of kind k with its four numbers, the i-th -/
def noteD (k a b c d : Int32) (n i : Nat) : Prop :=
  ((k = 0 ∨ k = 2) ∧ ∃ x p t, x < 12 ∧ p < 8 ∧ t ≤ 999 ∧ a = nI x ∧ b = nI p ∧ c = nI t) ∨
   (k = 1 ∧ ∃ p q t, p < 8 ∧ q < 8 ∧ p ≠ q ∧ t ≤ 999 ∧ a = nI p ∧ b = nI q ∧ c = nI t) ∨
   (k = 3 ∧ ∃ h v x y, h < 4 ∧ v < n ∧ x ≤ 999 ∧ y ≤ 999 ∧ a = nI h ∧ b = nI v ∧ c = nI x ∧ d = nI y) ∨
   (k = 4 ∧ ∃ s, s < i ∧ a = nI s)
def noteOK (w : St) (n i : Nat) : Prop := (∃ t, t ≤ 999 ∧ w.2.1 17 i = nI t) ∧ noteD (w.2.1 16 i) (w.2.1 18 i) (w.2.1 19 i) (w.2.1 20 i) (w.2.1 21 i) n i
def ivNote (z w : St) (n : Nat) : Prop := ∃ m, m ≤ 80 ∧ z.1 29 = nI m ∧ w.1 27 = nI m ∧ z.2.1 11 = w.2.1 16 ∧ z.2.1 12 = w.2.1 18 ∧ z.2.1 13 = w.2.1 19 ∧ z.2.1 14 = w.2.1 20 ∧ z.2.1 15 = w.2.1 21 ∧ z.2.1 16 = w.2.1 17 ∧ ∀ i, i < m → noteOK w n i
def ivErr (z w : St) : Prop := z.2.1 18 = w.2.1 10 ∧ ∀ h, h < 4 → ∃ e, e ≤ 50 ∧ w.2.1 10 h = nI e
def ivDraft (z w : St) (n : Nat) : Prop := ∃ d, d ≤ 12 ∧ z.1 30 = nI d ∧ w.1 25 = nI d ∧ z.2.1 28 = w.2.1 13 ∧ z.2.1 29 = w.2.1 14 ∧ ∀ i, i < d → (∃ L, L < 2 ^ n ∧ w.2.1 13 i = nI L) ∧ ∃ t, t ≤ 999 ∧ w.2.1 14 i = nI t
def ivCand (z w : St) (n : Nat) : Prop := ∃ c, c ≤ 8 ∧ z.1 37 = nI c ∧ w.1 26 = nI c ∧ z.2.1 37 = w.2.1 15 ∧ ∀ i, i < c → ∃ v, v < n ∧ w.2.1 15 i = nI v
def ivTape (z w : St) : Prop := ∃ t, t ≤ 400 ∧ z.1 1 = nI t ∧ w.1 1 = nI t ∧ z.2.1 0 = w.2.1 0 ∧ ∀ i, i < t → ∃ b, b < 256 ∧ w.2.1 0 i = nI b
def ivFault (z w : St) : Prop := w.1 15 = z.1 2 ∧ w.1 16 = z.1 3
/-- a knot of the class (its kind, its number) and of the reference (its sort, its value); what it takes from the pile, and that it puts one there -/
def knotR (a b s v : Int32) (take : Nat) : Prop :=
  (take = 0 ∧ a = 20 ∧ s = 0 ∧ b = v ∧ ∃ k, k ≤ 9999 ∧ v = nI k) ∨
  (take = 0 ∧ s = 1 ∧ ∃ j, j < 6 ∧ a = nI (11 + j) ∧ v = nI j) ∨
  (take = 1 ∧ s = 2 ∧ a = 17 ∧ v = 260) ∨
  (take = 2 ∧ s = 2 ∧ ((a = 19 ∧ v = 262) ∨ (a = 18 ∧ v = 261) ∨ (a = 21 ∧ v = 43) ∨ (a = 22 ∧ v = 45) ∨ (a = 23 ∧ v = 42) ∨ (a = 24 ∧ v = 47) ∨ (a = 25 ∧ v = 60) ∨ (a = 26 ∧ v = 256) ∨ (a = 27 ∧ v = 61) ∨ (a = 28 ∧ v = 257) ∨ (a = 29 ∧ v = 258) ∨ (a = 30 ∧ v = 62)))
/-- the first m knots, alike, leave d on the pile -/
def knotsR (a b s v : Nat → Int32) : Nat → Nat → Prop
  | 0, d => d = 0
  | m + 1, d => ∃ e t, knotsR a b s v m e ∧ knotR (a m) (b m) (s m) (v m) t ∧ t ≤ e ∧ d = e - t + 1
def ivTerms (z w : St) : Prop := (∃ u, u ≤ 2 ∧ z.1 13 = nI u ∧ w.2.1 3 0 = nI u) ∧ (∃ f, f ≤ 100 ∧ z.1 14 = nI f ∧ w.2.1 3 4 = nI f) ∧ (∃ f, f ≤ 100 ∧ z.1 15 = nI f ∧ w.2.1 3 5 = nI f) ∧
  (∀ j, j < 3 → ∃ f, f ≤ 999 ∧ z.2.1 1 j = nI f ∧ w.2.1 3 (j + 1) = nI f) ∧
  ∃ m, m ≤ 64 ∧ z.1 16 = nI m ∧ w.1 2 = nI m ∧ w.1 19 = nI m ∧ ((m = 0 ∧ w.1 4 = 0) ∨ (w.1 4 = 1 ∧ knotsR (z.2.1 2) (z.2.1 3) (w.2.1 1) (w.2.1 2) m 1))
def Inv (z w : St) : Prop := ∃ W H, ivDay z w ∧ ivLand z w W H ∧ ivVil z w (W * H) ∧ ivCan z w (W * H) ∧ ivNote z w (W * H) ∧ ivErr z w ∧ ivDraft z w (W * H) ∧ ivCand z w (W * H) ∧ ivTape z w ∧ ivFault z w ∧ ivTerms z w
/-- what a question may change: of the class, of the reference -/
def cI : List Nat := [4, 5, 6, 7, 8, 9, 10, 11, 12, 17, 18, 19, 20, 31, 32, 33, 34, 35, 36, 38, 39, 40, 41]
def cA : List Nat := [4, 5, 6, 17, 19, 20, 21, 22, 23, 24, 25, 26, 27, 30, 31, 32, 33, 34, 35, 36, 38, 39, 40, 41, 42, 43, 44, 45, 46, 47, 48, 49, 50, 51, 52, 53]
def rI : List Nat := [0, 3, 5, 6, 7, 8, 9, 10, 11, 12, 13, 14, 17, 18, 20, 28, 29, 30]
def rA : List Nat := [4, 5, 6, 22, 23, 24, 25, 26, 27, 28, 29]
theorem Inv_q {z z' w w' : St} (h : Inv z w) (hz : fr cI cA z z') (hw : fr rI rA w w') : Inv z' w' := by
  obtain ⟨i, a⟩ := hz
  obtain ⟨j, b⟩ := hw
  unfold Inv ivDay ivLand ivVil ivCan canOK ivNote noteOK ivErr ivDraft ivCand ivTape ivFault ivTerms at h ⊢
  rw [i 0 (by decide), i 1 (by decide), i 2 (by decide), i 3 (by decide), i 13 (by decide), i 14 (by decide), i 15 (by decide), i 16 (by decide), i 21 (by decide), i 22 (by decide), i 23 (by decide), i 24 (by decide), i 25 (by decide), i 26 (by decide), i 27 (by decide), i 28 (by decide), i 29 (by decide), i 30 (by decide), i 37 (by decide),
    a 0 (by decide), a 1 (by decide), a 2 (by decide), a 3 (by decide), a 7 (by decide), a 8 (by decide), a 9 (by decide), a 10 (by decide), a 11 (by decide), a 12 (by decide), a 13 (by decide), a 14 (by decide), a 15 (by decide), a 16 (by decide), a 18 (by decide), a 28 (by decide), a 29 (by decide), a 37 (by decide),
    j 1 (by decide), j 2 (by decide), j 4 (by decide), j 15 (by decide), j 16 (by decide), j 19 (by decide), j 21 (by decide), j 22 (by decide), j 23 (by decide), j 24 (by decide), j 25 (by decide), j 26 (by decide), j 27 (by decide),
    b 0 (by decide), b 1 (by decide), b 2 (by decide), b 3 (by decide), b 7 (by decide), b 8 (by decide), b 9 (by decide), b 10 (by decide), b 11 (by decide), b 12 (by decide), b 13 (by decide), b 14 (by decide), b 15 (by decide), b 16 (by decide), b 17 (by decide), b 18 (by decide), b 19 (by decide), b 20 (by decide), b 21 (by decide)]
  exact h
