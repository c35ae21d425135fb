/-! PURE: best: parted -/
/-- is a piece of x (those of L are looked at) shut off: not all of x, nothing of op beside it -/
def ptF (W n : Nat) (x op : Int32) : Nat → Int32 → Bool
  | 0, _ => false
  | k + 1, L => if L = 0 then false else if clo W n L (L &&& (-L)) = x then ptF W n x op k (L &&& (clo W n L (L &&& (-L)) ^^^ (-1 : Int32))) else if arnd W n (clo W n L (L &&& (-L))) &&& op = 0 then true else ptF W n x op k (L &&& (clo W n L (L &&& (-L)) ^^^ (-1 : Int32)))
theorem p_parted {z : St} {W H : Nat} (hG : geoC z W H) {x : Int32} (hx : bl x (W * H)) (hcl : ∀ L, bl L (W * H) → bl (clo W (W * H) L (L &&& (-L))) (W * H)) (op : Int32) : f_X4_parted z x op = some (b2 (ptF W (W * H) x op 25 x), z) := by
  have hg := hG.1
  have hs := sz25 hg
  have fin : F_X4_parted_0 z x op = some (b2 (ptF W (W * H) x op 25 x), z) := by
    unfold F_X4_parted_0
    rw [oL_s]
    refine loop_i (fun k i (L : Int32) => F_X4_parted_5 k z x op L (nI i) = some (b2 (ptF W (W * H) x op 25 x), z)) (fun i L => bl L (W * H) ∧ ptF W (W * H) x op (25 - i) L = ptF W (W * H) x op 25 x) 25 ?_ ?_ 100000 0 x (Nat.zero_le _) (by omega) ⟨hx, rfl⟩
    · rintro k L ⟨_, e⟩
      show F_X4_parted_5_b _ z x op L (nI 25) = _
      unfold F_X4_parted_5_b F_X4_parted_55
      have q : (25 : Int32) ≤ nI 25 := Int32.le_refl _
      rw [if_pos q, ← e]; rfl
    · rintro k i L hi ⟨hb, e⟩ K
      show F_X4_parted_5_b (F_X4_parted_5 k) z x op L (nI i) = _
      have q : ¬ (25 : Int32) ≤ nI i := nI_ge (b := 25) hi (by omega)
      have ek : 25 - i = (25 - (i + 1)) + 1 := by omega
      rw [ek] at e
      have e' : (if L = 0 then false else if clo W (W * H) L (L &&& (-L)) = x then ptF W (W * H) x op (25 - (i + 1)) (L &&& (clo W (W * H) L (L &&& (-L)) ^^^ (-1 : Int32))) else if arnd W (W * H) (clo W (W * H) L (L &&& (-L))) &&& op = 0 then true else ptF W (W * H) x op (25 - (i + 1)) (L &&& (clo W (W * H) L (L &&& (-L)) ^^^ (-1 : Int32)))) = ptF W (W * H) x op 25 x := e
      have hb' : bl (L &&& (clo W (W * H) L (L &&& (-L)) ^^^ (-1 : Int32))) (W * H) := fun j hj => by rw [b_and, hb j hj]; rfl
      unfold F_X4_parted_5_b F_X4_parted_55 F_X4_parted_42
      rw [if_neg q]
      by_cases c0 : L = 0
      · rw [if_pos c0] at e' ⊢
        rw [← e']; rfl
      rw [if_neg c0] at e' ⊢
      rw [p_firstPiece hg hG hb]
      simp only [oC_s, oL_s, nI_1]
      by_cases c1 : clo W (W * H) L (L &&& (-L)) = x
      · rw [if_pos c1] at e' ⊢
        exact K _ ⟨hb', e'⟩
      rw [if_neg c1] at e' ⊢
      rw [p_beside hG (hcl L hb)]
      simp only [oC_s]
      by_cases c2 : arnd W (W * H) (clo W (W * H) L (L &&& (-L))) &&& op = 0
      · rw [if_pos c2] at e' ⊢
        rw [← e']; rfl
      · rw [if_neg c2] at e' ⊢
        exact K _ ⟨hb', e'⟩
  unfold f_X4_parted
  rw [fin, oC_s]
  cases ptF W (W * H) x op 25 x
  · exact oZ_0 _
  · exact oZ_1 _
