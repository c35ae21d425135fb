/-! PURE: where the astray go; one day's walk -/
/-- the wrong side at v -/
def wsd (x : Int32) (v : Nat) : Nat := b1 (bt x v)
theorem wsd_le (x : Int32) (v : Nat) : wsd x v ≤ 1 := by unfold wsd b1; split <;> omega
/-- row g holds, for each village, where its astray go (-1: nowhere) -/
def aimP (W H : Nat) (x : Int32) (m : Nat) (g : Nat → Int32) : Prop := ∀ v, v < m → (hmS W H x (wsd x v) = 0 ∧ g v = -1) ∨ (hmS W H x (wsd x v) ≠ 0 ∧ ∃ u, isG W (W * H) (hmS W H x (wsd x v)) v u ∧ g v = nI u)
theorem k_aimrow : ∀ r, r < 51 → 39 ≤ r → kdC r = 0 ∧ lnC r = 25 := by decide
theorem p_aim {z : St} {W H : Nat} (hG : geoC z W H) {x : Int32} (hx : bl x (W * H)) {r : Nat} (r1 : r < 51) (r2 : 39 ≤ r) : ∃ g, f_X2_aim z x r = some (sA z r g) ∧ aimP W H x (W * H) g := by
  have hg := hG.1
  have hs := sz25 hg
  have gq : ∀ g, geoC (sA z r g) W H := fun g => hG
  obtain ⟨hkd, hln⟩ := k_aimrow r r1 r2
  have hall : z.1 22 = nI (2 ^ (W * H) - 1) := b_ext (fun i hi => by rw [hG.2.2.2.1 i, bt_nI hi, Nat.testBit_two_pow_sub_one])
  unfold f_X2_aim F_X2_aim_0
  rw [oL_s]
  have key := loop_i (fun k v (g : Nat → Int32) => ∃ g', F_X2_aim_2 k (sA z r g) x r (nI v) = some (sA z r g') ∧ aimP W H x (W * H) g') (fun v g => aimP W H x v g) (W * H) ?_ ?_ 100000 0 (z.2.1 r) (Nat.zero_le _) (by omega) (fun v hv => absurd hv (Nat.not_lt_zero v))
  · rw [sA_same] at key; exact key
  · intro k g hg'
    refine ⟨g, ?_, hg'⟩
    show F_X2_aim_2_b _ (sA z r g) x r (nI (W * H)) = _
    unfold F_X2_aim_2_b
    rw [(gq g).2.2.1, if_pos (Int32.le_refl _)]
  · intro k v g hv hgp K
    show ∃ g', F_X2_aim_2_b (F_X2_aim_2 k) (sA z r g) x r (nI v) = _ ∧ _
    have hin : vp_in (nI v) (lnC r) := by rw [hln]; exact vp_in_nI (show v < 25 by omega) (by omega)
    have main : ∀ h, h = hmS W H x (wsd x v) → ∃ g', F_X2_aim_52 (F_X2_aim_2 k) (sA z r g) x r (nI v) h (nI v) (nI v) r = some (sA z r g') ∧ aimP W H x (W * H) g' := by
      intro h eh
      have hb : bl h (W * H) := by rw [eh]; exact hm_bl hg hx _
      unfold F_X2_aim_52
      rcases p_towards (gq g) hb hv with ⟨c, e⟩ | ⟨c, u, hu, e⟩
      · rw [e]
        simp only [oC_s, oL_s, nI_1]
        rw [oX_in _ (by omega) hkd hin, nI_clamp (by omega), sA_eq, sA_sA]
        refine K _ (fun u hu => ?_)
        by_cases eu : u = v
        · subst eu; left; exact ⟨by rw [← eh]; exact c, by rw [upd_i, if_pos rfl]⟩
        · rw [upd_i, if_neg eu]; exact hgp u (by omega)
      · rw [e]
        simp only [oC_s, oL_s, nI_1]
        rw [oX_in _ (by omega) hkd hin, nI_clamp (by omega), sA_eq, sA_sA]
        refine K _ (fun u' hu' => ?_)
        by_cases eu : u' = v
        · subst eu; right; exact ⟨by rw [← eh]; exact c, u, by rw [← eh]; exact hu, by rw [upd_i, if_pos rfl]⟩
        · rw [upd_i, if_neg eu]; exact hgp u' (by omega)
    unfold F_X2_aim_2_b F_X2_aim_26
    rw [(gq g).2.2.1, if_neg (nI_ge hv (by omega))]
    cases hb : bt x v
    · rw [if_pos ((b_test0 x (by omega)).mpr hb), if_pos rfl]
      refine main _ ?_
      unfold hmS wsd; rw [hb]; rfl
    · have nb : ¬ ((x >>> (nI v &&& 31)) &&& (1 : Int32) = 0) := by rw [b_test0 _ (by omega), hb]; decide
      rw [if_neg nb, if_neg (by decide)]
      refine main _ ?_
      show z.1 22 &&& _ = _
      unfold hmS wsd; rw [hb, hall]; rfl
/-- what of t leaves (a in the hundred, rounded up); what of m is lost at v -/
def shr (t a : Nat) : Nat := (t * a + 99) / 100
theorem shr_le {t a : Nat} (ha : a ≤ 100) : shr t a ≤ t := by
  unfold shr
  have : t * a ≤ t * 100 := Nat.mul_le_mul_left t ha
  omega
theorem shr_0 (a : Nat) : shr 0 a = 0 := by unfold shr; omega
def dlN (gd : Int32) (b v m : Nat) : Nat := if bt gd v = true then 0 else shr m b
theorem dl_le {gd : Int32} {b v m : Nat} (hb : b ≤ 100) : dlN gd b v m ≤ m := by unfold dlN; split; omega; exact shr_le hb
/-- who sets out from v, as the day began with T0 -/
def outN (x : Int32) (T0 : Nat → Nat) (a v : Nat) : Nat := shr (T0 (2 * v + wsd x v)) a
def stpT (x : Int32) (T0 : Nat → Nat) (a b : Nat) (gd : Int32) (G : Nat → Option Nat) (v : Nat) (T : Nat → Nat) : Nat → Nat :=
  match G v with
  | none => T
  | some u => set1 (set1 T (2 * v + wsd x v) (T (2 * v + wsd x v) - outN x T0 a v)) (2 * u + wsd x v) (set1 T (2 * v + wsd x v) (T (2 * v + wsd x v) - outN x T0 a v) (2 * u + wsd x v) + (outN x T0 a v - dlN gd b v (outN x T0 a v)))
def stpL (x : Int32) (T0 : Nat → Nat) (a b : Nat) (gd : Int32) (G : Nat → Option Nat) (v : Nat) : Nat :=
  match G v with
  | none => 0
  | some _ => dlN gd b v (outN x T0 a v)
def dayT (x : Int32) (T0 : Nat → Nat) (a b : Nat) (gd : Int32) (G : Nat → Option Nat) : Nat → Nat → Nat
  | 0 => T0
  | i + 1 => stpT x T0 a b gd G i (dayT x T0 a b gd G i)
def dayL (x : Int32) (T0 : Nat → Nat) (a b : Nat) (gd : Int32) (G : Nat → Option Nat) : Nat → Nat
  | 0 => 0
  | i + 1 => dayL x T0 a b gd G i + stpL x T0 a b gd G i
theorem set1_sm (f : Nat → Nat) {q n : Nat} (t : Nat) (h : q < n) : fb_sm (set1 f q t) n + f q = fb_sm f n + t := fb_sm_upd f t h
theorem set1_i (f : Nat → Nat) (q t j : Nat) : set1 f q t j = if j = q then t else f j := rfl
/-- nobody is lost but those that are counted -/
theorem day_ok {x : Int32} {T0 : Nat → Nat} {a b n : Nat} (ha : a ≤ 100) (hb : b ≤ 100) {gd : Int32} {G : Nat → Option Nat} (hGn : ∀ v, v < n → ∀ u, G v = some u → u < n) : ∀ i, i ≤ n → (∀ v, i ≤ v → T0 (2 * v + wsd x v) ≤ dayT x T0 a b gd G i (2 * v + wsd x v)) ∧ fb_sm (dayT x T0 a b gd G i) (2 * n) + dayL x T0 a b gd G i = fb_sm T0 (2 * n) := by
  intro i
  induction i with
  | zero => intro _; exact ⟨fun _ _ => Nat.le_refl _, rfl⟩
  | succ i ih =>
    intro hi
    obtain ⟨i1, i2⟩ := ih (by omega)
    have w1 := wsd_le x i
    show (∀ v, i + 1 ≤ v → T0 (2 * v + wsd x v) ≤ stpT x T0 a b gd G i (dayT x T0 a b gd G i) (2 * v + wsd x v)) ∧ fb_sm (stpT x T0 a b gd G i (dayT x T0 a b gd G i)) (2 * n) + (dayL x T0 a b gd G i + stpL x T0 a b gd G i) = _
    have m1 : outN x T0 a i ≤ T0 (2 * i + wsd x i) := shr_le ha
    have m2 := i1 i (Nat.le_refl _)
    have m3 := dl_le (gd := gd) (v := i) (m := outN x T0 a i) hb
    generalize dayT x T0 a b gd G i = T at *
    unfold stpT stpL
    cases hgi : G i with
    | none => exact ⟨fun v hv => i1 v (by omega), i2⟩
    | some u =>
      have hu := hGn i (by omega) u hgi
      constructor
      · intro v hv
        have w2 := wsd_le x v
        have := i1 v (by omega)
        show T0 _ ≤ set1 _ _ _ _
        rw [set1_i]
        split
        · rename_i e
          rw [← e, set1_i, if_neg (by omega)]; omega
        · rw [set1_i, if_neg (by omega)]; exact this
      · show fb_sm (set1 (set1 T _ _) _ _) _ + _ = _
        have s1 := set1_sm T (q := 2 * i + wsd x i) (n := 2 * n) (T (2 * i + wsd x i) - outN x T0 a i) (by omega)
        have s2 := set1_sm (set1 T (2 * i + wsd x i) (T (2 * i + wsd x i) - outN x T0 a i)) (q := 2 * u + wsd x i) (n := 2 * n) (set1 T (2 * i + wsd x i) (T (2 * i + wsd x i) - outN x T0 a i) (2 * u + wsd x i) + (outN x T0 a i - dlN gd b i (outN x T0 a i))) (by omega)
        generalize set1 T (2 * i + wsd x i) (T (2 * i + wsd x i) - outN x T0 a i) = T1 at *
        generalize set1 T1 (2 * u + wsd x i) _ = T2 at *
        show fb_sm T2 (2 * n) + (dayL x T0 a b gd G i + dlN gd b i (outN x T0 a i)) = _
        omega
