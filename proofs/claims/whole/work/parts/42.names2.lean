/-! NAMES: the class's words of a name are the reference's -/
theorem acr_rng {r : Nat → Int32} (hr : cosOk r) {sd h : Int32} (h0 : (-5400) ≤ h) (h1 : h ≤ 5400) (s0 : -60 ≤ sd.toInt) (s1 : sd.toInt ≤ 60) : -1800 ≤ (f_X7_acrossOf r sd h).toInt ∧ (f_X7_acrossOf r sd h).toInt ≤ 1800 := by
  have hc : ∀ d : Int32, 0 ≤ (f_X6_cosOf d).toInt ∧ (f_X6_cosOf d).toInt ≤ 1000 := by
    intro d
    unfold f_X6_cosOf
    by_cases a : d < 0
    · rw [if_pos a]; decide
    · rw [if_neg a]
      by_cases b : (91 : Int32) ≤ d
      · rw [if_pos b]; decide
      · rw [if_neg b]
        have key : ∀ i : Nat, 0 ≤ (cosL.getD i 0).toInt ∧ (cosL.getD i 0).toInt ≤ 1000 := by
          intro i
          by_cases hi : i < 91
          · have : ∀ j : Fin 91, 0 ≤ (cosL.getD j.val 0).toInt ∧ (cosL.getD j.val 0).toInt ≤ 1000 := by decide +kernel
            exact this ⟨i, hi⟩
          · rw [List.getD_eq_getElem?_getD, List.getElem?_eq_none (by show 91 ≤ i; omega)]; decide
        exact key _
  have hn : 0 ≤ (f_X6_narrowAt h).toInt ∧ (f_X6_narrowAt h).toInt ≤ 1000 := by
    unfold f_X6_narrowAt
    obtain ⟨a, ha⟩ : ∃ a : Int32, a = (if 0 ≤ h then h else 0 - h) := ⟨_, rfl⟩
    rw [← ha]
    rw [t_le, show ((-5400) : Int32).toInt = -5400 from rfl] at h0
    rw [t_le, show (5400 : Int32).toInt = 5400 from rfl] at h1
    have ha0 : 0 ≤ a.toInt ∧ a.toInt ≤ 5400 := by
      rw [ha]
      by_cases c : 0 ≤ h
      · rw [if_pos c]; rw [t_le, show (0 : Int32).toInt = 0 from rfl] at c; omega
      · rw [if_neg c, Int32.zero_sub, t_neg (by omega)]; rw [t_le, show (0 : Int32).toInt = 0 from rfl] at c; omega
    have hm := t_remp (x := a) (y := 60) ha0.1 (by decide)
    rw [show (60 : Int32).toInt = 60 from rfl] at hm
    have hm2 : 0 ≤ (a - a / 60 * 60).toInt ∧ (a - a / 60 * 60).toInt ≤ 59 := by omega
    obtain ⟨u, hu⟩ : ∃ u : Int32, u = a - a / 60 * 60 := ⟨_, rfl⟩
    rw [← hu] at hm2 ⊢
    have hs : (60 - u).toInt = 60 - u.toInt := t_sub (by show _ ≤ 60 - u.toInt; omega) (by show 60 - u.toInt < _; omega)
    obtain ⟨p, hp⟩ : ∃ p : Int32, p = f_X6_cosOf (a / 60) := ⟨_, rfl⟩
    obtain ⟨q, hq⟩ : ∃ q : Int32, q = f_X6_cosOf (a / 60 + 1) := ⟨_, rfl⟩
    rw [← hp, ← hq]
    have hp1 := hc (a / 60)
    have hq1 := hc (a / 60 + 1)
    rw [← hp] at hp1
    rw [← hq] at hq1
    have m1a : 0 ≤ p.toInt * (60 - u.toInt) := Int.mul_nonneg hp1.1 (by omega)
    have m1b : p.toInt * (60 - u.toInt) ≤ 1000 * (60 - u.toInt) := Int.mul_le_mul_of_nonneg_right hp1.2 (by omega)
    have m2a : 0 ≤ q.toInt * u.toInt := Int.mul_nonneg hq1.1 hm2.1
    have m2b : q.toInt * u.toInt ≤ 1000 * u.toInt := Int.mul_le_mul_of_nonneg_right hq1.2 hm2.1
    have e1 : (p * (60 - u)).toInt = p.toInt * (60 - u.toInt) := by rw [t_mul (by rw [hs]; omega) (by rw [hs]; omega), hs]
    have e2 : (q * u).toInt = q.toInt * u.toInt := t_mul (by omega) (by omega)
    have e3 : (p * (60 - u) + q * u).toInt = p.toInt * (60 - u.toInt) + q.toInt * u.toInt := by rw [t_add (by rw [e1, e2]; omega) (by rw [e1, e2]; omega), e1, e2]
    have e4 := t_divp (x := p * (60 - u) + q * u) (y := 60) (by rw [e3]; omega) (by decide)
    rw [e4, e3, show (60 : Int32).toInt = 60 from rfl]
    omega
  rw [← xOf_eq hr h0 h1]
  unfold f_X6_xOf
  obtain ⟨v, hv⟩ : ∃ v : Int32, v = f_X6_narrowAt h := ⟨_, rfl⟩
  rw [← hv] at hn ⊢
  have e1 : (30 * sd).toInt = 30 * sd.toInt := t_mul (by show _ ≤ 30 * sd.toInt; omega) (by show 30 * sd.toInt < _; omega)
  have b1 : 30 * sd.toInt * v.toInt ≤ 1800000 := by
    by_cases c : 0 ≤ sd.toInt
    · have := Int.mul_le_mul_of_nonneg_left hn.2 (show 0 ≤ 30 * sd.toInt by omega); omega
    · have := Int.mul_nonneg (show 0 ≤ -(30 * sd.toInt) by omega) hn.1; rw [Int.neg_mul] at this; omega
  have b2 : -1800000 ≤ 30 * sd.toInt * v.toInt := by
    by_cases c : 0 ≤ sd.toInt
    · have := Int.mul_nonneg (show 0 ≤ 30 * sd.toInt by omega) hn.1; omega
    · have := Int.mul_le_mul_of_nonneg_left hn.2 (show 0 ≤ -(30 * sd.toInt) by omega); rw [Int.neg_mul] at this; omega
  have e2 : (30 * sd * v).toInt = 30 * sd.toInt * v.toInt := by rw [t_mul (by rw [e1]; omega) (by rw [e1]; omega), e1]
  rw [t_div (by decide), e2, show (1000 : Int32).toInt = 1000 from rfl]
  have e := Int.mul_tdiv_add_tmod (30 * sd.toInt * v.toInt) 1000
  have hb := tmod_bounds (a := 30 * sd.toInt * v.toInt) (M := 1000) (by decide)
  omega
theorem left_eq {cr si hi le : Nat → Int32} {a w : Nat} (ha : a < 2 ^ 31) (hw : w < 4) : f_X7_left cr si hi le (nI a) (nI w) = f_X2_left (f_X7_acrossOf cr (si a) (hi a)) (le a) (nI w) := by
  unfold f_X7_left f_X2_left
  rw [nI_clamp ha]
  have h : w = 0 ∨ w = 1 ∨ w = 2 ∨ w = 3 := by omega
  rcases h with h | h | h | h <;> subst h
  · rw [if_pos (by decide), if_neg (by decide), if_neg (by decide)]
  · rw [if_neg (by decide), if_pos (by decide)]
  · rw [if_pos (by decide), if_neg (by decide), if_neg (by decide)]
  · rw [if_neg (by decide), if_neg (by decide), if_pos (by decide)]
theorem low_eq {hi : Nat → Int32} {a w : Nat} (ha : a < 2 ^ 31) (hw : w < 4) : f_X7_low hi (nI a) (nI w) = f_X2_bottom (hi a) (nI w) := by
  unfold f_X7_low f_X2_bottom
  rw [nI_clamp ha]
  have h : w = 0 ∨ w = 1 ∨ w = 2 ∨ w = 3 := by omega
  rcases h with h | h | h | h <;> subst h
  · rw [if_neg (by decide), if_neg (by decide), if_neg (by decide)]
  · rw [if_neg (by decide), if_neg (by decide), if_neg (by decide)]
  · rw [if_pos (by decide), if_pos (by decide)]
  · rw [if_pos (by decide), if_neg (by decide), if_pos (by decide)]
theorem left_rng {nx le w : Int32} (h1 : -1800 ≤ nx.toInt ∧ nx.toInt ≤ 1800) (h2 : 1 ≤ le.toInt ∧ le.toInt ≤ 20) : (40 * le).toInt = 40 * le.toInt ∧ (-2600 ≤ (f_X2_left nx le w).toInt ∧ (f_X2_left nx le w).toInt ≤ 1800) := by
  have e : (40 * le).toInt = 40 * le.toInt := t_mul (by show _ ≤ 40 * le.toInt; omega) (by show 40 * le.toInt < _; omega)
  have es : (nx - 40 * le).toInt = nx.toInt - 40 * le.toInt := by rw [t_sub (by rw [e]; omega) (by rw [e]; omega), e]
  refine ⟨e, ?_⟩
  unfold f_X2_left
  by_cases c : w = 1
  · rw [if_pos c, es]; omega
  · rw [if_neg c]
    by_cases d : w = 3
    · rw [if_pos d, es]; omega
    · rw [if_neg d]; omega
theorem bot_rng {nh w : Int32} (h : (-5400) ≤ nh ∧ nh ≤ 5400) : -5480 ≤ (f_X2_bottom nh w).toInt ∧ (f_X2_bottom nh w).toInt ≤ 5400 := by
  obtain ⟨h0, h1⟩ := h
  rw [t_le, show ((-5400) : Int32).toInt = -5400 from rfl] at h0
  rw [t_le, show (5400 : Int32).toInt = 5400 from rfl] at h1
  have es : (nh - 80).toInt = nh.toInt - 80 := t_sub (by show _ ≤ nh.toInt - 80; omega) (by show nh.toInt - 80 < _; omega)
  unfold f_X2_bottom
  by_cases c : w = 2
  · rw [if_pos c, es]; omega
  · rw [if_neg c]
    by_cases d : w = 3
    · rw [if_pos d, es]; omega
    · rw [if_neg d]; omega
/-- to lie over each other -/
theorem cov_eq {cr si hi le : Nat → Int32} {a b w v : Nat} (ha : a < 2 ^ 31) (hb : b < 2 ^ 31) (hw : w ≤ 4) (hv : v ≤ 4) (xa : -1800 ≤ (f_X7_acrossOf cr (si a) (hi a)).toInt ∧ (f_X7_acrossOf cr (si a) (hi a)).toInt ≤ 1800) (xb : -1800 ≤ (f_X7_acrossOf cr (si b) (hi b)).toInt ∧ (f_X7_acrossOf cr (si b) (hi b)).toInt ≤ 1800) (la : 1 ≤ (le a).toInt ∧ (le a).toInt ≤ 20) (lb : 1 ≤ (le b).toInt ∧ (le b).toInt ≤ 20) (ya : (-5400) ≤ hi a ∧ hi a ≤ 5400) (yb : (-5400) ≤ hi b ∧ hi b ≤ 5400) : f_X2_covers (hi a) (f_X7_acrossOf cr (si a) (hi a)) (le a) (hi b) (f_X7_acrossOf cr (si b) (hi b)) (le b) (nI w) (nI v) = 0 ↔ ¬ f_X7_areApart cr si hi le (nI a) (nI w) (nI b) (nI v) = 0 := by
  unfold f_X2_covers f_X7_areApart
  by_cases c1 : nI w = 4
  · rw [if_pos c1, if_pos c1]; exact ⟨fun _ => by decide, fun _ => rfl⟩
  · rw [if_neg c1, if_neg c1]
    by_cases c2 : nI v = 4
    · rw [if_pos c2, if_pos c2]; exact ⟨fun _ => by decide, fun _ => rfl⟩
    · rw [if_neg c2, if_neg c2]
      have hw4 : w < 4 := by
        rcases Nat.lt_or_ge w 4 with h | h
        · exact h
        · exact absurd (show nI w = 4 by rw [show w = 4 by omega]; rfl) c1
      have hv4 : v < 4 := by
        rcases Nat.lt_or_ge v 4 with h | h
        · exact h
        · exact absurd (show nI v = 4 by rw [show v = 4 by omega]; rfl) c2
      rw [left_eq ha hw4, left_eq hb hv4, low_eq ha hw4, low_eq hb hv4, nI_clamp ha, nI_clamp hb]
      unfold f_X2_right
      obtain ⟨e1, r1⟩ := left_rng (w := nI w) xa la
      obtain ⟨e2, r2⟩ := left_rng (w := nI v) xb lb
      have r3 := bot_rng (w := nI w) ya
      have r4 := bot_rng (w := nI v) yb
      obtain ⟨A, hA⟩ : ∃ A : Int32, A = f_X2_left (f_X7_acrossOf cr (si a) (hi a)) (le a) (nI w) := ⟨_, rfl⟩
      obtain ⟨B, hB⟩ : ∃ B : Int32, B = f_X2_left (f_X7_acrossOf cr (si b) (hi b)) (le b) (nI v) := ⟨_, rfl⟩
      obtain ⟨Y, hY⟩ : ∃ Y : Int32, Y = f_X2_bottom (hi a) (nI w) := ⟨_, rfl⟩
      obtain ⟨U, hU⟩ : ∃ U : Int32, U = f_X2_bottom (hi b) (nI v) := ⟨_, rfl⟩
      obtain ⟨L, hL⟩ : ∃ L : Int32, L = 40 * le a := ⟨_, rfl⟩
      obtain ⟨M, hM⟩ : ∃ M : Int32, M = 40 * le b := ⟨_, rfl⟩
      rw [← hA] at r1 ⊢
      rw [← hB] at r2 ⊢
      rw [← hY] at r3 ⊢
      rw [← hU] at r4 ⊢
      rw [← hL] at e1 ⊢
      rw [← hM] at e2 ⊢
      have s1 : (B + M).toInt = B.toInt + M.toInt := t_add (by omega) (by omega)
      have s2 : (A + L).toInt = A.toInt + L.toInt := t_add (by omega) (by omega)
      have s3 : (A - B).toInt = A.toInt - B.toInt := t_sub (by omega) (by omega)
      have s4 : (Y - U).toInt = Y.toInt - U.toInt := t_sub (by omega) (by omega)
      have s5 : (-(A - B)).toInt = -(A.toInt - B.toInt) := by rw [t_neg (by rw [s3]; omega), s3]
      have z80 : (80 : Int32).toInt = 80 := rfl
      have z80n : ((-80) : Int32).toInt = -80 := rfl
      have z0 : (0 : Int32).toInt = 0 := rfl
      have k1 : (B + M ≤ A) ↔ (M ≤ A - B) := by rw [t_le, t_le, s1, s3]; omega
      have k2 : (A + L ≤ B) ↔ (L ≤ -(A - B)) := by rw [t_le, t_le, s2, s5]; omega
      have k3 : (80 ≤ (if 0 ≤ Y - U then Y - U else 0 - (Y - U))) ↔ (80 ≤ Y - U ∨ Y - U ≤ (-80)) := by
        by_cases c : 0 ≤ Y - U
        · rw [if_pos c, t_le, t_le, z80, z80n]
          rw [t_le, z0] at c
          omega
        · rw [if_neg c, Int32.zero_sub, t_le, t_le, t_le, t_neg (by rw [s4]; omega), z80, z80n]
          rw [t_le, z0] at c
          omega
      by_cases d1 : B + M ≤ A
      · rw [if_pos d1, if_pos (k1.mp d1)]; exact ⟨fun _ => by decide, fun _ => rfl⟩
      · rw [if_neg d1, if_neg (fun z => d1 (k1.mpr z))]
        by_cases d2 : A + L ≤ B
        · rw [if_pos d2, if_pos (k2.mp d2)]; exact ⟨fun _ => by decide, fun _ => rfl⟩
        · rw [if_neg d2, if_neg (fun z => d2 (k2.mpr z))]
          by_cases d3 : 80 ≤ Y - U
          · rw [if_pos (k3.mpr (Or.inl d3)), if_pos d3]; exact ⟨fun _ => by decide, fun _ => rfl⟩
          · by_cases d4 : Y - U ≤ (-80)
            · rw [if_pos (k3.mpr (Or.inr d4)), if_neg d3]
              refine ⟨fun _ => ?_, fun _ => rfl⟩
              first | (rw [if_pos d4]; decide) | (rw [if_neg (Int32.not_lt.mpr d4)]; decide)
            · rw [if_neg (fun z => (k3.mp z).elim d3 d4), if_neg d3]
              refine ⟨fun z => absurd z (by decide), fun z => ?_⟩
              exfalso
              apply z
              first | exact if_neg d4 | exact if_pos (Int32.not_le.mp d4)
