/-! numbers: Int32 by their value -/
theorem t_rng (x : Int32) : -2147483648 ≤ x.toInt ∧ x.toInt < 2147483648 := ⟨Int32.le_toInt x, Int32.toInt_lt x⟩
theorem t_bm {z : Int} (h1 : -2147483648 ≤ z) (h2 : z < 2147483648) : z.bmod (2 ^ 32) = z := by
  rw [Int.bmod_def]
  simp only [show ((2 ^ 32 : Nat) : Int) = 4294967296 from rfl]
  omega
theorem t_add {x y : Int32} (h1 : -2147483648 ≤ x.toInt + y.toInt) (h2 : x.toInt + y.toInt < 2147483648) : (x + y).toInt = x.toInt + y.toInt := by
  rw [Int32.toInt_add, t_bm h1 h2]
theorem t_sub {x y : Int32} (h1 : -2147483648 ≤ x.toInt - y.toInt) (h2 : x.toInt - y.toInt < 2147483648) : (x - y).toInt = x.toInt - y.toInt := by
  rw [Int32.toInt_sub, t_bm h1 h2]
theorem t_mul {x y : Int32} (h1 : -2147483648 ≤ x.toInt * y.toInt) (h2 : x.toInt * y.toInt < 2147483648) : (x * y).toInt = x.toInt * y.toInt := by
  rw [Int32.toInt_mul, t_bm h1 h2]
theorem t_neg {x : Int32} (h : x.toInt ≠ -2147483648) : (-x).toInt = -x.toInt := by
  have := t_rng x
  rw [Int32.toInt_neg, t_bm (by omega) (by omega)]
theorem t_div {x y : Int32} (hy : 0 < y.toInt) : (x / y).toInt = x.toInt.tdiv y.toInt := by
  have h := t_rng x
  have hb : -2147483648 ≤ x.toInt.tdiv y.toInt ∧ x.toInt.tdiv y.toInt < 2147483648 := by
    rcases Int.le_total 0 x.toInt with h0 | h0
    · rw [Int.tdiv_eq_ediv_of_nonneg h0]
      have a1 := Int.ediv_nonneg h0 (Int.le_of_lt hy)
      have a2 := Int.ediv_le_self y.toInt h0
      omega
    · have e : x.toInt.tdiv y.toInt = -((-x.toInt).tdiv y.toInt) := by rw [Int.neg_tdiv, Int.neg_neg]
      rw [e, Int.tdiv_eq_ediv_of_nonneg (by omega)]
      have a1 := Int.ediv_nonneg (a := -x.toInt) (b := y.toInt) (by omega) (Int.le_of_lt hy)
      have a2 := Int.ediv_le_self (a := -x.toInt) y.toInt (by omega)
      omega
  rw [Int32.toInt_div, t_bm hb.1 hb.2]
theorem t_divp {x y : Int32} (hx : 0 ≤ x.toInt) (hy : 0 < y.toInt) : (x / y).toInt = x.toInt / y.toInt := by
  rw [t_div hy, Int.tdiv_eq_ediv_of_nonneg hx]
theorem t_rem {x y : Int32} (hy : 0 < y.toInt) : (x - x / y * y).toInt = x.toInt.tmod y.toInt := by
  have h := t_rng x
  have h2 := t_rng y
  have hd := t_div (x := x) hy
  have e : x.toInt = y.toInt * x.toInt.tdiv y.toInt + x.toInt.tmod y.toInt := (Int.mul_tdiv_add_tmod x.toInt y.toInt).symm
  have hm := tmod_bounds (a := x.toInt) hy
  have ec : x.toInt.tdiv y.toInt * y.toInt = y.toInt * x.toInt.tdiv y.toInt := Int.mul_comm _ _
  have hmb : (x / y * y).toInt = x.toInt - x.toInt.tmod y.toInt := by
    by_cases h0 : 0 ≤ x.toInt
    · have g : 0 ≤ x.toInt.tmod y.toInt := by rw [Int.tmod_eq_emod_of_nonneg h0]; exact Int.emod_nonneg _ (by omega)
      have g2 : x.toInt.tmod y.toInt ≤ x.toInt := by
        rw [Int.tmod_eq_emod_of_nonneg h0]
        have hq := Int.emod_add_mul_ediv x.toInt y.toInt
        have hq2 := Int.mul_nonneg (Int.le_of_lt hy) (Int.ediv_nonneg (a := x.toInt) (b := y.toInt) h0 (Int.le_of_lt hy))
        omega
      rw [t_mul (by rw [hd, ec]; omega) (by rw [hd, ec]; omega), hd, ec]; omega
    · have g : x.toInt.tmod y.toInt ≤ 0 := by
        have e2 : x.toInt.tmod y.toInt = -((-x.toInt).tmod y.toInt) := by rw [Int.neg_tmod, Int.neg_neg]
        rw [e2, Int.tmod_eq_emod_of_nonneg (by omega)]
        have := Int.emod_nonneg (-x.toInt) (show y.toInt ≠ 0 by omega)
        omega
      have g2 : x.toInt ≤ x.toInt.tmod y.toInt := by
        have e2 : x.toInt.tmod y.toInt = -((-x.toInt).tmod y.toInt) := by rw [Int.neg_tmod, Int.neg_neg]
        rw [e2, Int.tmod_eq_emod_of_nonneg (by omega)]
        have hq := Int.emod_add_mul_ediv (-x.toInt) y.toInt
        have hq2 := Int.mul_nonneg (Int.le_of_lt hy) (Int.ediv_nonneg (a := -x.toInt) (b := y.toInt) (by omega) (Int.le_of_lt hy))
        omega
      rw [t_mul (by rw [hd, ec]; omega) (by rw [hd, ec]; omega), hd, ec]; omega
  rw [t_sub (by rw [hmb]; omega) (by rw [hmb]; omega), hmb]; omega
theorem t_remp {x y : Int32} (hx : 0 ≤ x.toInt) (hy : 0 < y.toInt) : (x - x / y * y).toInt = x.toInt % y.toInt := by
  rw [t_rem hy, Int.tmod_eq_emod_of_nonneg hx]
theorem t_ext {x y : Int32} (h : x.toInt = y.toInt) : x = y := Int32.toInt_inj.mp h
theorem t_lt {x y : Int32} : x < y ↔ x.toInt < y.toInt := Int32.lt_iff_toInt_lt
theorem t_le {x y : Int32} : x ≤ y ↔ x.toInt ≤ y.toInt := Int32.le_iff_toInt_le
theorem t_in {i : Int32} {n : Nat} (h0 : 0 ≤ i.toInt) (h1 : i.toInt < n) : vp_in i n := vp_in_iff.mpr ⟨h0, h1⟩
theorem t_cl {i : Int32} (h0 : 0 ≤ i.toInt) : (i.toNatClampNeg : Int) = i.toInt := by
  show ((i.toInt.toNat : Nat) : Int) = i.toInt
  omega
theorem x_in_ok {v lo hi : Int32} (h : ¬ f_X7_in v lo hi = 0) : lo ≤ v ∧ v ≤ hi := by
  unfold f_X7_in at h
  split at h
  · exact absurd rfl h
  · split at h
    · exact absurd rfl h
    · exact ⟨Int32.not_lt.mp ‹_›, Int32.not_lt.mp ‹_›⟩
