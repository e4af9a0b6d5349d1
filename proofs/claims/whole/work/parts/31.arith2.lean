/-! NUMBERS: the class's small functions are the reference's -/
theorem t_xor {x y : Int32} (hy : 0 < y.toInt) : 0 ≤ (x ^^^ y) ↔ 0 ≤ x.toInt := by
  have h1 : (x ^^^ y).toBitVec.msb = (x.toBitVec.msb ^^ y.toBitVec.msb) := by rw [Int32.toBitVec_xor, BitVec.msb_xor]
  rw [BitVec.msb_eq_toInt, BitVec.msb_eq_toInt, BitVec.msb_eq_toInt] at h1
  have e : ∀ z : Int32, z.toBitVec.toInt = z.toInt := fun _ => rfl
  rw [e, e, e] at h1
  rw [t_le, show (0 : Int32).toInt = 0 from rfl]
  rw [show decide (y.toInt < 0) = false from decide_eq_false (by omega), Bool.xor_false] at h1
  have := decide_eq_decide.mp h1
  omega
theorem i_flo {a b : Int} (hb : 0 < b) : a / b = (if a.tmod b < 0 then a.tdiv b - 1 else a.tdiv b) ∧ a % b = (if a.tmod b < 0 then a.tmod b + b else a.tmod b) := by
  have e : b * a.tdiv b + a.tmod b = a := Int.mul_tdiv_add_tmod a b
  have hm := tmod_bounds (a := a) hb
  by_cases c : a.tmod b < 0
  · rw [if_pos c, if_pos c]
    refine (Int.ediv_emod_unique hb).2 ⟨?_, by omega, by omega⟩
    rw [Int.mul_sub, Int.mul_one]
    omega
  · rw [if_neg c, if_neg c]
    refine (Int.ediv_emod_unique hb).2 ⟨by omega, by omega, by omega⟩
theorem t_mod0 {x y : Int32} (hy : 0 < y.toInt) : (x / y) * y = x ↔ x.toInt.tmod y.toInt = 0 := by
  have h := t_rem (x := x) hy
  constructor
  · intro e
    rw [e, Int32.sub_self] at h
    exact h.symm
  · intro e
    rw [e] at h
    have : x - x / y * y = 0 := t_ext h
    have h2 : x = x / y * y + (x - x / y * y) := by rw [Int32.add_comm, Int32.sub_add_cancel]
    rw [this, Int32.add_zero] at h2
    exact h2.symm
theorem i_pos {a b : Int} (ha : 0 ≤ a) : 0 ≤ a.tmod b := by
  rw [Int.tmod_eq_emod_of_nonneg ha]
  by_cases h : b = 0
  · subst h; simpa using ha
  · exact Int.emod_nonneg _ h
theorem i_neg {a b : Int} (ha : a < 0) (hb : 0 < b) : a.tmod b ≤ 0 := by
  have e2 : a.tmod b = -((-a).tmod b) := by rw [Int.neg_tmod, Int.neg_neg]
  have := i_pos (a := -a) (b := b) (by omega)
  omega
theorem i_tdb {x y : Int32} (hy : 0 < y.toInt) : -2147483648 ≤ x.toInt.tdiv y.toInt ∧ x.toInt.tdiv y.toInt < 2147483648 := by
  rw [← t_div hy]; exact t_rng _
theorem t_fd {x y : Int32} (hy : 0 < y.toInt) : (f_J9_floorDiv_7cf53 x y).toInt = x.toInt / y.toInt := by
  unfold f_J9_floorDiv_7cf53
  rw [(i_flo hy).1]
  by_cases h0 : 0 ≤ x.toInt
  · rw [if_pos ((t_xor hy).mpr h0), if_neg (by have := i_pos (b := y.toInt) h0; omega), t_div hy]
  · rw [if_neg (fun q => h0 ((t_xor hy).mp q))]
    have h1 := i_neg (b := y.toInt) (show x.toInt < 0 by omega) hy
    by_cases c : x.toInt.tmod y.toInt = 0
    · rw [if_pos ((t_mod0 hy).mpr c), if_neg (by omega), t_div hy]
    · rw [if_neg (fun q => c ((t_mod0 hy).mp q)), if_pos (by omega)]
      have hd := t_div (x := x) hy
      have hlow : -2147483648 < x.toInt.tdiv y.toInt := by
        by_cases g : -2147483648 < x.toInt.tdiv y.toInt
        · exact g
        · exfalso
          have e : y.toInt * x.toInt.tdiv y.toInt + x.toInt.tmod y.toInt = x.toInt := Int.mul_tdiv_add_tmod _ _
          have hr := t_rng x
          have := i_tdb (x := x) hy
          have e3 : x.toInt.tdiv y.toInt = -2147483648 := by omega
          rw [e3] at e
          omega
      have hb := i_tdb (x := x) hy
      rw [t_sub (by rw [hd]; show -2147483648 ≤ x.toInt.tdiv y.toInt - 1; omega) (by rw [hd]; show x.toInt.tdiv y.toInt - 1 < 2147483648; omega), hd]
      rfl
theorem t_fm {x y : Int32} (hy : 0 < y.toInt) : (f_J9_floorMod_7cf53 x y).toInt = x.toInt % y.toInt := by
  unfold f_J9_floorMod_7cf53
  rw [(i_flo hy).2]
  have hr := t_rem (x := x) hy
  have hb := tmod_bounds (a := x.toInt) hy
  have hyr := t_rng y
  by_cases h0 : 0 ≤ x.toInt
  · rw [if_pos ((t_xor hy).mpr h0), if_neg (by have := i_pos (b := y.toInt) h0; omega), hr]
  · rw [if_neg (fun q => h0 ((t_xor hy).mp q))]
    have h1 := i_neg (b := y.toInt) (show x.toInt < 0 by omega) hy
    by_cases c : x - x / y * y = 0
    · rw [if_pos c, if_neg (by rw [c] at hr; rw [← hr]; decide), hr]
    · have c2 : x.toInt.tmod y.toInt ≠ 0 := fun q => c (t_ext (by rw [hr, q]; rfl))
      rw [if_neg c, if_pos (by omega), t_add (by rw [hr]; omega) (by rw [hr]; omega), hr]
theorem t_wh {x y : Int32} (hy : 0 < y.toInt) : (f_X6_wholes x y).toInt = x.toInt / y.toInt := by
  unfold f_X6_wholes
  rw [if_neg (by rw [t_le, show (0 : Int32).toInt = 0 from rfl]; omega)]
  exact t_fd hy
theorem t_rs {x y : Int32} (hy : 0 < y.toInt) : (f_X6_rest x y).toInt = x.toInt % y.toInt := by
  unfold f_X6_rest
  rw [if_neg (by rw [t_le, show (0 : Int32).toInt = 0 from rfl]; omega)]
  exact t_fm hy
theorem wh_div {x y : Int32} (hx : 0 ≤ x.toInt) (hy : 0 < y.toInt) : f_X6_wholes x y = x / y := t_ext (by rw [t_wh hy, t_divp hx hy])
theorem rd_i {p q : Int32} (hq : 0 < (2 * q).toInt) : (f_X7_round p q).toInt = (2 * p + q).toInt / (2 * q).toInt := by
  unfold f_X7_round
  have hr := t_rem (x := 2 * p + q) hq
  have hd := t_div (x := 2 * p + q) hq
  have h0 : (0 : Int32).toInt = 0 := rfl
  rw [(i_flo hq).1]
  by_cases c : (2 * p + q).toInt.tmod (2 * q).toInt < 0
  · rw [if_neg (by rw [t_le, hr, h0]; omega), if_pos c]
    have hlow : -2147483648 < (2 * p + q).toInt.tdiv (2 * q).toInt := by
      by_cases g : -2147483648 < (2 * p + q).toInt.tdiv (2 * q).toInt
      · exact g
      · exfalso
        have e : (2 * q).toInt * (2 * p + q).toInt.tdiv (2 * q).toInt + (2 * p + q).toInt.tmod (2 * q).toInt = (2 * p + q).toInt := Int.mul_tdiv_add_tmod _ _
        have hr := t_rng (2 * p + q)
        have := i_tdb (x := 2 * p + q) hq
        have e3 : (2 * p + q).toInt.tdiv (2 * q).toInt = -2147483648 := by omega
        rw [e3] at e
        omega
    have hb := i_tdb (x := 2 * p + q) hq
    rw [t_sub (by rw [hd]; show -2147483648 ≤ (2 * p + q).toInt.tdiv (2 * q).toInt - 1; omega) (by rw [hd]; show (2 * p + q).toInt.tdiv (2 * q).toInt - 1 < 2147483648; omega), hd]
    rfl
  · rw [if_pos (by rw [t_le, hr, h0]; omega), if_neg c, hd]
/-- rounding: the same wherever twice the divisor is positive -/
theorem rnd_eq {p q : Int32} (h1 : 0 < q.toInt) (h2 : 0 < (2 * q).toInt) : f_X6_roundBy p q = f_X7_round p q := by
  unfold f_X6_roundBy
  apply t_ext
  rw [t_wh h2, rd_i h2]
theorem place_eq (lon lat : Int32) : f_X6_isPlace lon lat = f_X7_isPlace lon lat := by
  unfold f_X6_isPlace f_X7_isPlace f_X7_in
  have e1 : (360 ≤ lon) = (359 < lon) := by
    rw [t_le, t_lt, show (360 : Int32).toInt = 360 from rfl, show (359 : Int32).toInt = 359 from rfl]
    exact propext ⟨fun h => by omega, fun h => by omega⟩
  simp only [e1]
  repeat' split
  all_goals first | rfl | (exfalso; simp_all)
theorem height_eq (h : Int32) : f_X6_isHeight h = f_X7_in h (-5400) 5400 := rfl
theorem growth_eq (g : Int32) : f_X6_isGrowth g = f_X7_in g 0 50 := rfl
def cosOk (r : Nat → Int32) : Prop := ∀ j, j < 92 → r j = (cosL ++ [0]).getD j 0
theorem cos_eq {r : Nat → Int32} (hr : cosOk r) {d : Int32} (h0 : 0 ≤ d.toInt) (h1 : d.toInt ≤ 91) : f_X6_cosOf d = r d.toNatClampNeg := by
  have hc := t_cl h0
  rw [hr _ (by omega)]
  unfold f_X6_cosOf
  rw [if_neg (by rw [t_lt, show (0 : Int32).toInt = 0 from rfl]; omega)]
  by_cases c : (91 : Int32) ≤ d
  · rw [if_pos c]
    have h2 : d.toNatClampNeg = 91 := by
      rw [t_le, show (91 : Int32).toInt = 91 from rfl] at c; omega
    rw [h2]; decide
  · rw [if_neg c]
    have h2 : d.toNatClampNeg < 91 := by
      rw [t_le, show (91 : Int32).toInt = 91 from rfl] at c; omega
    rw [List.getD_eq_getElem?_getD, List.getD_eq_getElem?_getD, List.getElem?_append_left (by rw [show cosL.length = 91 from rfl]; exact h2)]
theorem narrow_eq {r : Nat → Int32} (hr : cosOk r) {h : Int32} (h0 : (-5400) ≤ h) (h1 : h ≤ 5400) : f_X6_narrowAt h = f_X7_narrowOf r h := by
  rw [t_le, show ((-5400) : Int32).toInt = -5400 from rfl] at h0
  rw [t_le, show (5400 : Int32).toInt = 5400 from rfl] at h1
  have key : ∀ a : Int32, 0 ≤ a.toInt → a.toInt ≤ 5400 → f_X6_cosOf (a / 60) = r (a / 60).toNatClampNeg ∧ f_X6_cosOf (a / 60 + 1) = r (a / 60 + 1).toNatClampNeg := by
    intro a a0 a1
    have hd := t_divp (y := 60) a0 (by decide)
    rw [show (60 : Int32).toInt = 60 from rfl] at hd
    have h2 : (a / 60 + 1).toInt = (a / 60).toInt + 1 := t_add (by rw [hd]; show _ ≤ _ + (1 : Int); omega) (by rw [hd]; show _ + (1 : Int) < _; omega)
    exact ⟨cos_eq hr (by omega) (by omega), cos_eq hr (by omega) (by omega)⟩
  unfold f_X6_narrowAt f_X7_narrowOf
  by_cases c : 0 ≤ h
  · rw [if_pos c, if_pos c]
    have c2 := c
    rw [t_le, show (0 : Int32).toInt = 0 from rfl] at c2
    have := key h c2 h1
    rw [this.1, this.2]
  · rw [if_neg c, if_neg c]
    rw [t_le, show (0 : Int32).toInt = 0 from rfl] at c
    have e : 0 - h = -h := by rw [Int32.zero_sub]
    rw [e]
    have hn : (-h).toInt = -h.toInt := t_neg (by omega)
    have := key (-h) (by omega) (by omega)
    rw [this.1, this.2]
theorem in_ok {v lo hi : Int32} : f_X7_in v lo hi = 0 ∨ (f_X7_in v lo hi = 1 ∧ lo ≤ v ∧ v ≤ hi) := by
  by_cases h : f_X7_in v lo hi = 0
  · exact Or.inl h
  · have := x_in_ok h
    refine Or.inr ⟨?_, this⟩
    unfold f_X7_in
    rw [if_neg (Int32.not_lt.mpr this.1), if_neg (Int32.not_lt.mpr this.2)]
theorem xOf_eq {r : Nat → Int32} (hr : cosOk r) {sd h : Int32} (h0 : (-5400) ≤ h) (h1 : h ≤ 5400) : f_X6_xOf sd h = f_X7_acrossOf r sd h := by
  unfold f_X6_xOf f_X7_acrossOf
  rw [narrow_eq hr h0 h1]
theorem narrowM_eq {r : Nat → Int32} (hr : cosOk r) (h : Int32) : f_X6_narrow h = f_X7_narrow r h := by
  unfold f_X6_narrow f_X7_narrow
  rw [height_eq]
  rcases in_ok (v := h) (lo := -5400) (hi := 5400) with c | ⟨c, c1, c2⟩
  · rw [if_pos c, if_pos c]
  · rw [if_neg (by rw [c]; decide), if_neg (by rw [c]; decide), narrow_eq hr c1 c2]
theorem acrossM_eq {r : Nat → Int32} (hr : cosOk r) (w sd h : Int32) : f_X6_across w sd h = f_X7_across w r sd h := by
  unfold f_X6_across f_X7_across
  rw [height_eq]
  rcases in_ok (v := h) (lo := -5400) (hi := 5400) with c | ⟨c, c1, c2⟩
  · rw [c]; simp only [if_true]; unfold f_X7_in; repeat' split
    all_goals first | rfl | (exfalso; simp_all)
  · rw [c, xOf_eq hr c1 c2]
    have n1 : ¬ (1 : Int32) = 0 := by decide
    unfold f_X7_in
    by_cases e1 : sd < -w
    · rw [if_pos e1, if_pos e1, if_pos rfl]
    · rw [if_neg e1, if_neg e1]
      by_cases e2 : w < sd
      · rw [if_pos e2, if_pos e2, if_pos rfl]
      · rw [if_neg e2, if_neg e2, if_neg n1, if_neg n1]
theorem grown_eq (ga gl wh : Int32) : f_X6_grownThousand ga gl wh = f_X7_grown ga gl wh := rfl
theorem in01 {wh : Int32} : f_X7_in wh 0 1 = if wh = 0 then 1 else if wh = 1 then 1 else 0 := by
  unfold f_X7_in
  by_cases c : wh = 0
  · subst c; decide
  · by_cases d : wh = 1
    · subst d; decide
    · rw [if_neg c, if_neg d]
      by_cases e : wh < 0
      · rw [if_pos e]
      · rw [if_neg e, if_pos]
        rw [t_lt, show (1 : Int32).toInt = 1 from rfl]
        rw [t_lt, show (0 : Int32).toInt = 0 from rfl] at e
        have h1 : wh.toInt ≠ 0 := fun q => c (t_ext q)
        have h2 : wh.toInt ≠ 1 := fun q => d (t_ext q)
        omega
theorem paper_in (v wh : Int32) : f_X6_isOnPaper v wh = if f_X7_in wh 0 1 = 0 then 0 else f_X7_in v (-10000) 10000 := by
  rw [in01]
  unfold f_X6_isOnPaper f_X7_in
  by_cases c : wh = 0
  · simp [c]
  · by_cases d : wh = 1
    · simp [d]
    · simp [c, d]
theorem grown_rng {ga gl wh : Int32} (h1 : 0 ≤ ga ∧ ga ≤ 50) (h2 : 0 ≤ gl ∧ gl ≤ 50) : 1000 ≤ (f_X7_grown ga gl wh).toInt ∧ (f_X7_grown ga gl wh).toInt ≤ 1050 := by
  simp only [t_le, show (0 : Int32).toInt = 0 from rfl, show (50 : Int32).toInt = 50 from rfl] at h1 h2
  unfold f_X7_grown
  have e : (1000 : Int32).toInt = 1000 := rfl
  by_cases c : wh = 0
  · rw [if_pos c, t_add (by rw [e]; omega) (by rw [e]; omega), e]; omega
  · rw [if_neg c, t_add (by rw [e]; omega) (by rw [e]; omega), e]; omega
theorem two_pos {q : Int32} (h1 : 0 < q.toInt) (h2 : q.toInt < 1000000000) : 0 < (2 * q).toInt := by
  rw [t_mul (by show _ ≤ 2 * q.toInt; omega) (by show 2 * q.toInt < _; omega)]
  show 0 < 2 * q.toInt
  omega
theorem drawnM_eq {ga gl : Int32} (h1 : 0 ≤ ga ∧ ga ≤ 50) (h2 : 0 ≤ gl ∧ gl ≤ 50) (v wh : Int32) : f_X6_drawn ga gl v wh = f_X7_drawn ga gl v wh := by
  unfold f_X6_drawn f_X7_drawn
  have hg := grown_rng (wh := wh) h1 h2
  rw [paper_in, grown_eq, rnd_eq (by omega) (two_pos (by omega) (by omega)), Int32.mul_comm v 1000]
  by_cases c : f_X7_in wh 0 1 = 0
  · rw [if_pos c, if_pos c, if_pos rfl]
  · rw [if_neg c, if_neg c]
theorem wetM_eq {ga gl : Int32} (v wh : Int32) : f_X6_wet ga gl v wh = f_X7_wet ga gl v wh := by
  unfold f_X6_wet f_X7_wet
  rw [paper_in, grown_eq, rnd_eq (by decide) (by decide)]
  by_cases c : f_X7_in wh 0 1 = 0
  · rw [if_pos c, if_pos c, if_pos rfl]
  · rw [if_neg c, if_neg c]
