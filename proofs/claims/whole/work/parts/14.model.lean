/-- the reference's rows: place of the field, place behind the object, kind, length -/
def mhT : List (Nat × Nat × Nat × Nat) := [(0, 1, 20, 92), (4, 2, 20, 30), (5, 3, 20, 30), (7, 4, 20, 600), (8, 5, 20, 600), (9, 6, 20, 2400), (13, 7, 21, 60), (14, 8, 20, 60), (15, 9, 20, 60), (16, 10, 20, 60), (17, 11, 20, 60), (18, 12, 20, 60), (19, 13, 21, 24), (20, 14, 20, 24), (22, 15, 20, 6), (23, 16, 20, 6), (24, 17, 20, 6)]
def MH (S : HS) (o : Nat) : Prop := gK S o = 9 ∧ ∀ q ∈ mhT, gP S (256 + q.1) o = some (o + q.2.1) ∧ gK S (o + q.2.1) = q.2.2.1 ∧ gL S (o + q.2.1) = q.2.2.2
theorem mhK {S : HS} {o : Nat} (h : MH S o) : gK S o = 9 := h.1
theorem mhP_cos {S : HS} {o : Nat} (h : MH S o) : gP S 256 o = some (o + 1) := (h.2 (0, 1, 20, 92) (List.mem_of_getElem? (i := 0) (l := mhT) rfl)).1
theorem mhK_cos {S : HS} {o : Nat} (h : MH S o) : gK S (o + 1) = 20 := (h.2 (0, 1, 20, 92) (List.mem_of_getElem? (i := 0) (l := mhT) rfl)).2.1
theorem mhL_cos {S : HS} {o : Nat} (h : MH S o) : gL S (o + 1) = 92 := (h.2 (0, 1, 20, 92) (List.mem_of_getElem? (i := 0) (l := mhT) rfl)).2.2
theorem mhP_coastAt {S : HS} {o : Nat} (h : MH S o) : gP S 260 o = some (o + 2) := (h.2 (4, 2, 20, 30) (List.mem_of_getElem? (i := 1) (l := mhT) rfl)).1
theorem mhK_coastAt {S : HS} {o : Nat} (h : MH S o) : gK S (o + 2) = 20 := (h.2 (4, 2, 20, 30) (List.mem_of_getElem? (i := 1) (l := mhT) rfl)).2.1
theorem mhL_coastAt {S : HS} {o : Nat} (h : MH S o) : gL S (o + 2) = 30 := (h.2 (4, 2, 20, 30) (List.mem_of_getElem? (i := 1) (l := mhT) rfl)).2.2
theorem mhP_coastHigh {S : HS} {o : Nat} (h : MH S o) : gP S 261 o = some (o + 3) := (h.2 (5, 3, 20, 30) (List.mem_of_getElem? (i := 2) (l := mhT) rfl)).1
theorem mhK_coastHigh {S : HS} {o : Nat} (h : MH S o) : gK S (o + 3) = 20 := (h.2 (5, 3, 20, 30) (List.mem_of_getElem? (i := 2) (l := mhT) rfl)).2.1
theorem mhL_coastHigh {S : HS} {o : Nat} (h : MH S o) : gL S (o + 3) = 30 := (h.2 (5, 3, 20, 30) (List.mem_of_getElem? (i := 2) (l := mhT) rfl)).2.2
theorem mhP_pieceGore {S : HS} {o : Nat} (h : MH S o) : gP S 263 o = some (o + 4) := (h.2 (7, 4, 20, 600) (List.mem_of_getElem? (i := 3) (l := mhT) rfl)).1
theorem mhK_pieceGore {S : HS} {o : Nat} (h : MH S o) : gK S (o + 4) = 20 := (h.2 (7, 4, 20, 600) (List.mem_of_getElem? (i := 3) (l := mhT) rfl)).2.1
theorem mhL_pieceGore {S : HS} {o : Nat} (h : MH S o) : gL S (o + 4) = 600 := (h.2 (7, 4, 20, 600) (List.mem_of_getElem? (i := 3) (l := mhT) rfl)).2.2
theorem mhP_pieceCoast {S : HS} {o : Nat} (h : MH S o) : gP S 264 o = some (o + 5) := (h.2 (8, 5, 20, 600) (List.mem_of_getElem? (i := 4) (l := mhT) rfl)).1
theorem mhK_pieceCoast {S : HS} {o : Nat} (h : MH S o) : gK S (o + 5) = 20 := (h.2 (8, 5, 20, 600) (List.mem_of_getElem? (i := 4) (l := mhT) rfl)).2.1
theorem mhL_pieceCoast {S : HS} {o : Nat} (h : MH S o) : gL S (o + 5) = 600 := (h.2 (8, 5, 20, 600) (List.mem_of_getElem? (i := 4) (l := mhT) rfl)).2.2
theorem mhP_pieceEnds {S : HS} {o : Nat} (h : MH S o) : gP S 265 o = some (o + 6) := (h.2 (9, 6, 20, 2400) (List.mem_of_getElem? (i := 5) (l := mhT) rfl)).1
theorem mhK_pieceEnds {S : HS} {o : Nat} (h : MH S o) : gK S (o + 6) = 20 := (h.2 (9, 6, 20, 2400) (List.mem_of_getElem? (i := 5) (l := mhT) rfl)).2.1
theorem mhL_pieceEnds {S : HS} {o : Nat} (h : MH S o) : gL S (o + 6) = 2400 := (h.2 (9, 6, 20, 2400) (List.mem_of_getElem? (i := 5) (l := mhT) rfl)).2.2
theorem mhP_isThere {S : HS} {o : Nat} (h : MH S o) : gP S 269 o = some (o + 7) := (h.2 (13, 7, 21, 60) (List.mem_of_getElem? (i := 6) (l := mhT) rfl)).1
theorem mhK_isThere {S : HS} {o : Nat} (h : MH S o) : gK S (o + 7) = 21 := (h.2 (13, 7, 21, 60) (List.mem_of_getElem? (i := 6) (l := mhT) rfl)).2.1
theorem mhL_isThere {S : HS} {o : Nat} (h : MH S o) : gL S (o + 7) = 60 := (h.2 (13, 7, 21, 60) (List.mem_of_getElem? (i := 6) (l := mhT) rfl)).2.2
theorem mhP_nameGore {S : HS} {o : Nat} (h : MH S o) : gP S 270 o = some (o + 8) := (h.2 (14, 8, 20, 60) (List.mem_of_getElem? (i := 7) (l := mhT) rfl)).1
theorem mhK_nameGore {S : HS} {o : Nat} (h : MH S o) : gK S (o + 8) = 20 := (h.2 (14, 8, 20, 60) (List.mem_of_getElem? (i := 7) (l := mhT) rfl)).2.1
theorem mhL_nameGore {S : HS} {o : Nat} (h : MH S o) : gL S (o + 8) = 60 := (h.2 (14, 8, 20, 60) (List.mem_of_getElem? (i := 7) (l := mhT) rfl)).2.2
theorem mhP_nameSide {S : HS} {o : Nat} (h : MH S o) : gP S 271 o = some (o + 9) := (h.2 (15, 9, 20, 60) (List.mem_of_getElem? (i := 8) (l := mhT) rfl)).1
theorem mhK_nameSide {S : HS} {o : Nat} (h : MH S o) : gK S (o + 9) = 20 := (h.2 (15, 9, 20, 60) (List.mem_of_getElem? (i := 8) (l := mhT) rfl)).2.1
theorem mhL_nameSide {S : HS} {o : Nat} (h : MH S o) : gL S (o + 9) = 60 := (h.2 (15, 9, 20, 60) (List.mem_of_getElem? (i := 8) (l := mhT) rfl)).2.2
theorem mhP_nameHigh {S : HS} {o : Nat} (h : MH S o) : gP S 272 o = some (o + 10) := (h.2 (16, 10, 20, 60) (List.mem_of_getElem? (i := 9) (l := mhT) rfl)).1
theorem mhK_nameHigh {S : HS} {o : Nat} (h : MH S o) : gK S (o + 10) = 20 := (h.2 (16, 10, 20, 60) (List.mem_of_getElem? (i := 9) (l := mhT) rfl)).2.1
theorem mhL_nameHigh {S : HS} {o : Nat} (h : MH S o) : gL S (o + 10) = 60 := (h.2 (16, 10, 20, 60) (List.mem_of_getElem? (i := 9) (l := mhT) rfl)).2.2
theorem mhP_letters {S : HS} {o : Nat} (h : MH S o) : gP S 273 o = some (o + 11) := (h.2 (17, 11, 20, 60) (List.mem_of_getElem? (i := 10) (l := mhT) rfl)).1
theorem mhK_letters {S : HS} {o : Nat} (h : MH S o) : gK S (o + 11) = 20 := (h.2 (17, 11, 20, 60) (List.mem_of_getElem? (i := 10) (l := mhT) rfl)).2.1
theorem mhL_letters {S : HS} {o : Nat} (h : MH S o) : gL S (o + 11) = 60 := (h.2 (17, 11, 20, 60) (List.mem_of_getElem? (i := 10) (l := mhT) rfl)).2.2
theorem mhP_price {S : HS} {o : Nat} (h : MH S o) : gP S 274 o = some (o + 12) := (h.2 (18, 12, 20, 60) (List.mem_of_getElem? (i := 11) (l := mhT) rfl)).1
theorem mhK_price {S : HS} {o : Nat} (h : MH S o) : gK S (o + 12) = 20 := (h.2 (18, 12, 20, 60) (List.mem_of_getElem? (i := 11) (l := mhT) rfl)).2.1
theorem mhL_price {S : HS} {o : Nat} (h : MH S o) : gL S (o + 12) = 60 := (h.2 (18, 12, 20, 60) (List.mem_of_getElem? (i := 11) (l := mhT) rfl)).2.2
theorem mhP_isFresh {S : HS} {o : Nat} (h : MH S o) : gP S 275 o = some (o + 13) := (h.2 (19, 13, 21, 24) (List.mem_of_getElem? (i := 12) (l := mhT) rfl)).1
theorem mhK_isFresh {S : HS} {o : Nat} (h : MH S o) : gK S (o + 13) = 21 := (h.2 (19, 13, 21, 24) (List.mem_of_getElem? (i := 12) (l := mhT) rfl)).2.1
theorem mhL_isFresh {S : HS} {o : Nat} (h : MH S o) : gL S (o + 13) = 24 := (h.2 (19, 13, 21, 24) (List.mem_of_getElem? (i := 12) (l := mhT) rfl)).2.2
theorem mhP_printedIn {S : HS} {o : Nat} (h : MH S o) : gP S 276 o = some (o + 14) := (h.2 (20, 14, 20, 24) (List.mem_of_getElem? (i := 13) (l := mhT) rfl)).1
theorem mhK_printedIn {S : HS} {o : Nat} (h : MH S o) : gK S (o + 14) = 20 := (h.2 (20, 14, 20, 24) (List.mem_of_getElem? (i := 13) (l := mhT) rfl)).2.1
theorem mhL_printedIn {S : HS} {o : Nat} (h : MH S o) : gL S (o + 14) = 24 := (h.2 (20, 14, 20, 24) (List.mem_of_getElem? (i := 13) (l := mhT) rfl)).2.2
theorem mhP_here {S : HS} {o : Nat} (h : MH S o) : gP S 278 o = some (o + 15) := (h.2 (22, 15, 20, 6) (List.mem_of_getElem? (i := 14) (l := mhT) rfl)).1
theorem mhK_here {S : HS} {o : Nat} (h : MH S o) : gK S (o + 15) = 20 := (h.2 (22, 15, 20, 6) (List.mem_of_getElem? (i := 14) (l := mhT) rfl)).2.1
theorem mhL_here {S : HS} {o : Nat} (h : MH S o) : gL S (o + 15) = 6 := (h.2 (22, 15, 20, 6) (List.mem_of_getElem? (i := 14) (l := mhT) rfl)).2.2
theorem mhP_ways {S : HS} {o : Nat} (h : MH S o) : gP S 279 o = some (o + 16) := (h.2 (23, 16, 20, 6) (List.mem_of_getElem? (i := 15) (l := mhT) rfl)).1
theorem mhK_ways {S : HS} {o : Nat} (h : MH S o) : gK S (o + 16) = 20 := (h.2 (23, 16, 20, 6) (List.mem_of_getElem? (i := 15) (l := mhT) rfl)).2.1
theorem mhL_ways {S : HS} {o : Nat} (h : MH S o) : gL S (o + 16) = 6 := (h.2 (23, 16, 20, 6) (List.mem_of_getElem? (i := 15) (l := mhT) rfl)).2.2
theorem mhP_bestWays {S : HS} {o : Nat} (h : MH S o) : gP S 280 o = some (o + 17) := (h.2 (24, 17, 20, 6) (List.mem_of_getElem? (i := 16) (l := mhT) rfl)).1
theorem mhK_bestWays {S : HS} {o : Nat} (h : MH S o) : gK S (o + 17) = 20 := (h.2 (24, 17, 20, 6) (List.mem_of_getElem? (i := 16) (l := mhT) rfl)).2.1
theorem mhL_bestWays {S : HS} {o : Nat} (h : MH S o) : gL S (o + 17) = 6 := (h.2 (24, 17, 20, 6) (List.mem_of_getElem? (i := 16) (l := mhT) rfl)).2.2
def f_X7_isGore (go : Int32) (g : Int32) : Int32 := (f_X7_in g 0 ((go - 1)))
set_option maxRecDepth 100000 in
theorem c_X7_isGore {k : KT} {S : HS} {o : Nat}  (go : Int32) (g : Int32) (hM : MH S o) (hvgo : gI S 257 o = go)  : Ct k (mt_X7_isGore (rm 2 0 0)) [.ref (o), .int (g)] S (Pu (f_X7_isGore go g) S) := by
  refine Ct.ofF (by decide +kernel) (Nat.le_of_ble_eq_true rfl) ?_
  refine x_lv [(0, .ref (o)), (1, .int (g))] [0, 1] rfl ?_
  refine x_iload_n 1 dX7_isGore_0 rfl ?_
  refine x_iconst 0 dX7_isGore_1 (by decide) ?_
  refine x_aload_n 0 dX7_isGore_2 rfl ?_
  refine gf_X7_62 rfl dX7_isGore_3 (mhK hM) ?_
  rw [show gI (S) 257 (o) = go from hvgo]
  refine x_iconst 1 dX7_isGore_6 (by decide) ?_
  refine x_isub dX7_isGore_7 ?_
  refine ca_X7_69 [.int (g), .int (0), .int ((go - 1))] [] (c_X7_in (g) (0) ((go - 1))) rfl dX7_isGore_8 rfl rfl ⟨(Nat.le_of_ble_eq_true rfl), (Nat.le_of_ble_eq_true rfl), (Nat.le_of_ble_eq_true rfl), (Nat.le_of_ble_eq_true rfl), (Nat.le_of_ble_eq_true rfl)⟩ (fun v T hq => ?_)
  obtain ⟨rfl, rfl⟩ := hq
  exact x_zreturn dX7_isGore_11 rfl (nb01 (f01_X7_in _ _ _)) (Nat.le_of_ble_eq_true rfl) (Nat.le_of_ble_eq_true rfl) ⟨by rw [f_X7_isGore], rfl⟩
theorem f01_X7_isGore (go g : Int32) : f_X7_isGore go g = 0 ∨ f_X7_isGore go g = 1 := f01_X7_in _ _ _
theorem nar_in1 {m : Int32} (h : (-5400) ≤ m ∧ m ≤ 5400) (c : m < 0) : vp_in (-m / 60) 92 := by
  have a1 := t_le.mp h.1
  have a2 := t_lt.mp c
  simp only [show (-5400 : Int32).toInt = -5400 from rfl, show (0 : Int32).toInt = 0 from rfl] at a1 a2
  have e : (-m).toInt = -m.toInt := t_neg (by omega)
  have e2 : (-m / 60).toInt = (-m.toInt) / 60 := by rw [t_divp (by rw [e]; omega) (by decide), e]; rfl
  exact t_in (by rw [e2]; omega) (by rw [e2]; omega)
theorem nar_in2 {m : Int32} (h : (-5400) ≤ m ∧ m ≤ 5400) (c : m < 0) : vp_in (-m / 60 + 1) 92 := by
  have a1 := t_le.mp h.1
  have a2 := t_lt.mp c
  simp only [show (-5400 : Int32).toInt = -5400 from rfl, show (0 : Int32).toInt = 0 from rfl] at a1 a2
  have e : (-m).toInt = -m.toInt := t_neg (by omega)
  have e2 : (-m / 60).toInt = (-m.toInt) / 60 := by rw [t_divp (by rw [e]; omega) (by decide), e]; rfl
  have e3 : (-m / 60 + 1).toInt = (-m.toInt) / 60 + 1 := by rw [t_add (by rw [e2]; simp only [show (1 : Int32).toInt = 1 from rfl]; omega) (by rw [e2]; simp only [show (1 : Int32).toInt = 1 from rfl]; omega), e2]; rfl
  exact t_in (by rw [e3]; omega) (by rw [e3]; omega)
theorem nar_in3 {m : Int32} (h : (-5400) ≤ m ∧ m ≤ 5400) (c : ¬ m < 0) : vp_in (m / 60) 92 := by
  have a1 := t_le.mp h.2
  have a2 := t_le.mp (Int32.not_lt.mp c)
  simp only [show (5400 : Int32).toInt = 5400 from rfl, show (0 : Int32).toInt = 0 from rfl] at a1 a2
  have e2 : (m / 60).toInt = m.toInt / 60 := by rw [t_divp (by omega) (by decide)]; rfl
  exact t_in (by rw [e2]; omega) (by rw [e2]; omega)
theorem nar_in4 {m : Int32} (h : (-5400) ≤ m ∧ m ≤ 5400) (c : ¬ m < 0) : vp_in (m / 60 + 1) 92 := by
  have a1 := t_le.mp h.2
  have a2 := t_le.mp (Int32.not_lt.mp c)
  simp only [show (5400 : Int32).toInt = 5400 from rfl, show (0 : Int32).toInt = 0 from rfl] at a1 a2
  have e2 : (m / 60).toInt = m.toInt / 60 := by rw [t_divp (by omega) (by decide)]; rfl
  have e3 : (m / 60 + 1).toInt = m.toInt / 60 + 1 := by rw [t_add (by rw [e2]; simp only [show (1 : Int32).toInt = 1 from rfl]; omega) (by rw [e2]; simp only [show (1 : Int32).toInt = 1 from rfl]; omega), e2]; rfl
  exact t_in (by rw [e3]; omega) (by rw [e3]; omega)
def f_X7_narrowOf (cosR : Nat → Int32) (m : Int32) : Int32 := (if 0 ≤ m then ((((cosR ((m / 60)).toNatClampNeg) * (60 - (m - m / 60 * 60))) + ((cosR (((m / 60) + 1)).toNatClampNeg) * (m - m / 60 * 60))) / 60) else ((((cosR (((-m) / 60)).toNatClampNeg) * (60 - ((-m) - (-m) / 60 * 60))) + ((cosR ((((-m) / 60) + 1)).toNatClampNeg) * ((-m) - (-m) / 60 * 60))) / 60))
set_option maxRecDepth 100000 in
theorem c_X7_narrowOf {k : KT} {S : HS} {o : Nat}  (cosR : Nat → Int32) (m : Int32) (hM : MH S o) (hrcosR : gR S (o + 1) = cosR) (hr : (-5400) ≤ m ∧ m ≤ 5400) : Ct k (mt_X7_narrowOf (rm 1 0 0)) [.ref (o), .int (m)] S (Pu (f_X7_narrowOf cosR m) S) := by
  refine Ct.ofF (by decide +kernel) (Nat.le_of_ble_eq_true rfl) ?_
  refine x_lv [(0, .ref (o)), (1, .int (m))] [0, 1] rfl ?_
  refine x_iload_n 1 dX7_narrowOf_0 rfl ?_
  refine x_if_ge 9 dX7_narrowOf_1 (by decide) (fun c1 => ?_) (fun c1 => ?_)
  · refine x_iload_n 1 dX7_narrowOf_9 rfl ?_
    refine x_istore_n [(2, .int (m)), (0, .ref (o)), (1, .int (m))] dX7_narrowOf_10 (Nat.le_of_ble_eq_true rfl) rfl ?_
    refine x_aload_n 1 dX7_narrowOf_11 rfl ?_
    refine gf_X7_7 rfl dX7_narrowOf_12 (mhK hM) ?_
    rw [show gP (S) 256 (o) = some (o + 1) from (mhP_cos hM)]
    refine x_iload_n 0 dX7_narrowOf_15 rfl ?_
    refine x_bipush 60 dX7_narrowOf_16 (by decide) ?_
    refine x_idiv dX7_narrowOf_18 (by decide) ?_
    refine x_iaload dX7_narrowOf_19 (mhK_cos hM) (by rw [show gL (S) (o + 1) = 92 from (mhL_cos hM)]; exact (nar_in3 hr (Int32.not_lt.mpr c1))) ?_
    rw [show gR (S) (o + 1) = cosR from hrcosR]
    refine x_bipush 60 dX7_narrowOf_20 (by decide) ?_
    refine x_iload_n 0 dX7_narrowOf_22 rfl ?_
    refine x_bipush 60 dX7_narrowOf_23 (by decide) ?_
    refine x_at 25 rfl ?_
    refine x_irem dX7_narrowOf_25 (by decide) ?_
    refine x_isub dX7_narrowOf_26 ?_
    refine x_imul dX7_narrowOf_27 ?_
    refine x_aload_n 1 dX7_narrowOf_28 rfl ?_
    refine gf_X7_7 rfl dX7_narrowOf_29 (mhK hM) ?_
    rw [show gP (S) 256 (o) = some (o + 1) from (mhP_cos hM)]
    refine x_iload_n 0 dX7_narrowOf_32 rfl ?_
    refine x_bipush 60 dX7_narrowOf_33 (by decide) ?_
    refine x_idiv dX7_narrowOf_35 (by decide) ?_
    refine x_iconst 1 dX7_narrowOf_36 (by decide) ?_
    refine x_iadd dX7_narrowOf_37 ?_
    refine x_iaload dX7_narrowOf_38 (mhK_cos hM) (by rw [show gL (S) (o + 1) = 92 from (mhL_cos hM)]; exact (nar_in4 hr (Int32.not_lt.mpr c1))) ?_
    rw [show gR (S) (o + 1) = cosR from hrcosR]
    refine x_iload_n 0 dX7_narrowOf_39 rfl ?_
    refine x_at 40 rfl ?_
    refine x_bipush 60 dX7_narrowOf_40 (by decide) ?_
    refine x_irem dX7_narrowOf_42 (by decide) ?_
    refine x_imul dX7_narrowOf_43 ?_
    refine x_iadd dX7_narrowOf_44 ?_
    refine x_bipush 60 dX7_narrowOf_45 (by decide) ?_
    refine x_idiv dX7_narrowOf_47 (by decide) ?_
    exact x_ireturn dX7_narrowOf_48 rfl (Nat.le_of_ble_eq_true rfl) (Nat.le_of_ble_eq_true rfl) ⟨by rw [f_X7_narrowOf, if_pos c1], rfl⟩
  · refine x_iload_n 1 dX7_narrowOf_4 rfl ?_
    refine x_ineg dX7_narrowOf_5 ?_
    refine x_goto 10 dX7_narrowOf_6 (by decide) ?_
    refine x_istore_n [(2, .int ((-m))), (0, .ref (o)), (1, .int (m))] dX7_narrowOf_10 (Nat.le_of_ble_eq_true rfl) rfl ?_
    refine x_aload_n 1 dX7_narrowOf_11 rfl ?_
    refine gf_X7_7 rfl dX7_narrowOf_12 (mhK hM) ?_
    rw [show gP (S) 256 (o) = some (o + 1) from (mhP_cos hM)]
    refine x_iload_n 0 dX7_narrowOf_15 rfl ?_
    refine x_bipush 60 dX7_narrowOf_16 (by decide) ?_
    refine x_idiv dX7_narrowOf_18 (by decide) ?_
    refine x_iaload dX7_narrowOf_19 (mhK_cos hM) (by rw [show gL (S) (o + 1) = 92 from (mhL_cos hM)]; exact (nar_in1 hr (Int32.not_le.mp c1))) ?_
    rw [show gR (S) (o + 1) = cosR from hrcosR]
    refine x_bipush 60 dX7_narrowOf_20 (by decide) ?_
    refine x_iload_n 0 dX7_narrowOf_22 rfl ?_
    refine x_bipush 60 dX7_narrowOf_23 (by decide) ?_
    refine x_irem dX7_narrowOf_25 (by decide) ?_
    refine x_at 26 rfl ?_
    refine x_isub dX7_narrowOf_26 ?_
    refine x_imul dX7_narrowOf_27 ?_
    refine x_aload_n 1 dX7_narrowOf_28 rfl ?_
    refine gf_X7_7 rfl dX7_narrowOf_29 (mhK hM) ?_
    rw [show gP (S) 256 (o) = some (o + 1) from (mhP_cos hM)]
    refine x_iload_n 0 dX7_narrowOf_32 rfl ?_
    refine x_bipush 60 dX7_narrowOf_33 (by decide) ?_
    refine x_idiv dX7_narrowOf_35 (by decide) ?_
    refine x_iconst 1 dX7_narrowOf_36 (by decide) ?_
    refine x_iadd dX7_narrowOf_37 ?_
    refine x_iaload dX7_narrowOf_38 (mhK_cos hM) (by rw [show gL (S) (o + 1) = 92 from (mhL_cos hM)]; exact (nar_in2 hr (Int32.not_le.mp c1))) ?_
    rw [show gR (S) (o + 1) = cosR from hrcosR]
    refine x_iload_n 0 dX7_narrowOf_39 rfl ?_
    refine x_bipush 60 dX7_narrowOf_40 (by decide) ?_
    refine x_at 42 rfl ?_
    refine x_irem dX7_narrowOf_42 (by decide) ?_
    refine x_imul dX7_narrowOf_43 ?_
    refine x_iadd dX7_narrowOf_44 ?_
    refine x_bipush 60 dX7_narrowOf_45 (by decide) ?_
    refine x_idiv dX7_narrowOf_47 (by decide) ?_
    exact x_ireturn dX7_narrowOf_48 rfl (Nat.le_of_ble_eq_true rfl) (Nat.le_of_ble_eq_true rfl) ⟨by rw [f_X7_narrowOf, if_neg c1], rfl⟩
def f_X7_acrossOf (cosR : Nat → Int32) (sd : Int32) (m : Int32) : Int32 := (((30 * sd) * (f_X7_narrowOf cosR m)) / 1000)
set_option maxRecDepth 100000 in
theorem c_X7_acrossOf {k : KT} {S : HS} {o : Nat}  (cosR : Nat → Int32) (sd : Int32) (m : Int32) (hM : MH S o) (hrcosR : gR S (o + 1) = cosR) (hr : (-5400) ≤ m ∧ m ≤ 5400) : Ct k (mt_X7_acrossOf (rm 2 0 0)) [.ref (o), .int (sd), .int (m)] S (Pu (f_X7_acrossOf cosR sd m) S) := by
  refine Ct.ofF (by decide +kernel) (Nat.le_of_ble_eq_true rfl) ?_
  refine x_lv [(0, .ref (o)), (1, .int (sd)), (2, .int (m))] [0, 1, 2] rfl ?_
  refine x_bipush 30 dX7_acrossOf_0 (by decide) ?_
  refine x_iload_n 1 dX7_acrossOf_2 rfl ?_
  refine x_imul dX7_acrossOf_3 ?_
  refine x_aload_n 0 dX7_acrossOf_4 rfl ?_
  refine x_iload_n 2 dX7_acrossOf_5 rfl ?_
  refine ca_X7_73 [.int (m)] [.int ((30 * sd))] (c_X7_narrowOf (cosR) (m) hM hrcosR hr) (mhK hM) rfl dX7_acrossOf_6 rfl rfl ⟨(Nat.le_of_ble_eq_true rfl), (Nat.le_of_ble_eq_true rfl), (Nat.le_of_ble_eq_true rfl), (Nat.le_of_ble_eq_true rfl), (Nat.le_of_ble_eq_true rfl)⟩ (fun v T hq => ?_)
  obtain ⟨rfl, rfl⟩ := hq
  refine x_imul dX7_acrossOf_9 ?_
  refine x_sipush 1000 dX7_acrossOf_10 (by decide) ?_
  refine x_idiv dX7_acrossOf_13 (by decide) ?_
  exact x_ireturn dX7_acrossOf_14 rfl (Nat.le_of_ble_eq_true rfl) (Nat.le_of_ble_eq_true rfl) ⟨by rw [f_X7_acrossOf], rfl⟩
def f_X7_narrow (cosR : Nat → Int32) (h : Int32) : Int32 := (if (f_X7_in h (-5400) 5400) = 0 then (-1) else (f_X7_narrowOf cosR h))
set_option maxRecDepth 100000 in
theorem c_X7_narrow {k : KT} {S : HS} {o : Nat}  (cosR : Nat → Int32) (h : Int32) (hM : MH S o) (hrcosR : gR S (o + 1) = cosR)  : Ct k (mt_X7_narrow (rm 2 0 0)) [.ref (o), .int (h)] S (Pu (f_X7_narrow cosR h) S) := by
  refine Ct.ofF (by decide +kernel) (Nat.le_of_ble_eq_true rfl) ?_
  refine x_lv [(0, .ref (o)), (1, .int (h))] [0, 1] rfl ?_
  refine x_iload_n 1 dX7_narrow_0 rfl ?_
  refine x_sipush (-5400) dX7_narrow_1 (by decide) ?_
  refine x_sipush 5400 dX7_narrow_4 (by decide) ?_
  refine ca_X7_69 [.int (h), .int ((-5400)), .int (5400)] [] (c_X7_in (h) ((-5400)) (5400)) rfl dX7_narrow_7 rfl rfl ⟨(Nat.le_of_ble_eq_true rfl), (Nat.le_of_ble_eq_true rfl), (Nat.le_of_ble_eq_true rfl), (Nat.le_of_ble_eq_true rfl), (Nat.le_of_ble_eq_true rfl)⟩ (fun v T hq => ?_)
  obtain ⟨rfl, rfl⟩ := hq
  refine x_if_eq 21 dX7_narrow_10 (by decide) (fun c1 => ?_) (fun c1 => ?_)
  · refine x_iconst (-1) dX7_narrow_21 (by decide) ?_
    exact x_ireturn dX7_narrow_22 rfl (Nat.le_of_ble_eq_true rfl) (Nat.le_of_ble_eq_true rfl) ⟨by rw [f_X7_narrow, if_pos c1], rfl⟩
  · refine x_aload_n 0 dX7_narrow_13 rfl ?_
    refine x_iload_n 1 dX7_narrow_14 rfl ?_
    refine ca_X7_73 [.int (h)] [] (c_X7_narrowOf (cosR) (h) hM hrcosR (x_in_ok c1)) (mhK hM) rfl dX7_narrow_15 rfl rfl ⟨(Nat.le_of_ble_eq_true rfl), (Nat.le_of_ble_eq_true rfl), (Nat.le_of_ble_eq_true rfl), (Nat.le_of_ble_eq_true rfl), (Nat.le_of_ble_eq_true rfl)⟩ (fun v T hq => ?_)
    obtain ⟨rfl, rfl⟩ := hq
    refine x_goto 22 dX7_narrow_18 (by decide) ?_
    exact x_ireturn dX7_narrow_22 rfl (Nat.le_of_ble_eq_true rfl) (Nat.le_of_ble_eq_true rfl) ⟨by rw [f_X7_narrow, if_neg c1], rfl⟩
def f_X7_across (wi : Int32) (cosR : Nat → Int32) (sd : Int32) (h : Int32) : Int32 := (if (f_X7_in sd ((-wi)) wi) = 0 then (-2147483648) else (if (f_X7_in h (-5400) 5400) = 0 then (-2147483648) else (f_X7_acrossOf cosR sd h)))
set_option maxRecDepth 100000 in
theorem c_X7_across {k : KT} {S : HS} {o : Nat}  (wi : Int32) (cosR : Nat → Int32) (sd : Int32) (h : Int32) (hM : MH S o) (hvwi : gI S 258 o = wi) (hrcosR : gR S (o + 1) = cosR)  : Ct k (mt_X7_across (rm 3 0 0)) [.ref (o), .int (sd), .int (h)] S (Pu (f_X7_across wi cosR sd h) S) := by
  refine Ct.ofF (by decide +kernel) (Nat.le_of_ble_eq_true rfl) ?_
  refine x_lv [(0, .ref (o)), (1, .int (sd)), (2, .int (h))] [0, 1, 2] rfl ?_
  refine x_iload_n 1 dX7_across_0 rfl ?_
  refine x_aload_n 0 dX7_across_1 rfl ?_
  refine gf_X7_66 rfl dX7_across_2 (mhK hM) ?_
  rw [show gI (S) 258 (o) = wi from hvwi]
  refine x_ineg dX7_across_5 ?_
  refine x_aload_n 0 dX7_across_6 rfl ?_
  refine gf_X7_66 rfl dX7_across_7 (mhK hM) ?_
  rw [show gI (S) 258 (o) = wi from hvwi]
  refine ca_X7_69 [.int (sd), .int ((-wi)), .int (wi)] [] (c_X7_in (sd) ((-wi)) (wi)) rfl dX7_across_10 rfl rfl ⟨(Nat.le_of_ble_eq_true rfl), (Nat.le_of_ble_eq_true rfl), (Nat.le_of_ble_eq_true rfl), (Nat.le_of_ble_eq_true rfl), (Nat.le_of_ble_eq_true rfl)⟩ (fun v T hq => ?_)
  obtain ⟨rfl, rfl⟩ := hq
  refine x_if_eq 38 dX7_across_13 (by decide) (fun c1 => ?_) (fun c1 => ?_)
  · refine x_ldc dX7_across_38 tw_6_15 ?_
    exact x_ireturn dX7_across_40 rfl (Nat.le_of_ble_eq_true rfl) (Nat.le_of_ble_eq_true rfl) ⟨by rw [f_X7_across, if_pos c1], rfl⟩
  · refine x_iload_n 2 dX7_across_16 rfl ?_
    refine x_sipush (-5400) dX7_across_17 (by decide) ?_
    refine x_sipush 5400 dX7_across_20 (by decide) ?_
    refine ca_X7_69 [.int (h), .int ((-5400)), .int (5400)] [] (c_X7_in (h) ((-5400)) (5400)) rfl dX7_across_23 rfl rfl ⟨(Nat.le_of_ble_eq_true rfl), (Nat.le_of_ble_eq_true rfl), (Nat.le_of_ble_eq_true rfl), (Nat.le_of_ble_eq_true rfl), (Nat.le_of_ble_eq_true rfl)⟩ (fun v T hq => ?_)
    obtain ⟨rfl, rfl⟩ := hq
    refine x_if_eq 38 dX7_across_26 (by decide) (fun c2 => ?_) (fun c2 => ?_)
    · refine x_ldc dX7_across_38 tw_6_15 ?_
      exact x_ireturn dX7_across_40 rfl (Nat.le_of_ble_eq_true rfl) (Nat.le_of_ble_eq_true rfl) ⟨by rw [f_X7_across, if_neg c1, if_pos c2], rfl⟩
    · refine x_aload_n 0 dX7_across_29 rfl ?_
      refine x_iload_n 1 dX7_across_30 rfl ?_
      refine x_iload_n 2 dX7_across_31 rfl ?_
      refine ca_X7_77 [.int (sd), .int (h)] [] (c_X7_acrossOf (cosR) (sd) (h) hM hrcosR (x_in_ok c2)) (mhK hM) rfl dX7_across_32 rfl rfl ⟨(Nat.le_of_ble_eq_true rfl), (Nat.le_of_ble_eq_true rfl), (Nat.le_of_ble_eq_true rfl), (Nat.le_of_ble_eq_true rfl), (Nat.le_of_ble_eq_true rfl)⟩ (fun v T hq => ?_)
      obtain ⟨rfl, rfl⟩ := hq
      refine x_goto 40 dX7_across_35 (by decide) ?_
      exact x_ireturn dX7_across_40 rfl (Nat.le_of_ble_eq_true rfl) (Nat.le_of_ble_eq_true rfl) ⟨by rw [f_X7_across, if_neg c1, if_neg c2], rfl⟩
def f_X7_heightAt (fr : Int32) (to : Int32) (gn : Int32) (of : Int32) : Int32 := (if gn = 0 then fr else (fr + (f_X7_round (((to - fr) * gn)) of)))
set_option maxRecDepth 100000 in
theorem c_X7_heightAt {k : KT} {S : HS}  (fr : Int32) (to : Int32) (gn : Int32) (of : Int32) (h0 : ¬ 2 * of = 0) : Ct k (mt_X7_heightAt (rm 2 0 0)) [.int (fr), .int (to), .int (gn), .int (of)] S (Pu (f_X7_heightAt fr to gn of) S) := by
  refine Ct.ofF (by decide +kernel) (Nat.le_of_ble_eq_true rfl) ?_
  refine x_lv [(0, .int (fr)), (1, .int (to)), (2, .int (gn)), (3, .int (of))] [0, 1, 2, 3] rfl ?_
  refine x_iload_n 2 dX7_heightAt_0 rfl ?_
  refine x_if_ne 8 dX7_heightAt_1 (by decide) (fun c1 => ?_) (fun c1 => ?_)
  · refine x_iload_n 0 dX7_heightAt_8 rfl ?_
    refine x_iload_n 1 dX7_heightAt_9 rfl ?_
    refine x_iload_n 0 dX7_heightAt_10 rfl ?_
    refine x_isub dX7_heightAt_11 ?_
    refine x_iload_n 2 dX7_heightAt_12 rfl ?_
    refine x_imul dX7_heightAt_13 ?_
    refine x_iload_n 3 dX7_heightAt_14 rfl ?_
    refine ca_X7_89 [.int (((to - fr) * gn)), .int (of)] [.int (fr)] (c_X7_round (((to - fr) * gn)) (of) h0) rfl dX7_heightAt_15 rfl rfl ⟨(Nat.le_of_ble_eq_true rfl), (Nat.le_of_ble_eq_true rfl), (Nat.le_of_ble_eq_true rfl), (Nat.le_of_ble_eq_true rfl), (Nat.le_of_ble_eq_true rfl)⟩ (fun v T hq => ?_)
    obtain ⟨rfl, rfl⟩ := hq
    refine x_iadd dX7_heightAt_18 ?_
    exact x_ireturn dX7_heightAt_19 rfl (Nat.le_of_ble_eq_true rfl) (Nat.le_of_ble_eq_true rfl) ⟨by rw [f_X7_heightAt, if_neg c1], rfl⟩
  · refine x_iload_n 0 dX7_heightAt_4 rfl ?_
    refine x_at 5 rfl ?_
    refine x_goto 19 dX7_heightAt_5 (by decide) ?_
    exact x_ireturn dX7_heightAt_19 rfl (Nat.le_of_ble_eq_true rfl) (Nat.le_of_ble_eq_true rfl) ⟨by rw [f_X7_heightAt, if_pos c1], rfl⟩
def f_X7_isEdge (wi : Int32) (lon : Int32) : Int32 := (if (lon - lon / wi * wi) = 0 then 1 else 0)
set_option maxRecDepth 100000 in
theorem c_X7_isEdge {k : KT} {S : HS} {o : Nat}  (wi : Int32) (lon : Int32) (hM : MH S o) (hvwi : gI S 258 o = wi) (h0 : ¬ wi = 0) : Ct k (mt_X7_isEdge (rm 1 0 0)) [.ref (o), .int (lon)] S (Pu (f_X7_isEdge wi lon) S) := by
  refine Ct.ofF (by decide +kernel) (Nat.le_of_ble_eq_true rfl) ?_
  refine x_lv [(0, .ref (o)), (1, .int (lon))] [0, 1] rfl ?_
  refine x_iload_n 1 dX7_isEdge_0 rfl ?_
  refine x_aload_n 0 dX7_isEdge_1 rfl ?_
  refine gf_X7_66 rfl dX7_isEdge_2 (mhK hM) ?_
  rw [show gI (S) 258 (o) = wi from hvwi]
  refine x_irem dX7_isEdge_5 h0 ?_
  refine x_if_ne 13 dX7_isEdge_6 (by decide) (fun c1 => ?_) (fun c1 => ?_)
  · refine x_iconst 0 dX7_isEdge_13 (by decide) ?_
    exact x_zreturn dX7_isEdge_14 rfl (by decide) (Nat.le_of_ble_eq_true rfl) (Nat.le_of_ble_eq_true rfl) ⟨by rw [f_X7_isEdge, if_neg c1], rfl⟩
  · refine x_iconst 1 dX7_isEdge_9 (by decide) ?_
    refine x_goto 14 dX7_isEdge_10 (by decide) ?_
    exact x_zreturn dX7_isEdge_14 rfl (by decide) (Nat.le_of_ble_eq_true rfl) (Nat.le_of_ble_eq_true rfl) ⟨by rw [f_X7_isEdge, if_pos c1], rfl⟩
def f_X7_sideWest (wi : Int32) (at_ : Int32) (g : Int32) : Int32 := (((at_ - (g * wi)) + 360) - ((at_ - (g * wi)) + 360) / 360 * 360)
set_option maxRecDepth 100000 in
theorem c_X7_sideWest {k : KT} {S : HS} {o : Nat}  (wi : Int32) (at_ : Int32) (g : Int32) (hM : MH S o) (hvwi : gI S 258 o = wi)  : Ct k (mt_X7_sideWest (rm 1 0 0)) [.ref (o), .int (at_), .int (g)] S (Pu (f_X7_sideWest wi at_ g) S) := by
  refine Ct.ofF (by decide +kernel) (Nat.le_of_ble_eq_true rfl) ?_
  refine x_lv [(0, .ref (o)), (1, .int (at_)), (2, .int (g))] [0, 1, 2] rfl ?_
  refine x_iload_n 1 dX7_sideWest_0 rfl ?_
  refine x_iload_n 2 dX7_sideWest_1 rfl ?_
  refine x_aload_n 0 dX7_sideWest_2 rfl ?_
  refine gf_X7_66 rfl dX7_sideWest_3 (mhK hM) ?_
  rw [show gI (S) 258 (o) = wi from hvwi]
  refine x_imul dX7_sideWest_6 ?_
  refine x_isub dX7_sideWest_7 ?_
  refine x_sipush 360 dX7_sideWest_8 (by decide) ?_
  refine x_iadd dX7_sideWest_11 ?_
  refine x_sipush 360 dX7_sideWest_12 (by decide) ?_
  refine x_irem dX7_sideWest_15 (by decide) ?_
  exact x_ireturn dX7_sideWest_16 rfl (Nat.le_of_ble_eq_true rfl) (Nat.le_of_ble_eq_true rfl) ⟨by rw [f_X7_sideWest], rfl⟩
def f_X7_grown (ga : Int32) (gl : Int32) (wh : Int32) : Int32 := (if wh = 0 then (1000 + ga) else (1000 + gl))
set_option maxRecDepth 100000 in
theorem c_X7_grown {k : KT} {S : HS} {o : Nat}  (ga : Int32) (gl : Int32) (wh : Int32) (hM : MH S o) (hvga : gI S 266 o = ga) (hvgl : gI S 267 o = gl)  : Ct k (mt_X7_grown (rm 1 0 0)) [.ref (o), .int (wh)] S (Pu (f_X7_grown ga gl wh) S) := by
  refine Ct.ofF (by decide +kernel) (Nat.le_of_ble_eq_true rfl) ?_
  refine x_lv [(0, .ref (o)), (1, .int (wh))] [0, 1] rfl ?_
  refine x_sipush 1000 dX7_grown_0 (by decide) ?_
  refine x_iload_n 1 dX7_grown_3 rfl ?_
  refine x_if_ne 14 dX7_grown_4 (by decide) (fun c1 => ?_) (fun c1 => ?_)
  · refine x_aload_n 0 dX7_grown_14 rfl ?_
    refine gf_X7_127 rfl dX7_grown_15 (mhK hM) ?_
    rw [show gI (S) 267 (o) = gl from hvgl]
    refine x_iadd dX7_grown_18 ?_
    exact x_ireturn dX7_grown_19 rfl (Nat.le_of_ble_eq_true rfl) (Nat.le_of_ble_eq_true rfl) ⟨by rw [f_X7_grown, if_neg c1], rfl⟩
  · refine x_aload_n 0 dX7_grown_7 rfl ?_
    refine gf_X7_124 rfl dX7_grown_8 (mhK hM) ?_
    rw [show gI (S) 266 (o) = ga from hvga]
    refine x_goto 18 dX7_grown_11 (by decide) ?_
    refine x_iadd dX7_grown_18 ?_
    exact x_ireturn dX7_grown_19 rfl (Nat.le_of_ble_eq_true rfl) (Nat.le_of_ble_eq_true rfl) ⟨by rw [f_X7_grown, if_pos c1], rfl⟩
theorem grown_ne {g : Int32} (h : 0 ≤ g ∧ g ≤ 50) : ¬ 2 * (1000 + g) = 0 := by
  have a1 := t_le.mp h.1
  have a2 := t_le.mp h.2
  simp only [show (0 : Int32).toInt = 0 from rfl, show (50 : Int32).toInt = 50 from rfl] at a1 a2
  apply two_ne
  rw [t_lt, t_add (by simp only [show (1000 : Int32).toInt = 1000 from rfl]; omega) (by simp only [show (1000 : Int32).toInt = 1000 from rfl]; omega)]
  simp only [show (0 : Int32).toInt = 0 from rfl, show (1000 : Int32).toInt = 1000 from rfl]
  omega
theorem grown_ne2 {ga gl wh : Int32} (h1 : 0 ≤ ga ∧ ga ≤ 50) (h2 : 0 ≤ gl ∧ gl ≤ 50) : ¬ 2 * f_X7_grown ga gl wh = 0 := by
  unfold f_X7_grown
  split
  · exact grown_ne h1
  · exact grown_ne h2
def f_X7_drawn (ga : Int32) (gl : Int32) (v : Int32) (wh : Int32) : Int32 := (if (f_X7_in wh 0 1) = 0 then (-1) else (if (f_X7_in v (-10000) 10000) = 0 then (-1) else (f_X7_round ((1000 * v)) ((f_X7_grown ga gl wh)))))
set_option maxRecDepth 100000 in
theorem c_X7_drawn {k : KT} {S : HS} {o : Nat}  (ga : Int32) (gl : Int32) (v : Int32) (wh : Int32) (hM : MH S o) (hvga : gI S 266 o = ga) (hvgl : gI S 267 o = gl) (h1 : 0 ≤ ga ∧ ga ≤ 50) (h2 : 0 ≤ gl ∧ gl ≤ 50) : Ct k (mt_X7_drawn (rm 2 0 0)) [.ref (o), .int (v), .int (wh)] S (Pu (f_X7_drawn ga gl v wh) S) := by
  refine Ct.ofF (by decide +kernel) (Nat.le_of_ble_eq_true rfl) ?_
  refine x_lv [(0, .ref (o)), (1, .int (v)), (2, .int (wh))] [0, 1, 2] rfl ?_
  refine x_iload_n 2 dX7_drawn_0 rfl ?_
  refine x_iconst 0 dX7_drawn_1 (by decide) ?_
  refine x_iconst 1 dX7_drawn_2 (by decide) ?_
  refine ca_X7_69 [.int (wh), .int (0), .int (1)] [] (c_X7_in (wh) (0) (1)) rfl dX7_drawn_3 rfl rfl ⟨(Nat.le_of_ble_eq_true rfl), (Nat.le_of_ble_eq_true rfl), (Nat.le_of_ble_eq_true rfl), (Nat.le_of_ble_eq_true rfl), (Nat.le_of_ble_eq_true rfl)⟩ (fun v T hq => ?_)
  obtain ⟨rfl, rfl⟩ := hq
  refine x_if_eq 38 dX7_drawn_6 (by decide) (fun c1 => ?_) (fun c1 => ?_)
  · refine x_iconst (-1) dX7_drawn_38 (by decide) ?_
    exact x_ireturn dX7_drawn_39 rfl (Nat.le_of_ble_eq_true rfl) (Nat.le_of_ble_eq_true rfl) ⟨by rw [f_X7_drawn, if_pos c1], rfl⟩
  · refine x_iload_n 1 dX7_drawn_9 rfl ?_
    refine x_sipush (-10000) dX7_drawn_10 (by decide) ?_
    refine x_sipush 10000 dX7_drawn_13 (by decide) ?_
    refine ca_X7_69 [.int (v), .int ((-10000)), .int (10000)] [] (c_X7_in (v) ((-10000)) (10000)) rfl dX7_drawn_16 rfl rfl ⟨(Nat.le_of_ble_eq_true rfl), (Nat.le_of_ble_eq_true rfl), (Nat.le_of_ble_eq_true rfl), (Nat.le_of_ble_eq_true rfl), (Nat.le_of_ble_eq_true rfl)⟩ (fun v T hq => ?_)
    obtain ⟨rfl, rfl⟩ := hq
    refine x_if_eq 38 dX7_drawn_19 (by decide) (fun c2 => ?_) (fun c2 => ?_)
    · refine x_iconst (-1) dX7_drawn_38 (by decide) ?_
      exact x_ireturn dX7_drawn_39 rfl (Nat.le_of_ble_eq_true rfl) (Nat.le_of_ble_eq_true rfl) ⟨by rw [f_X7_drawn, if_neg c1, if_pos c2], rfl⟩
    · refine x_sipush 1000 dX7_drawn_22 (by decide) ?_
      refine x_iload_n 1 dX7_drawn_25 rfl ?_
      refine x_imul dX7_drawn_26 ?_
      refine x_aload_n 0 dX7_drawn_27 rfl ?_
      refine x_iload_n 2 dX7_drawn_28 rfl ?_
      refine ca_X7_130 [.int (wh)] [.int ((1000 * v))] (c_X7_grown (ga) (gl) (wh) hM hvga hvgl) (mhK hM) rfl dX7_drawn_29 rfl rfl ⟨(Nat.le_of_ble_eq_true rfl), (Nat.le_of_ble_eq_true rfl), (Nat.le_of_ble_eq_true rfl), (Nat.le_of_ble_eq_true rfl), (Nat.le_of_ble_eq_true rfl)⟩ (fun v T hq => ?_)
      obtain ⟨rfl, rfl⟩ := hq
      refine ca_X7_89 [.int ((1000 * v)), .int ((f_X7_grown ga gl wh))] [] (c_X7_round ((1000 * v)) ((f_X7_grown ga gl wh)) (grown_ne2 h1 h2)) rfl dX7_drawn_32 rfl rfl ⟨(Nat.le_of_ble_eq_true rfl), (Nat.le_of_ble_eq_true rfl), (Nat.le_of_ble_eq_true rfl), (Nat.le_of_ble_eq_true rfl), (Nat.le_of_ble_eq_true rfl)⟩ (fun v T hq => ?_)
      obtain ⟨rfl, rfl⟩ := hq
      refine x_goto 39 dX7_drawn_35 (by decide) ?_
      exact x_ireturn dX7_drawn_39 rfl (Nat.le_of_ble_eq_true rfl) (Nat.le_of_ble_eq_true rfl) ⟨by rw [f_X7_drawn, if_neg c1, if_neg c2], rfl⟩
def f_X7_wet (ga : Int32) (gl : Int32) (v : Int32) (wh : Int32) : Int32 := (if (f_X7_in wh 0 1) = 0 then (-1) else (if (f_X7_in v (-10000) 10000) = 0 then (-1) else (f_X7_round ((v * (f_X7_grown ga gl wh))) 1000)))
set_option maxRecDepth 100000 in
theorem c_X7_wet {k : KT} {S : HS} {o : Nat}  (ga : Int32) (gl : Int32) (v : Int32) (wh : Int32) (hM : MH S o) (hvga : gI S 266 o = ga) (hvgl : gI S 267 o = gl)  : Ct k (mt_X7_wet (rm 2 0 0)) [.ref (o), .int (v), .int (wh)] S (Pu (f_X7_wet ga gl v wh) S) := by
  refine Ct.ofF (by decide +kernel) (Nat.le_of_ble_eq_true rfl) ?_
  refine x_lv [(0, .ref (o)), (1, .int (v)), (2, .int (wh))] [0, 1, 2] rfl ?_
  refine x_iload_n 2 dX7_wet_0 rfl ?_
  refine x_iconst 0 dX7_wet_1 (by decide) ?_
  refine x_iconst 1 dX7_wet_2 (by decide) ?_
  refine ca_X7_69 [.int (wh), .int (0), .int (1)] [] (c_X7_in (wh) (0) (1)) rfl dX7_wet_3 rfl rfl ⟨(Nat.le_of_ble_eq_true rfl), (Nat.le_of_ble_eq_true rfl), (Nat.le_of_ble_eq_true rfl), (Nat.le_of_ble_eq_true rfl), (Nat.le_of_ble_eq_true rfl)⟩ (fun v T hq => ?_)
  obtain ⟨rfl, rfl⟩ := hq
  refine x_if_eq 38 dX7_wet_6 (by decide) (fun c1 => ?_) (fun c1 => ?_)
  · refine x_iconst (-1) dX7_wet_38 (by decide) ?_
    exact x_ireturn dX7_wet_39 rfl (Nat.le_of_ble_eq_true rfl) (Nat.le_of_ble_eq_true rfl) ⟨by rw [f_X7_wet, if_pos c1], rfl⟩
  · refine x_iload_n 1 dX7_wet_9 rfl ?_
    refine x_sipush (-10000) dX7_wet_10 (by decide) ?_
    refine x_sipush 10000 dX7_wet_13 (by decide) ?_
    refine ca_X7_69 [.int (v), .int ((-10000)), .int (10000)] [] (c_X7_in (v) ((-10000)) (10000)) rfl dX7_wet_16 rfl rfl ⟨(Nat.le_of_ble_eq_true rfl), (Nat.le_of_ble_eq_true rfl), (Nat.le_of_ble_eq_true rfl), (Nat.le_of_ble_eq_true rfl), (Nat.le_of_ble_eq_true rfl)⟩ (fun v T hq => ?_)
    obtain ⟨rfl, rfl⟩ := hq
    refine x_if_eq 38 dX7_wet_19 (by decide) (fun c2 => ?_) (fun c2 => ?_)
    · refine x_iconst (-1) dX7_wet_38 (by decide) ?_
      exact x_ireturn dX7_wet_39 rfl (Nat.le_of_ble_eq_true rfl) (Nat.le_of_ble_eq_true rfl) ⟨by rw [f_X7_wet, if_neg c1, if_pos c2], rfl⟩
    · refine x_iload_n 1 dX7_wet_22 rfl ?_
      refine x_aload_n 0 dX7_wet_23 rfl ?_
      refine x_iload_n 2 dX7_wet_24 rfl ?_
      refine ca_X7_130 [.int (wh)] [.int (v)] (c_X7_grown (ga) (gl) (wh) hM hvga hvgl) (mhK hM) rfl dX7_wet_25 rfl rfl ⟨(Nat.le_of_ble_eq_true rfl), (Nat.le_of_ble_eq_true rfl), (Nat.le_of_ble_eq_true rfl), (Nat.le_of_ble_eq_true rfl), (Nat.le_of_ble_eq_true rfl)⟩ (fun v T hq => ?_)
      obtain ⟨rfl, rfl⟩ := hq
      refine x_imul dX7_wet_28 ?_
      refine x_sipush 1000 dX7_wet_29 (by decide) ?_
      refine ca_X7_89 [.int ((v * (f_X7_grown ga gl wh))), .int (1000)] [] (c_X7_round ((v * (f_X7_grown ga gl wh))) (1000) (by decide)) rfl dX7_wet_32 rfl rfl ⟨(Nat.le_of_ble_eq_true rfl), (Nat.le_of_ble_eq_true rfl), (Nat.le_of_ble_eq_true rfl), (Nat.le_of_ble_eq_true rfl), (Nat.le_of_ble_eq_true rfl)⟩ (fun v T hq => ?_)
      obtain ⟨rfl, rfl⟩ := hq
      refine x_goto 39 dX7_wet_35 (by decide) ?_
      exact x_ireturn dX7_wet_39 rfl (Nat.le_of_ble_eq_true rfl) (Nat.le_of_ble_eq_true rfl) ⟨by rw [f_X7_wet, if_neg c1, if_neg c2], rfl⟩
