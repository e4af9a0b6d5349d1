def f_X6_isPlace (lon : Int32) (lat : Int32) : Int32 := (if lon < 0 then 0 else (if 360 ≤ lon then 0 else (if lat < (-90) then 0 else (if 90 < lat then 0 else 1))))
set_option maxRecDepth 100000 in
theorem c_X6_isPlace {k : KT} {S : HS}  (lon : Int32) (lat : Int32)  : Ct k (mt_X6_isPlace (rm 1 0 0)) [.int (lon), .int (lat)] S (Pu (f_X6_isPlace lon lat) S) := by
  refine Ct.ofF (by decide +kernel) (Nat.le_of_ble_eq_true rfl) ?_
  refine x_lv [(0, .int (lon)), (1, .int (lat))] [0, 1] rfl ?_
  refine x_iload_n 0 dX6_isPlace_0 rfl ?_
  refine x_if_lt 27 dX6_isPlace_1 (by decide) (fun c1 => ?_) (fun c1 => ?_)
  · refine x_iconst 0 dX6_isPlace_27 (by decide) ?_
    exact x_zreturn dX6_isPlace_28 rfl (by decide) (Nat.le_of_ble_eq_true rfl) (Nat.le_of_ble_eq_true rfl) ⟨by rw [f_X6_isPlace, if_pos c1], rfl⟩
  · refine x_iload_n 0 dX6_isPlace_4 rfl ?_
    refine x_sipush 360 dX6_isPlace_5 (by decide) ?_
    refine x_icmp_ge 27 dX6_isPlace_8 (by decide) (fun c2 => ?_) (fun c2 => ?_)
    · refine x_iconst 0 dX6_isPlace_27 (by decide) ?_
      exact x_zreturn dX6_isPlace_28 rfl (by decide) (Nat.le_of_ble_eq_true rfl) (Nat.le_of_ble_eq_true rfl) ⟨by rw [f_X6_isPlace, if_neg c1, if_pos c2], rfl⟩
    · refine x_iload_n 1 dX6_isPlace_11 rfl ?_
      refine x_bipush (-90) dX6_isPlace_12 (by decide) ?_
      refine x_icmp_lt 27 dX6_isPlace_14 (by decide) (fun c3 => ?_) (fun c3 => ?_)
      · refine x_iconst 0 dX6_isPlace_27 (by decide) ?_
        exact x_zreturn dX6_isPlace_28 rfl (by decide) (Nat.le_of_ble_eq_true rfl) (Nat.le_of_ble_eq_true rfl) ⟨by rw [f_X6_isPlace, if_neg c1, if_neg c2, if_pos c3], rfl⟩
      · refine x_iload_n 1 dX6_isPlace_17 rfl ?_
        refine x_bipush 90 dX6_isPlace_18 (by decide) ?_
        refine x_icmp_gt 27 dX6_isPlace_20 (by decide) (fun c4 => ?_) (fun c4 => ?_)
        · refine x_iconst 0 dX6_isPlace_27 (by decide) ?_
          exact x_zreturn dX6_isPlace_28 rfl (by decide) (Nat.le_of_ble_eq_true rfl) (Nat.le_of_ble_eq_true rfl) ⟨by rw [f_X6_isPlace, if_neg c1, if_neg c2, if_neg c3, if_pos c4], rfl⟩
        · refine x_iconst 1 dX6_isPlace_23 (by decide) ?_
          refine x_goto 28 dX6_isPlace_24 (by decide) ?_
          exact x_zreturn dX6_isPlace_28 rfl (by decide) (Nat.le_of_ble_eq_true rfl) (Nat.le_of_ble_eq_true rfl) ⟨by rw [f_X6_isPlace, if_neg c1, if_neg c2, if_neg c3, if_neg c4], rfl⟩
def f_X6_isHeight (h : Int32) : Int32 := (if h < (-5400) then 0 else (if 5400 < h then 0 else 1))
set_option maxRecDepth 100000 in
theorem c_X6_isHeight {k : KT} {S : HS}  (h : Int32)  : Ct k (mt_X6_isHeight (rm 1 0 0)) [.int (h)] S (Pu (f_X6_isHeight h) S) := by
  refine Ct.ofF (by decide +kernel) (Nat.le_of_ble_eq_true rfl) ?_
  refine x_lv [(0, .int (h))] [0] rfl ?_
  refine x_iload_n 0 dX6_isHeight_0 rfl ?_
  refine x_sipush (-5400) dX6_isHeight_1 (by decide) ?_
  refine x_icmp_lt 18 dX6_isHeight_4 (by decide) (fun c1 => ?_) (fun c1 => ?_)
  · refine x_iconst 0 dX6_isHeight_18 (by decide) ?_
    exact x_zreturn dX6_isHeight_19 rfl (by decide) (Nat.le_of_ble_eq_true rfl) (Nat.le_of_ble_eq_true rfl) ⟨by rw [f_X6_isHeight, if_pos c1], rfl⟩
  · refine x_iload_n 0 dX6_isHeight_7 rfl ?_
    refine x_sipush 5400 dX6_isHeight_8 (by decide) ?_
    refine x_icmp_gt 18 dX6_isHeight_11 (by decide) (fun c2 => ?_) (fun c2 => ?_)
    · refine x_iconst 0 dX6_isHeight_18 (by decide) ?_
      exact x_zreturn dX6_isHeight_19 rfl (by decide) (Nat.le_of_ble_eq_true rfl) (Nat.le_of_ble_eq_true rfl) ⟨by rw [f_X6_isHeight, if_neg c1, if_pos c2], rfl⟩
    · refine x_iconst 1 dX6_isHeight_14 (by decide) ?_
      refine x_goto 19 dX6_isHeight_15 (by decide) ?_
      exact x_zreturn dX6_isHeight_19 rfl (by decide) (Nat.le_of_ble_eq_true rfl) (Nat.le_of_ble_eq_true rfl) ⟨by rw [f_X6_isHeight, if_neg c1, if_neg c2], rfl⟩
def f_X6_isGrowth (g : Int32) : Int32 := (if g < 0 then 0 else (if 50 < g then 0 else 1))
set_option maxRecDepth 100000 in
theorem c_X6_isGrowth {k : KT} {S : HS}  (g : Int32)  : Ct k (mt_X6_isGrowth (rm 1 0 0)) [.int (g)] S (Pu (f_X6_isGrowth g) S) := by
  refine Ct.ofF (by decide +kernel) (Nat.le_of_ble_eq_true rfl) ?_
  refine x_lv [(0, .int (g))] [0] rfl ?_
  refine x_iload_n 0 dX6_isGrowth_0 rfl ?_
  refine x_if_lt 14 dX6_isGrowth_1 (by decide) (fun c1 => ?_) (fun c1 => ?_)
  · refine x_iconst 0 dX6_isGrowth_14 (by decide) ?_
    exact x_zreturn dX6_isGrowth_15 rfl (by decide) (Nat.le_of_ble_eq_true rfl) (Nat.le_of_ble_eq_true rfl) ⟨by rw [f_X6_isGrowth, if_pos c1], rfl⟩
  · refine x_iload_n 0 dX6_isGrowth_4 rfl ?_
    refine x_bipush 50 dX6_isGrowth_5 (by decide) ?_
    refine x_icmp_gt 14 dX6_isGrowth_7 (by decide) (fun c2 => ?_) (fun c2 => ?_)
    · refine x_iconst 0 dX6_isGrowth_14 (by decide) ?_
      exact x_zreturn dX6_isGrowth_15 rfl (by decide) (Nat.le_of_ble_eq_true rfl) (Nat.le_of_ble_eq_true rfl) ⟨by rw [f_X6_isGrowth, if_neg c1, if_pos c2], rfl⟩
    · refine x_iconst 1 dX6_isGrowth_10 (by decide) ?_
      refine x_goto 15 dX6_isGrowth_11 (by decide) ?_
      exact x_zreturn dX6_isGrowth_15 rfl (by decide) (Nat.le_of_ble_eq_true rfl) (Nat.le_of_ble_eq_true rfl) ⟨by rw [f_X6_isGrowth, if_neg c1, if_neg c2], rfl⟩
def f_X6_isOnPaper (v : Int32) (wh : Int32) : Int32 := (if wh = 0 then (if v < (-10000) then 0 else (if 10000 < v then 0 else 1)) else (if wh = 1 then (if v < (-10000) then 0 else (if 10000 < v then 0 else 1)) else 0))
set_option maxRecDepth 100000 in
theorem c_X6_isOnPaper {k : KT} {S : HS}  (v : Int32) (wh : Int32)  : Ct k (mt_X6_isOnPaper (rm 1 0 0)) [.int (v), .int (wh)] S (Pu (f_X6_isOnPaper v wh) S) := by
  refine Ct.ofF (by decide +kernel) (Nat.le_of_ble_eq_true rfl) ?_
  refine x_lv [(0, .int (v)), (1, .int (wh))] [0, 1] rfl ?_
  refine x_iload_n 1 dX6_isOnPaper_0 rfl ?_
  refine x_if_eq 9 dX6_isOnPaper_1 (by decide) (fun c1 => ?_) (fun c1 => ?_)
  · refine x_iload_n 0 dX6_isOnPaper_9 rfl ?_
    refine x_sipush (-10000) dX6_isOnPaper_10 (by decide) ?_
    refine x_icmp_lt 27 dX6_isOnPaper_13 (by decide) (fun c2 => ?_) (fun c2 => ?_)
    · refine x_iconst 0 dX6_isOnPaper_27 (by decide) ?_
      exact x_zreturn dX6_isOnPaper_28 rfl (by decide) (Nat.le_of_ble_eq_true rfl) (Nat.le_of_ble_eq_true rfl) ⟨by rw [f_X6_isOnPaper, if_pos c1, if_pos c2], rfl⟩
    · refine x_iload_n 0 dX6_isOnPaper_16 rfl ?_
      refine x_sipush 10000 dX6_isOnPaper_17 (by decide) ?_
      refine x_icmp_gt 27 dX6_isOnPaper_20 (by decide) (fun c3 => ?_) (fun c3 => ?_)
      · refine x_iconst 0 dX6_isOnPaper_27 (by decide) ?_
        exact x_zreturn dX6_isOnPaper_28 rfl (by decide) (Nat.le_of_ble_eq_true rfl) (Nat.le_of_ble_eq_true rfl) ⟨by rw [f_X6_isOnPaper, if_pos c1, if_neg c2, if_pos c3], rfl⟩
      · refine x_iconst 1 dX6_isOnPaper_23 (by decide) ?_
        refine x_goto 28 dX6_isOnPaper_24 (by decide) ?_
        exact x_zreturn dX6_isOnPaper_28 rfl (by decide) (Nat.le_of_ble_eq_true rfl) (Nat.le_of_ble_eq_true rfl) ⟨by rw [f_X6_isOnPaper, if_pos c1, if_neg c2, if_neg c3], rfl⟩
  · refine x_iload_n 1 dX6_isOnPaper_4 rfl ?_
    refine x_iconst 1 dX6_isOnPaper_5 (by decide) ?_
    refine x_icmp_ne 27 dX6_isOnPaper_6 (by decide) (fun c4 => ?_) (fun c4 => ?_)
    · refine x_iconst 0 dX6_isOnPaper_27 (by decide) ?_
      exact x_zreturn dX6_isOnPaper_28 rfl (by decide) (Nat.le_of_ble_eq_true rfl) (Nat.le_of_ble_eq_true rfl) ⟨by rw [f_X6_isOnPaper, if_neg c1, if_neg c4], rfl⟩
    · refine x_iload_n 0 dX6_isOnPaper_9 rfl ?_
      refine x_sipush (-10000) dX6_isOnPaper_10 (by decide) ?_
      refine x_icmp_lt 27 dX6_isOnPaper_13 (by decide) (fun c5 => ?_) (fun c5 => ?_)
      · refine x_iconst 0 dX6_isOnPaper_27 (by decide) ?_
        exact x_zreturn dX6_isOnPaper_28 rfl (by decide) (Nat.le_of_ble_eq_true rfl) (Nat.le_of_ble_eq_true rfl) ⟨by rw [f_X6_isOnPaper, if_neg c1, if_pos c4, if_pos c5], rfl⟩
      · refine x_iload_n 0 dX6_isOnPaper_16 rfl ?_
        refine x_sipush 10000 dX6_isOnPaper_17 (by decide) ?_
        refine x_icmp_gt 27 dX6_isOnPaper_20 (by decide) (fun c6 => ?_) (fun c6 => ?_)
        · refine x_iconst 0 dX6_isOnPaper_27 (by decide) ?_
          exact x_zreturn dX6_isOnPaper_28 rfl (by decide) (Nat.le_of_ble_eq_true rfl) (Nat.le_of_ble_eq_true rfl) ⟨by rw [f_X6_isOnPaper, if_neg c1, if_pos c4, if_neg c5, if_pos c6], rfl⟩
        · refine x_iconst 1 dX6_isOnPaper_23 (by decide) ?_
          refine x_goto 28 dX6_isOnPaper_24 (by decide) ?_
          exact x_zreturn dX6_isOnPaper_28 rfl (by decide) (Nat.le_of_ble_eq_true rfl) (Nat.le_of_ble_eq_true rfl) ⟨by rw [f_X6_isOnPaper, if_neg c1, if_pos c4, if_neg c5, if_neg c6], rfl⟩
def f_X7_in (v : Int32) (lo : Int32) (hi : Int32) : Int32 := (if v < lo then 0 else (if hi < v then 0 else 1))
set_option maxRecDepth 100000 in
theorem c_X7_in {k : KT} {S : HS}  (v : Int32) (lo : Int32) (hi : Int32)  : Ct k (mt_X7_in (rm 1 0 0)) [.int (v), .int (lo), .int (hi)] S (Pu (f_X7_in v lo hi) S) := by
  refine Ct.ofF (by decide +kernel) (Nat.le_of_ble_eq_true rfl) ?_
  refine x_lv [(0, .int (v)), (1, .int (lo)), (2, .int (hi))] [0, 1, 2] rfl ?_
  refine x_iload_n 0 dX7_in_0 rfl ?_
  refine x_iload_n 1 dX7_in_1 rfl ?_
  refine x_icmp_lt 14 dX7_in_2 (by decide) (fun c1 => ?_) (fun c1 => ?_)
  · refine x_iconst 0 dX7_in_14 (by decide) ?_
    exact x_zreturn dX7_in_15 rfl (by decide) (Nat.le_of_ble_eq_true rfl) (Nat.le_of_ble_eq_true rfl) ⟨by rw [f_X7_in, if_pos c1], rfl⟩
  · refine x_iload_n 0 dX7_in_5 rfl ?_
    refine x_iload_n 2 dX7_in_6 rfl ?_
    refine x_icmp_gt 14 dX7_in_7 (by decide) (fun c2 => ?_) (fun c2 => ?_)
    · refine x_iconst 0 dX7_in_14 (by decide) ?_
      exact x_zreturn dX7_in_15 rfl (by decide) (Nat.le_of_ble_eq_true rfl) (Nat.le_of_ble_eq_true rfl) ⟨by rw [f_X7_in, if_neg c1, if_pos c2], rfl⟩
    · refine x_iconst 1 dX7_in_10 (by decide) ?_
      refine x_goto 15 dX7_in_11 (by decide) ?_
      exact x_zreturn dX7_in_15 rfl (by decide) (Nat.le_of_ble_eq_true rfl) (Nat.le_of_ble_eq_true rfl) ⟨by rw [f_X7_in, if_neg c1, if_neg c2], rfl⟩
theorem nb01 {r : Int32} (h : r = 0 ∨ r = 1) : narrow .boolean (.int r) = .int r := by rcases h with rfl | rfl <;> decide
theorem f01_X7_in (v lo hi : Int32) : f_X7_in v lo hi = 0 ∨ f_X7_in v lo hi = 1 := by unfold f_X7_in; split <;> (try split) <;> simp
def f_X7_isPlace (lon : Int32) (lat : Int32) : Int32 := (if (f_X7_in lon 0 359) = 0 then 0 else (if (f_X7_in lat (-90) 90) = 0 then 0 else 1))
set_option maxRecDepth 100000 in
theorem c_X7_isPlace {k : KT} {S : HS}  (lon : Int32) (lat : Int32)  : Ct k (mt_X7_isPlace (rm 2 0 0)) [.int (lon), .int (lat)] S (Pu (f_X7_isPlace lon lat) S) := by
  refine Ct.ofF (by decide +kernel) (Nat.le_of_ble_eq_true rfl) ?_
  refine x_lv [(0, .int (lon)), (1, .int (lat))] [0, 1] rfl ?_
  refine x_iload_n 0 dX7_isPlace_0 rfl ?_
  refine x_iconst 0 dX7_isPlace_1 (by decide) ?_
  refine x_sipush 359 dX7_isPlace_2 (by decide) ?_
  refine ca_X7_69 [.int (lon), .int (0), .int (359)] [] (c_X7_in (lon) (0) (359)) rfl dX7_isPlace_5 rfl rfl ⟨(Nat.le_of_ble_eq_true rfl), (Nat.le_of_ble_eq_true rfl), (Nat.le_of_ble_eq_true rfl), (Nat.le_of_ble_eq_true rfl), (Nat.le_of_ble_eq_true rfl)⟩ (fun v T hq => ?_)
  obtain ⟨rfl, rfl⟩ := hq
  refine x_if_eq 26 dX7_isPlace_8 (by decide) (fun c1 => ?_) (fun c1 => ?_)
  · refine x_iconst 0 dX7_isPlace_26 (by decide) ?_
    exact x_zreturn dX7_isPlace_27 rfl (by first | decide | exact nb01 (f01_X7_in _ _ _)) (Nat.le_of_ble_eq_true rfl) (Nat.le_of_ble_eq_true rfl) ⟨by rw [f_X7_isPlace, if_pos c1], rfl⟩
  · refine x_iload_n 1 dX7_isPlace_11 rfl ?_
    refine x_bipush (-90) dX7_isPlace_12 (by decide) ?_
    refine x_bipush 90 dX7_isPlace_14 (by decide) ?_
    refine ca_X7_69 [.int (lat), .int ((-90)), .int (90)] [] (c_X7_in (lat) ((-90)) (90)) rfl dX7_isPlace_16 rfl rfl ⟨(Nat.le_of_ble_eq_true rfl), (Nat.le_of_ble_eq_true rfl), (Nat.le_of_ble_eq_true rfl), (Nat.le_of_ble_eq_true rfl), (Nat.le_of_ble_eq_true rfl)⟩ (fun v T hq => ?_)
    obtain ⟨rfl, rfl⟩ := hq
    refine x_if_eq 26 dX7_isPlace_19 (by decide) (fun c2 => ?_) (fun c2 => ?_)
    · refine x_iconst 0 dX7_isPlace_26 (by decide) ?_
      exact x_zreturn dX7_isPlace_27 rfl (by first | decide | exact nb01 (f01_X7_in _ _ _)) (Nat.le_of_ble_eq_true rfl) (Nat.le_of_ble_eq_true rfl) ⟨by rw [f_X7_isPlace, if_neg c1, if_pos c2], rfl⟩
    · refine x_iconst 1 dX7_isPlace_22 (by decide) ?_
      refine x_goto 27 dX7_isPlace_23 (by decide) ?_
      exact x_zreturn dX7_isPlace_27 rfl (by first | decide | exact nb01 (f01_X7_in _ _ _)) (Nat.le_of_ble_eq_true rfl) (Nat.le_of_ble_eq_true rfl) ⟨by rw [f_X7_isPlace, if_neg c1, if_neg c2], rfl⟩
def f_J9_floorDiv_7cf53 (x : Int32) (y : Int32) : Int32 := (if 0 ≤ (x ^^^ y) then (x / y) else (if ((x / y) * y) = x then (x / y) else ((x / y) - 1)))
set_option maxRecDepth 100000 in
theorem c_J9_floorDiv_7cf53 {k : KT} {S : HS}  (x : Int32) (y : Int32) (h0 : ¬ y = 0) : Ct k (mt_J9_floorDiv_7cf53 (rm 1 0 0)) [.int (x), .int (y)] S (Pu (f_J9_floorDiv_7cf53 x y) S) := by
  refine Ct.ofF (by decide +kernel) (Nat.le_of_ble_eq_true rfl) ?_
  refine x_lv [(0, .int (x)), (1, .int (y))] [0, 1] rfl ?_
  refine x_iload_n 0 dJ9_floorDiv_7cf53_0 rfl ?_
  refine x_iload_n 1 dJ9_floorDiv_7cf53_1 rfl ?_
  refine x_idiv dJ9_floorDiv_7cf53_2 h0 ?_
  refine x_istore_n [(2, .int ((x / y))), (0, .int (x)), (1, .int (y))] dJ9_floorDiv_7cf53_3 (Nat.le_of_ble_eq_true rfl) rfl ?_
  refine x_iload_n 1 dJ9_floorDiv_7cf53_4 rfl ?_
  refine x_iload_n 2 dJ9_floorDiv_7cf53_5 rfl ?_
  refine x_ixor dJ9_floorDiv_7cf53_6 ?_
  refine x_if_ge 21 dJ9_floorDiv_7cf53_7 (by decide) (fun c1 => ?_) (fun c1 => ?_)
  · refine x_iload_n 0 dJ9_floorDiv_7cf53_21 rfl ?_
    exact x_ireturn dJ9_floorDiv_7cf53_22 rfl (Nat.le_of_ble_eq_true rfl) (Nat.le_of_ble_eq_true rfl) ⟨by rw [f_J9_floorDiv_7cf53, if_pos c1], rfl⟩
  · refine x_iload_n 0 dJ9_floorDiv_7cf53_10 rfl ?_
    refine x_iload_n 2 dJ9_floorDiv_7cf53_11 rfl ?_
    refine x_imul dJ9_floorDiv_7cf53_12 ?_
    refine x_iload_n 1 dJ9_floorDiv_7cf53_13 rfl ?_
    refine x_icmp_eq 21 dJ9_floorDiv_7cf53_14 (by decide) (fun c2 => ?_) (fun c2 => ?_)
    · refine x_iload_n 0 dJ9_floorDiv_7cf53_21 rfl ?_
      exact x_ireturn dJ9_floorDiv_7cf53_22 rfl (Nat.le_of_ble_eq_true rfl) (Nat.le_of_ble_eq_true rfl) ⟨by rw [f_J9_floorDiv_7cf53, if_neg c1, if_pos c2], rfl⟩
    · refine x_iload_n 0 dJ9_floorDiv_7cf53_17 rfl ?_
      refine x_iconst 1 dJ9_floorDiv_7cf53_18 (by decide) ?_
      refine x_isub dJ9_floorDiv_7cf53_19 ?_
      exact x_ireturn dJ9_floorDiv_7cf53_20 rfl (Nat.le_of_ble_eq_true rfl) (Nat.le_of_ble_eq_true rfl) ⟨by rw [f_J9_floorDiv_7cf53, if_neg c1, if_neg c2], rfl⟩
def f_J9_floorMod_7cf53 (x : Int32) (y : Int32) : Int32 := (if 0 ≤ (x ^^^ y) then (x - x / y * y) else (if (x - x / y * y) = 0 then (x - x / y * y) else ((x - x / y * y) + y)))
set_option maxRecDepth 100000 in
theorem c_J9_floorMod_7cf53 {k : KT} {S : HS}  (x : Int32) (y : Int32) (h0 : ¬ y = 0) : Ct k (mt_J9_floorMod_7cf53 (rm 1 0 0)) [.int (x), .int (y)] S (Pu (f_J9_floorMod_7cf53 x y) S) := by
  refine Ct.ofF (by decide +kernel) (Nat.le_of_ble_eq_true rfl) ?_
  refine x_lv [(0, .int (x)), (1, .int (y))] [0, 1] rfl ?_
  refine x_iload_n 0 dJ9_floorMod_7cf53_0 rfl ?_
  refine x_iload_n 1 dJ9_floorMod_7cf53_1 rfl ?_
  refine x_irem dJ9_floorMod_7cf53_2 h0 ?_
  refine x_istore_n [(2, .int ((x - x / y * y))), (0, .int (x)), (1, .int (y))] dJ9_floorMod_7cf53_3 (Nat.le_of_ble_eq_true rfl) rfl ?_
  refine x_iload_n 1 dJ9_floorMod_7cf53_4 rfl ?_
  refine x_iload_n 2 dJ9_floorMod_7cf53_5 rfl ?_
  refine x_ixor dJ9_floorMod_7cf53_6 ?_
  refine x_if_ge 18 dJ9_floorMod_7cf53_7 (by decide) (fun c1 => ?_) (fun c1 => ?_)
  · refine x_iload_n 0 dJ9_floorMod_7cf53_18 rfl ?_
    exact x_ireturn dJ9_floorMod_7cf53_19 rfl (Nat.le_of_ble_eq_true rfl) (Nat.le_of_ble_eq_true rfl) ⟨by rw [f_J9_floorMod_7cf53, if_pos c1], rfl⟩
  · refine x_iload_n 0 dJ9_floorMod_7cf53_10 rfl ?_
    refine x_if_eq 18 dJ9_floorMod_7cf53_11 (by decide) (fun c2 => ?_) (fun c2 => ?_)
    · refine x_iload_n 0 dJ9_floorMod_7cf53_18 rfl ?_
      exact x_ireturn dJ9_floorMod_7cf53_19 rfl (Nat.le_of_ble_eq_true rfl) (Nat.le_of_ble_eq_true rfl) ⟨by rw [f_J9_floorMod_7cf53, if_neg c1, if_pos c2], rfl⟩
    · refine x_iload_n 0 dJ9_floorMod_7cf53_14 rfl ?_
      refine x_iload_n 2 dJ9_floorMod_7cf53_15 rfl ?_
      refine x_iadd dJ9_floorMod_7cf53_16 ?_
      exact x_ireturn dJ9_floorMod_7cf53_17 rfl (Nat.le_of_ble_eq_true rfl) (Nat.le_of_ble_eq_true rfl) ⟨by rw [f_J9_floorMod_7cf53, if_neg c1, if_neg c2], rfl⟩
theorem two_ne {q : Int32} (h : 0 < q) : ¬ 2 * q = 0 := by
  intro e
  have h1 := Int32.lt_iff_toInt_lt.mp h
  have h2 := congrArg Int32.toInt e
  have h3 := Int32.toInt_lt q
  rw [Int32.toInt_mul] at h2
  simp only [show (0 : Int32).toInt = 0 from rfl, show (2 : Int32).toInt = 2 from rfl] at h1 h2
  rw [Int.bmod_def] at h2
  omega
theorem pos_ne {q : Int32} (h : 0 < q) : ¬ q = 0 := by intro e; subst e; exact absurd h (by decide)
def f_X6_wholes (p : Int32) (q : Int32) : Int32 := (if q ≤ 0 then 0 else (f_J9_floorDiv_7cf53 p q))
set_option maxRecDepth 100000 in
theorem c_X6_wholes {k : KT} {S : HS}  (p : Int32) (q : Int32)  : Ct k (mt_X6_wholes (rm 2 0 0)) [.int (p), .int (q)] S (Pu (f_X6_wholes p q) S) := by
  refine Ct.ofF (by decide +kernel) (Nat.le_of_ble_eq_true rfl) ?_
  refine x_lv [(0, .int (p)), (1, .int (q))] [0, 1] rfl ?_
  refine x_iload_n 1 dX6_wholes_0 rfl ?_
  refine x_if_le 12 dX6_wholes_1 (by decide) (fun c1 => ?_) (fun c1 => ?_)
  · refine x_iconst 0 dX6_wholes_12 (by decide) ?_
    exact x_ireturn dX6_wholes_13 rfl (Nat.le_of_ble_eq_true rfl) (Nat.le_of_ble_eq_true rfl) ⟨by rw [f_X6_wholes, if_pos c1], rfl⟩
  · refine x_iload_n 0 dX6_wholes_4 rfl ?_
    refine x_iload_n 1 dX6_wholes_5 rfl ?_
    refine ca_X6_230 [.int (p), .int (q)] [] (c_J9_floorDiv_7cf53 (p) (q) (pos_ne (by first | exact c1 | exact Int32.not_le.mp c1))) rfl dX6_wholes_6 rfl rfl ⟨(Nat.le_of_ble_eq_true rfl), (Nat.le_of_ble_eq_true rfl), (Nat.le_of_ble_eq_true rfl), (Nat.le_of_ble_eq_true rfl), (Nat.le_of_ble_eq_true rfl)⟩ (fun v T hq => ?_)
    obtain ⟨rfl, rfl⟩ := hq
    refine x_goto 13 dX6_wholes_9 (by decide) ?_
    exact x_ireturn dX6_wholes_13 rfl (Nat.le_of_ble_eq_true rfl) (Nat.le_of_ble_eq_true rfl) ⟨by rw [f_X6_wholes, if_neg c1], rfl⟩
def f_X6_rest (p : Int32) (q : Int32) : Int32 := (if q ≤ 0 then 0 else (f_J9_floorMod_7cf53 p q))
set_option maxRecDepth 100000 in
theorem c_X6_rest {k : KT} {S : HS}  (p : Int32) (q : Int32)  : Ct k (mt_X6_rest (rm 2 0 0)) [.int (p), .int (q)] S (Pu (f_X6_rest p q) S) := by
  refine Ct.ofF (by decide +kernel) (Nat.le_of_ble_eq_true rfl) ?_
  refine x_lv [(0, .int (p)), (1, .int (q))] [0, 1] rfl ?_
  refine x_iload_n 1 dX6_rest_0 rfl ?_
  refine x_if_le 12 dX6_rest_1 (by decide) (fun c1 => ?_) (fun c1 => ?_)
  · refine x_iconst 0 dX6_rest_12 (by decide) ?_
    exact x_ireturn dX6_rest_13 rfl (Nat.le_of_ble_eq_true rfl) (Nat.le_of_ble_eq_true rfl) ⟨by rw [f_X6_rest, if_pos c1], rfl⟩
  · refine x_iload_n 0 dX6_rest_4 rfl ?_
    refine x_iload_n 1 dX6_rest_5 rfl ?_
    refine ca_X6_235 [.int (p), .int (q)] [] (c_J9_floorMod_7cf53 (p) (q) (pos_ne (by first | exact c1 | exact Int32.not_le.mp c1))) rfl dX6_rest_6 rfl rfl ⟨(Nat.le_of_ble_eq_true rfl), (Nat.le_of_ble_eq_true rfl), (Nat.le_of_ble_eq_true rfl), (Nat.le_of_ble_eq_true rfl), (Nat.le_of_ble_eq_true rfl)⟩ (fun v T hq => ?_)
    obtain ⟨rfl, rfl⟩ := hq
    refine x_goto 13 dX6_rest_9 (by decide) ?_
    exact x_ireturn dX6_rest_13 rfl (Nat.le_of_ble_eq_true rfl) (Nat.le_of_ble_eq_true rfl) ⟨by rw [f_X6_rest, if_neg c1], rfl⟩
def f_X6_roundBy (p : Int32) (q : Int32) : Int32 := (f_X6_wholes (((2 * p) + q)) ((2 * q)))
set_option maxRecDepth 100000 in
theorem c_X6_roundBy {k : KT} {S : HS}  (p : Int32) (q : Int32)  : Ct k (mt_X6_roundBy (rm 3 0 0)) [.int (p), .int (q)] S (Pu (f_X6_roundBy p q) S) := by
  refine Ct.ofF (by decide +kernel) (Nat.le_of_ble_eq_true rfl) ?_
  refine x_lv [(0, .int (p)), (1, .int (q))] [0, 1] rfl ?_
  refine x_iconst 2 dX6_roundBy_0 (by decide) ?_
  refine x_iload_n 0 dX6_roundBy_1 rfl ?_
  refine x_imul dX6_roundBy_2 ?_
  refine x_iload_n 1 dX6_roundBy_3 rfl ?_
  refine x_iadd dX6_roundBy_4 ?_
  refine x_iconst 2 dX6_roundBy_5 (by decide) ?_
  refine x_iload_n 1 dX6_roundBy_6 rfl ?_
  refine x_imul dX6_roundBy_7 ?_
  refine ca_X6_30 [.int (((2 * p) + q)), .int ((2 * q))] [] (c_X6_wholes (((2 * p) + q)) ((2 * q))) rfl dX6_roundBy_8 rfl rfl ⟨(Nat.le_of_ble_eq_true rfl), (Nat.le_of_ble_eq_true rfl), (Nat.le_of_ble_eq_true rfl), (Nat.le_of_ble_eq_true rfl), (Nat.le_of_ble_eq_true rfl)⟩ (fun v T hq => ?_)
  obtain ⟨rfl, rfl⟩ := hq
  exact x_ireturn dX6_roundBy_11 rfl (Nat.le_of_ble_eq_true rfl) (Nat.le_of_ble_eq_true rfl) ⟨by rw [f_X6_roundBy], rfl⟩
theorem in_of {i : Int32} {n : Nat} (hn : n < 2 ^ 31) (h1 : ¬ i < 0) (h2 : ¬ nI n ≤ i) : vp_in i n := by
  rw [vp_in_iff]
  have a1 := Int32.not_lt.mp h1
  have a2 := Int32.not_le.mp h2
  rw [Int32.le_iff_toInt_le] at a1
  rw [Int32.lt_iff_toInt_lt, nI_toInt hn] at a2
  simp only [show (0 : Int32).toInt = 0 from rfl] at a1
  omega
def f_X6_cosOf (d : Int32) : Int32 := (if d < 0 then 0 else (if 91 ≤ d then 0 else (cosL.getD (d).toNatClampNeg 0)))
set_option maxRecDepth 100000 in
theorem c_X6_cosOf {k : KT} {S : HS}  (d : Int32)  : Ct k (mt_X6_cosOf (rm 1 0 0)) [.int (d)] S (Pu (f_X6_cosOf d) S) := by
  refine Ct.ofF (by decide +kernel) (Nat.le_of_ble_eq_true rfl) ?_
  refine x_lv [(0, .int (d))] [0] rfl ?_
  refine x_iload_n 0 dX6_cosOf_0 rfl ?_
  refine x_if_lt 20 dX6_cosOf_1 (by decide) (fun c1 => ?_) (fun c1 => ?_)
  · refine x_iconst 0 dX6_cosOf_20 (by decide) ?_
    exact x_ireturn dX6_cosOf_21 rfl (Nat.le_of_ble_eq_true rfl) (Nat.le_of_ble_eq_true rfl) ⟨by rw [f_X6_cosOf, if_pos c1], rfl⟩
  · refine x_iload_n 0 dX6_cosOf_4 rfl ?_
    refine x_getsC dX6_cosOf_5 tw_5_15 ?_
    refine x_tlenC dX6_cosOf_8 ?_
    refine x_icmp_ge 20 dX6_cosOf_9 (by decide) (fun c2 => ?_) (fun c2 => ?_)
    · refine x_iconst 0 dX6_cosOf_20 (by decide) ?_
      exact x_ireturn dX6_cosOf_21 rfl (Nat.le_of_ble_eq_true rfl) (Nat.le_of_ble_eq_true rfl) ⟨by rw [f_X6_cosOf, if_neg c1, if_pos c2], rfl⟩
    · refine x_getsC dX6_cosOf_12 tw_5_15 ?_
      refine x_iload_n 0 dX6_cosOf_15 rfl ?_
      refine x_tiC dX6_cosOf_16 (in_of (by decide) c1 c2) ?_
      refine x_goto 21 dX6_cosOf_17 (by decide) ?_
      exact x_ireturn dX6_cosOf_21 rfl (Nat.le_of_ble_eq_true rfl) (Nat.le_of_ble_eq_true rfl) ⟨by rw [f_X6_cosOf, if_neg c1, if_neg c2], rfl⟩
def f_X6_narrowAt (h : Int32) : Int32 := ((((f_X6_cosOf (((if 0 ≤ h then h else 0 - h) / 60))) * (60 - ((if 0 ≤ h then h else 0 - h) - (if 0 ≤ h then h else 0 - h) / 60 * 60))) + ((f_X6_cosOf ((((if 0 ≤ h then h else 0 - h) / 60) + 1))) * ((if 0 ≤ h then h else 0 - h) - (if 0 ≤ h then h else 0 - h) / 60 * 60))) / 60)
set_option maxRecDepth 100000 in
theorem c_X6_narrowAt {k : KT} {S : HS}  (h : Int32)  : Ct k (mt_X6_narrowAt (rm 2 0 0)) [.int (h)] S (Pu (f_X6_narrowAt h) S) := by
  refine Ct.ofF (by decide +kernel) (Nat.le_of_ble_eq_true rfl) ?_
  refine x_lv [(0, .int (h))] [0] rfl ?_
  refine x_iload_n 0 dX6_narrowAt_0 rfl ?_
  refine ca_X6_241 rfl dX6_narrowAt_1 (Nat.le_of_ble_eq_true rfl) (Nat.le_of_ble_eq_true rfl) (Nat.le_of_ble_eq_true rfl) (Nat.le_of_ble_eq_true rfl) ?_
  refine x_istore_n [(1, .int ((if 0 ≤ h then h else 0 - h))), (0, .int (h))] dX6_narrowAt_4 (Nat.le_of_ble_eq_true rfl) rfl ?_
  refine x_iload_n 0 dX6_narrowAt_5 rfl ?_
  refine x_bipush 60 dX6_narrowAt_6 (by decide) ?_
  refine x_idiv dX6_narrowAt_8 (by decide) ?_
  refine x_istore_n [(2, .int (((if 0 ≤ h then h else 0 - h) / 60))), (1, .int ((if 0 ≤ h then h else 0 - h))), (0, .int (h))] dX6_narrowAt_9 (Nat.le_of_ble_eq_true rfl) rfl ?_
  refine x_iload_n 1 dX6_narrowAt_10 rfl ?_
  refine x_bipush 60 dX6_narrowAt_11 (by decide) ?_
  refine x_irem dX6_narrowAt_13 (by decide) ?_
  refine x_istore_n [(3, .int (((if 0 ≤ h then h else 0 - h) - (if 0 ≤ h then h else 0 - h) / 60 * 60))), (2, .int (((if 0 ≤ h then h else 0 - h) / 60))), (1, .int ((if 0 ≤ h then h else 0 - h))), (0, .int (h))] dX6_narrowAt_14 (Nat.le_of_ble_eq_true rfl) rfl ?_
  refine x_at 15 rfl ?_
  refine x_iload_n 1 dX6_narrowAt_15 rfl ?_
  refine ca_X6_244 [.int (((if 0 ≤ h then h else 0 - h) / 60))] [] (c_X6_cosOf (((if 0 ≤ h then h else 0 - h) / 60))) rfl dX6_narrowAt_16 rfl rfl ⟨(Nat.le_of_ble_eq_true rfl), (Nat.le_of_ble_eq_true rfl), (Nat.le_of_ble_eq_true rfl), (Nat.le_of_ble_eq_true rfl), (Nat.le_of_ble_eq_true rfl)⟩ (fun v T hq => ?_)
  obtain ⟨rfl, rfl⟩ := hq
  refine x_bipush 60 dX6_narrowAt_19 (by decide) ?_
  refine x_iload_n 0 dX6_narrowAt_21 rfl ?_
  refine x_isub dX6_narrowAt_22 ?_
  refine x_imul dX6_narrowAt_23 ?_
  refine x_iload_n 1 dX6_narrowAt_24 rfl ?_
  refine x_iconst 1 dX6_narrowAt_25 (by decide) ?_
  refine x_iadd dX6_narrowAt_26 ?_
  refine ca_X6_244 [.int ((((if 0 ≤ h then h else 0 - h) / 60) + 1))] [.int (((f_X6_cosOf (((if 0 ≤ h then h else 0 - h) / 60))) * (60 - ((if 0 ≤ h then h else 0 - h) - (if 0 ≤ h then h else 0 - h) / 60 * 60))))] (c_X6_cosOf ((((if 0 ≤ h then h else 0 - h) / 60) + 1))) rfl dX6_narrowAt_27 rfl rfl ⟨(Nat.le_of_ble_eq_true rfl), (Nat.le_of_ble_eq_true rfl), (Nat.le_of_ble_eq_true rfl), (Nat.le_of_ble_eq_true rfl), (Nat.le_of_ble_eq_true rfl)⟩ (fun v T hq => ?_)
  obtain ⟨rfl, rfl⟩ := hq
  refine x_iload_n 0 dX6_narrowAt_30 rfl ?_
  refine x_imul dX6_narrowAt_31 ?_
  refine x_at 32 rfl ?_
  refine x_iadd dX6_narrowAt_32 ?_
  refine x_bipush 60 dX6_narrowAt_33 (by decide) ?_
  refine x_idiv dX6_narrowAt_35 (by decide) ?_
  exact x_ireturn dX6_narrowAt_36 rfl (Nat.le_of_ble_eq_true rfl) (Nat.le_of_ble_eq_true rfl) ⟨by rw [f_X6_narrowAt], rfl⟩
def f_X6_xOf (sd : Int32) (h : Int32) : Int32 := (((30 * sd) * (f_X6_narrowAt h)) / 1000)
set_option maxRecDepth 100000 in
theorem c_X6_xOf {k : KT} {S : HS}  (sd : Int32) (h : Int32)  : Ct k (mt_X6_xOf (rm 3 0 0)) [.int (sd), .int (h)] S (Pu (f_X6_xOf sd h) S) := by
  refine Ct.ofF (by decide +kernel) (Nat.le_of_ble_eq_true rfl) ?_
  refine x_lv [(0, .int (sd)), (1, .int (h))] [0, 1] rfl ?_
  refine x_bipush 30 dX6_xOf_0 (by decide) ?_
  refine x_iload_n 0 dX6_xOf_2 rfl ?_
  refine x_imul dX6_xOf_3 ?_
  refine x_iload_n 1 dX6_xOf_4 rfl ?_
  refine ca_X6_49 [.int (h)] [.int ((30 * sd))] (c_X6_narrowAt (h)) rfl dX6_xOf_5 rfl rfl ⟨(Nat.le_of_ble_eq_true rfl), (Nat.le_of_ble_eq_true rfl), (Nat.le_of_ble_eq_true rfl), (Nat.le_of_ble_eq_true rfl), (Nat.le_of_ble_eq_true rfl)⟩ (fun v T hq => ?_)
  obtain ⟨rfl, rfl⟩ := hq
  refine x_imul dX6_xOf_8 ?_
  refine x_sipush 1000 dX6_xOf_9 (by decide) ?_
  refine x_idiv dX6_xOf_12 (by decide) ?_
  exact x_ireturn dX6_xOf_13 rfl (Nat.le_of_ble_eq_true rfl) (Nat.le_of_ble_eq_true rfl) ⟨by rw [f_X6_xOf], rfl⟩
def f_X6_narrow (h : Int32) : Int32 := (if (f_X6_isHeight h) = 0 then (-1) else (f_X6_narrowAt h))
set_option maxRecDepth 100000 in
theorem c_X6_narrow {k : KT} {S : HS} {o : Nat}  (h : Int32) (hKo : gK S o = 8)  : Ct k (mt_X6_narrow (rm 3 0 0)) [.ref (o), .int (h)] S (Pu (f_X6_narrow h) S) := by
  refine Ct.ofF (by decide +kernel) (Nat.le_of_ble_eq_true rfl) ?_
  refine x_lv [(0, .ref (o)), (1, .int (h))] [0, 1] rfl ?_
  refine x_iload_n 1 dX6_narrow_0 rfl ?_
  refine ca_X6_45 [.int (h)] [] (c_X6_isHeight (h)) rfl dX6_narrow_1 rfl rfl ⟨(Nat.le_of_ble_eq_true rfl), (Nat.le_of_ble_eq_true rfl), (Nat.le_of_ble_eq_true rfl), (Nat.le_of_ble_eq_true rfl), (Nat.le_of_ble_eq_true rfl)⟩ (fun v T hq => ?_)
  obtain ⟨rfl, rfl⟩ := hq
  refine x_if_eq 14 dX6_narrow_4 (by decide) (fun c1 => ?_) (fun c1 => ?_)
  · refine x_iconst (-1) dX6_narrow_14 (by decide) ?_
    exact x_ireturn dX6_narrow_15 rfl (Nat.le_of_ble_eq_true rfl) (Nat.le_of_ble_eq_true rfl) ⟨by rw [f_X6_narrow, if_pos c1], rfl⟩
  · refine x_iload_n 1 dX6_narrow_7 rfl ?_
    refine ca_X6_49 [.int (h)] [] (c_X6_narrowAt (h)) rfl dX6_narrow_8 rfl rfl ⟨(Nat.le_of_ble_eq_true rfl), (Nat.le_of_ble_eq_true rfl), (Nat.le_of_ble_eq_true rfl), (Nat.le_of_ble_eq_true rfl), (Nat.le_of_ble_eq_true rfl)⟩ (fun v T hq => ?_)
    obtain ⟨rfl, rfl⟩ := hq
    refine x_goto 15 dX6_narrow_11 (by decide) ?_
    exact x_ireturn dX6_narrow_15 rfl (Nat.le_of_ble_eq_true rfl) (Nat.le_of_ble_eq_true rfl) ⟨by rw [f_X6_narrow, if_neg c1], rfl⟩
def f_X6_across (wd : Int32) (sd : Int32) (h : Int32) : Int32 := (if sd < (-wd) then (-2147483648) else (if wd < sd then (-2147483648) else (if (f_X6_isHeight h) = 0 then (-2147483648) else (f_X6_xOf sd h))))
set_option maxRecDepth 100000 in
theorem c_X6_across {k : KT} {S : HS} {o : Nat}  (wd : Int32) (sd : Int32) (h : Int32) (hKo : gK S o = 8) (hvwd : gI S 224 o = wd)  : Ct k (mt_X6_across (rm 4 0 0)) [.ref (o), .int (sd), .int (h)] S (Pu (f_X6_across wd sd h) S) := by
  refine Ct.ofF (by decide +kernel) (Nat.le_of_ble_eq_true rfl) ?_
  refine x_lv [(0, .ref (o)), (1, .int (sd)), (2, .int (h))] [0, 1, 2] rfl ?_
  refine x_iload_n 1 dX6_across_0 rfl ?_
  refine x_aload_n 0 dX6_across_1 rfl ?_
  refine gf_X6_34 rfl dX6_across_2 hKo ?_
  rw [show gI (S) 224 (o) = wd from hvwd]
  refine x_ineg dX6_across_5 ?_
  refine x_icmp_lt 28 dX6_across_6 (by decide) (fun c1 => ?_) (fun c1 => ?_)
  · refine x_iconst 0 dX6_across_28 (by decide) ?_
    refine x_istore_n [(3, .int (0)), (0, .ref (o)), (1, .int (sd)), (2, .int (h))] dX6_across_29 (Nat.le_of_ble_eq_true rfl) rfl ?_
    refine x_iload_n 0 dX6_across_30 rfl ?_
    refine x_if_eq 42 dX6_across_31 (by decide) (fun c2 => ?_) (fun c2 => ?_)
    · refine x_ldc dX6_across_42 tw_6_7 ?_
      exact x_ireturn dX6_across_44 rfl (Nat.le_of_ble_eq_true rfl) (Nat.le_of_ble_eq_true rfl) ⟨by rw [f_X6_across, if_pos c1], rfl⟩
    · exact absurd (by decide) c2
  · refine x_iload_n 1 dX6_across_9 rfl ?_
    refine x_aload_n 0 dX6_across_10 rfl ?_
    refine gf_X6_34 rfl dX6_across_11 hKo ?_
    rw [show gI (S) 224 (o) = wd from hvwd]
    refine x_icmp_gt 28 dX6_across_14 (by decide) (fun c3 => ?_) (fun c3 => ?_)
    · refine x_iconst 0 dX6_across_28 (by decide) ?_
      refine x_istore_n [(3, .int (0)), (0, .ref (o)), (1, .int (sd)), (2, .int (h))] dX6_across_29 (Nat.le_of_ble_eq_true rfl) rfl ?_
      refine x_iload_n 0 dX6_across_30 rfl ?_
      refine x_if_eq 42 dX6_across_31 (by decide) (fun c4 => ?_) (fun c4 => ?_)
      · refine x_ldc dX6_across_42 tw_6_7 ?_
        exact x_ireturn dX6_across_44 rfl (Nat.le_of_ble_eq_true rfl) (Nat.le_of_ble_eq_true rfl) ⟨by rw [f_X6_across, if_neg c1, if_pos c3], rfl⟩
      · exact absurd (by decide) c4
    · refine x_iload_n 2 dX6_across_17 rfl ?_
      refine ca_X6_45 [.int (h)] [] (c_X6_isHeight (h)) rfl dX6_across_18 rfl rfl ⟨(Nat.le_of_ble_eq_true rfl), (Nat.le_of_ble_eq_true rfl), (Nat.le_of_ble_eq_true rfl), (Nat.le_of_ble_eq_true rfl), (Nat.le_of_ble_eq_true rfl)⟩ (fun v T hq => ?_)
      obtain ⟨rfl, rfl⟩ := hq
      refine x_if_eq 28 dX6_across_21 (by decide) (fun c5 => ?_) (fun c5 => ?_)
      · refine x_iconst 0 dX6_across_28 (by decide) ?_
        refine x_istore_n [(3, .int (0)), (0, .ref (o)), (1, .int (sd)), (2, .int (h))] dX6_across_29 (Nat.le_of_ble_eq_true rfl) rfl ?_
        refine x_iload_n 0 dX6_across_30 rfl ?_
        refine x_if_eq 42 dX6_across_31 (by decide) (fun c6 => ?_) (fun c6 => ?_)
        · refine x_ldc dX6_across_42 tw_6_7 ?_
          exact x_ireturn dX6_across_44 rfl (Nat.le_of_ble_eq_true rfl) (Nat.le_of_ble_eq_true rfl) ⟨by rw [f_X6_across, if_neg c1, if_neg c3, if_pos c5], rfl⟩
        · exact absurd (by decide) c6
      · refine x_iconst 1 dX6_across_24 (by decide) ?_
        refine x_goto 29 dX6_across_25 (by decide) ?_
        refine x_istore_n [(3, .int (1)), (0, .ref (o)), (1, .int (sd)), (2, .int (h))] dX6_across_29 (Nat.le_of_ble_eq_true rfl) rfl ?_
        refine x_iload_n 0 dX6_across_30 rfl ?_
        refine x_if_eq 42 dX6_across_31 (by decide) (fun c7 => ?_) (fun c7 => ?_)
        · exact absurd c7 (by decide)
        · refine x_iload_n 2 dX6_across_34 rfl ?_
          refine x_iload_n 3 dX6_across_35 rfl ?_
          refine ca_X6_52 [.int (sd), .int (h)] [] (c_X6_xOf (sd) (h)) rfl dX6_across_36 rfl rfl ⟨(Nat.le_of_ble_eq_true rfl), (Nat.le_of_ble_eq_true rfl), (Nat.le_of_ble_eq_true rfl), (Nat.le_of_ble_eq_true rfl), (Nat.le_of_ble_eq_true rfl)⟩ (fun v T hq => ?_)
          obtain ⟨rfl, rfl⟩ := hq
          refine x_goto 44 dX6_across_39 (by decide) ?_
          exact x_ireturn dX6_across_44 rfl (Nat.le_of_ble_eq_true rfl) (Nat.le_of_ble_eq_true rfl) ⟨by rw [f_X6_across, if_neg c1, if_neg c3, if_neg c5], rfl⟩
def f_X6_grownThousand (ga : Int32) (gl : Int32) (wh : Int32) : Int32 := (if wh = 0 then (1000 + ga) else (1000 + gl))
set_option maxRecDepth 100000 in
theorem c_X6_grownThousand {k : KT} {S : HS} {o : Nat}  (ga : Int32) (gl : Int32) (wh : Int32) (hKo : gK S o = 8) (hvga : gI S 230 o = ga) (hvgl : gI S 231 o = gl)  : Ct k (mt_X6_grownThousand (rm 1 0 0)) [.ref (o), .int (wh)] S (Pu (f_X6_grownThousand ga gl wh) S) := by
  refine Ct.ofF (by decide +kernel) (Nat.le_of_ble_eq_true rfl) ?_
  refine x_lv [(0, .ref (o)), (1, .int (wh))] [0, 1] rfl ?_
  refine x_sipush 1000 dX6_grownThousand_0 (by decide) ?_
  refine x_iload_n 1 dX6_grownThousand_3 rfl ?_
  refine x_if_ne 14 dX6_grownThousand_4 (by decide) (fun c1 => ?_) (fun c1 => ?_)
  · refine x_aload_n 0 dX6_grownThousand_14 rfl ?_
    refine gf_X6_143 rfl dX6_grownThousand_15 hKo ?_
    rw [show gI (S) 231 (o) = gl from hvgl]
    refine x_iadd dX6_grownThousand_18 ?_
    exact x_ireturn dX6_grownThousand_19 rfl (Nat.le_of_ble_eq_true rfl) (Nat.le_of_ble_eq_true rfl) ⟨by rw [f_X6_grownThousand, if_neg c1], rfl⟩
  · refine x_aload_n 0 dX6_grownThousand_7 rfl ?_
    refine gf_X6_140 rfl dX6_grownThousand_8 hKo ?_
    rw [show gI (S) 230 (o) = ga from hvga]
    refine x_goto 18 dX6_grownThousand_11 (by decide) ?_
    refine x_iadd dX6_grownThousand_18 ?_
    exact x_ireturn dX6_grownThousand_19 rfl (Nat.le_of_ble_eq_true rfl) (Nat.le_of_ble_eq_true rfl) ⟨by rw [f_X6_grownThousand, if_pos c1], rfl⟩
def f_X6_drawn (ga : Int32) (gl : Int32) (v : Int32) (wh : Int32) : Int32 := (if (f_X6_isOnPaper v wh) = 0 then (-1) else (f_X6_roundBy ((v * 1000)) ((f_X6_grownThousand ga gl wh))))
set_option maxRecDepth 100000 in
theorem c_X6_drawn {k : KT} {S : HS} {o : Nat}  (ga : Int32) (gl : Int32) (v : Int32) (wh : Int32) (hKo : gK S o = 8) (hvga : gI S 230 o = ga) (hvgl : gI S 231 o = gl)  : Ct k (mt_X6_drawn (rm 4 0 0)) [.ref (o), .int (v), .int (wh)] S (Pu (f_X6_drawn ga gl v wh) S) := by
  refine Ct.ofF (by decide +kernel) (Nat.le_of_ble_eq_true rfl) ?_
  refine x_lv [(0, .ref (o)), (1, .int (v)), (2, .int (wh))] [0, 1, 2] rfl ?_
  refine x_iload_n 1 dX6_drawn_0 rfl ?_
  refine x_iload_n 2 dX6_drawn_1 rfl ?_
  refine ca_X6_150 [.int (v), .int (wh)] [] (c_X6_isOnPaper (v) (wh)) rfl dX6_drawn_2 rfl rfl ⟨(Nat.le_of_ble_eq_true rfl), (Nat.le_of_ble_eq_true rfl), (Nat.le_of_ble_eq_true rfl), (Nat.le_of_ble_eq_true rfl), (Nat.le_of_ble_eq_true rfl)⟩ (fun v T hq => ?_)
  obtain ⟨rfl, rfl⟩ := hq
  refine x_if_eq 24 dX6_drawn_5 (by decide) (fun c1 => ?_) (fun c1 => ?_)
  · refine x_iconst (-1) dX6_drawn_24 (by decide) ?_
    exact x_ireturn dX6_drawn_25 rfl (Nat.le_of_ble_eq_true rfl) (Nat.le_of_ble_eq_true rfl) ⟨by rw [f_X6_drawn, if_pos c1], rfl⟩
  · refine x_iload_n 1 dX6_drawn_8 rfl ?_
    refine x_sipush 1000 dX6_drawn_9 (by decide) ?_
    refine x_imul dX6_drawn_12 ?_
    refine x_aload_n 0 dX6_drawn_13 rfl ?_
    refine x_iload_n 2 dX6_drawn_14 rfl ?_
    refine ca_X6_153 [.int (wh)] [.int ((v * 1000))] (c_X6_grownThousand (ga) (gl) (wh) hKo hvga hvgl) hKo rfl dX6_drawn_15 rfl rfl ⟨(Nat.le_of_ble_eq_true rfl), (Nat.le_of_ble_eq_true rfl), (Nat.le_of_ble_eq_true rfl), (Nat.le_of_ble_eq_true rfl), (Nat.le_of_ble_eq_true rfl)⟩ (fun v T hq => ?_)
    obtain ⟨rfl, rfl⟩ := hq
    refine ca_X6_156 [.int ((v * 1000)), .int ((f_X6_grownThousand ga gl wh))] [] (c_X6_roundBy ((v * 1000)) ((f_X6_grownThousand ga gl wh))) rfl dX6_drawn_18 rfl rfl ⟨(Nat.le_of_ble_eq_true rfl), (Nat.le_of_ble_eq_true rfl), (Nat.le_of_ble_eq_true rfl), (Nat.le_of_ble_eq_true rfl), (Nat.le_of_ble_eq_true rfl)⟩ (fun v T hq => ?_)
    obtain ⟨rfl, rfl⟩ := hq
    refine x_goto 25 dX6_drawn_21 (by decide) ?_
    exact x_ireturn dX6_drawn_25 rfl (Nat.le_of_ble_eq_true rfl) (Nat.le_of_ble_eq_true rfl) ⟨by rw [f_X6_drawn, if_neg c1], rfl⟩
def f_X6_wet (ga : Int32) (gl : Int32) (v : Int32) (wh : Int32) : Int32 := (if (f_X6_isOnPaper v wh) = 0 then (-1) else (f_X6_roundBy ((v * (f_X6_grownThousand ga gl wh))) 1000))
set_option maxRecDepth 100000 in
theorem c_X6_wet {k : KT} {S : HS} {o : Nat}  (ga : Int32) (gl : Int32) (v : Int32) (wh : Int32) (hKo : gK S o = 8) (hvga : gI S 230 o = ga) (hvgl : gI S 231 o = gl)  : Ct k (mt_X6_wet (rm 4 0 0)) [.ref (o), .int (v), .int (wh)] S (Pu (f_X6_wet ga gl v wh) S) := by
  refine Ct.ofF (by decide +kernel) (Nat.le_of_ble_eq_true rfl) ?_
  refine x_lv [(0, .ref (o)), (1, .int (v)), (2, .int (wh))] [0, 1, 2] rfl ?_
  refine x_iload_n 1 dX6_wet_0 rfl ?_
  refine x_iload_n 2 dX6_wet_1 rfl ?_
  refine ca_X6_150 [.int (v), .int (wh)] [] (c_X6_isOnPaper (v) (wh)) rfl dX6_wet_2 rfl rfl ⟨(Nat.le_of_ble_eq_true rfl), (Nat.le_of_ble_eq_true rfl), (Nat.le_of_ble_eq_true rfl), (Nat.le_of_ble_eq_true rfl), (Nat.le_of_ble_eq_true rfl)⟩ (fun v T hq => ?_)
  obtain ⟨rfl, rfl⟩ := hq
  refine x_if_eq 24 dX6_wet_5 (by decide) (fun c1 => ?_) (fun c1 => ?_)
  · refine x_iconst (-1) dX6_wet_24 (by decide) ?_
    exact x_ireturn dX6_wet_25 rfl (Nat.le_of_ble_eq_true rfl) (Nat.le_of_ble_eq_true rfl) ⟨by rw [f_X6_wet, if_pos c1], rfl⟩
  · refine x_iload_n 1 dX6_wet_8 rfl ?_
    refine x_aload_n 0 dX6_wet_9 rfl ?_
    refine x_iload_n 2 dX6_wet_10 rfl ?_
    refine ca_X6_153 [.int (wh)] [.int (v)] (c_X6_grownThousand (ga) (gl) (wh) hKo hvga hvgl) hKo rfl dX6_wet_11 rfl rfl ⟨(Nat.le_of_ble_eq_true rfl), (Nat.le_of_ble_eq_true rfl), (Nat.le_of_ble_eq_true rfl), (Nat.le_of_ble_eq_true rfl), (Nat.le_of_ble_eq_true rfl)⟩ (fun v T hq => ?_)
    obtain ⟨rfl, rfl⟩ := hq
    refine x_imul dX6_wet_14 ?_
    refine x_sipush 1000 dX6_wet_15 (by decide) ?_
    refine ca_X6_156 [.int ((v * (f_X6_grownThousand ga gl wh))), .int (1000)] [] (c_X6_roundBy ((v * (f_X6_grownThousand ga gl wh))) (1000)) rfl dX6_wet_18 rfl rfl ⟨(Nat.le_of_ble_eq_true rfl), (Nat.le_of_ble_eq_true rfl), (Nat.le_of_ble_eq_true rfl), (Nat.le_of_ble_eq_true rfl), (Nat.le_of_ble_eq_true rfl)⟩ (fun v T hq => ?_)
    obtain ⟨rfl, rfl⟩ := hq
    refine x_goto 25 dX6_wet_21 (by decide) ?_
    exact x_ireturn dX6_wet_25 rfl (Nat.le_of_ble_eq_true rfl) (Nat.le_of_ble_eq_true rfl) ⟨by rw [f_X6_wet, if_neg c1], rfl⟩
def f_X6_sideOf (wd : Int32) (lon : Int32) (g : Int32) : Int32 := ((2 * (f_X6_rest ((lon - (g * wd))) 360)) - wd)
set_option maxRecDepth 100000 in
theorem c_X6_sideOf {k : KT} {S : HS} {o : Nat}  (wd : Int32) (lon : Int32) (g : Int32) (hKo : gK S o = 8) (hvwd : gI S 224 o = wd)  : Ct k (mt_X6_sideOf (rm 3 0 0)) [.ref (o), .int (lon), .int (g)] S (Pu (f_X6_sideOf wd lon g) S) := by
  refine Ct.ofF (by decide +kernel) (Nat.le_of_ble_eq_true rfl) ?_
  refine x_lv [(0, .ref (o)), (1, .int (lon)), (2, .int (g))] [0, 1, 2] rfl ?_
  refine x_iconst 2 dX6_sideOf_0 (by decide) ?_
  refine x_iload_n 1 dX6_sideOf_1 rfl ?_
  refine x_iload_n 2 dX6_sideOf_2 rfl ?_
  refine x_aload_n 0 dX6_sideOf_3 rfl ?_
  refine gf_X6_34 rfl dX6_sideOf_4 hKo ?_
  rw [show gI (S) 224 (o) = wd from hvwd]
  refine x_imul dX6_sideOf_7 ?_
  refine x_isub dX6_sideOf_8 ?_
  refine x_sipush 360 dX6_sideOf_9 (by decide) ?_
  refine ca_X6_247 [.int ((lon - (g * wd))), .int (360)] [.int (2)] (c_X6_rest ((lon - (g * wd))) (360)) rfl dX6_sideOf_12 rfl rfl ⟨(Nat.le_of_ble_eq_true rfl), (Nat.le_of_ble_eq_true rfl), (Nat.le_of_ble_eq_true rfl), (Nat.le_of_ble_eq_true rfl), (Nat.le_of_ble_eq_true rfl)⟩ (fun v T hq => ?_)
  obtain ⟨rfl, rfl⟩ := hq
  refine x_imul dX6_sideOf_15 ?_
  refine x_aload_n 0 dX6_sideOf_16 rfl ?_
  refine x_at 17 rfl ?_
  refine gf_X6_34 rfl dX6_sideOf_17 hKo ?_
  rw [show gI (S) 224 (o) = wd from hvwd]
  refine x_isub dX6_sideOf_20 ?_
  exact x_ireturn dX6_sideOf_21 rfl (Nat.le_of_ble_eq_true rfl) (Nat.le_of_ble_eq_true rfl) ⟨by rw [f_X6_sideOf], rfl⟩
def f_X6_goneFromEdge (wd : Int32) (lon : Int32) (dr : Int32) : Int32 := (f_X6_rest ((dr * lon)) wd)
set_option maxRecDepth 100000 in
theorem c_X6_goneFromEdge {k : KT} {S : HS} {o : Nat} {t : Nat}  (wd : Int32) (lon : Int32) (dr : Int32) (hKo : gK S o = 8) (hvwd : gI S 224 o = wd) (hKt : gK S t = 7) (hvlon : gI S 192 t = lon) (hvdr : gI S 196 t = dr)  : Ct k (mt_X6_goneFromEdge (rm 3 0 0)) [.ref (o), .ref (t)] S (Pu (f_X6_goneFromEdge wd lon dr) S) := by
  refine Ct.ofF (by decide +kernel) (Nat.le_of_ble_eq_true rfl) ?_
  refine x_lv [(0, .ref (o)), (1, .ref (t))] [0, 1] rfl ?_
  refine x_aload_n 1 dX6_goneFromEdge_0 rfl ?_
  refine gf_X6_250 rfl dX6_goneFromEdge_1 hKt ?_
  rw [show gI (S) 196 (t) = dr from hvdr]
  refine x_aload_n 1 dX6_goneFromEdge_4 rfl ?_
  refine gf_X6_253 rfl dX6_goneFromEdge_5 hKt ?_
  rw [show gI (S) 192 (t) = lon from hvlon]
  refine x_imul dX6_goneFromEdge_8 ?_
  refine x_aload_n 0 dX6_goneFromEdge_9 rfl ?_
  refine gf_X6_34 rfl dX6_goneFromEdge_10 hKo ?_
  rw [show gI (S) 224 (o) = wd from hvwd]
  refine ca_X6_247 [.int ((dr * lon)), .int (wd)] [] (c_X6_rest ((dr * lon)) (wd)) rfl dX6_goneFromEdge_13 rfl rfl ⟨(Nat.le_of_ble_eq_true rfl), (Nat.le_of_ble_eq_true rfl), (Nat.le_of_ble_eq_true rfl), (Nat.le_of_ble_eq_true rfl), (Nat.le_of_ble_eq_true rfl)⟩ (fun v T hq => ?_)
  obtain ⟨rfl, rfl⟩ := hq
  exact x_ireturn dX6_goneFromEdge_16 rfl (Nat.le_of_ble_eq_true rfl) (Nat.le_of_ble_eq_true rfl) ⟨by rw [f_X6_goneFromEdge], rfl⟩
def f_X6_piecesOf (wd : Int32) (lon : Int32) (ln : Int32) (dr : Int32) : Int32 := (if ln = 0 then (if (f_X6_goneFromEdge wd lon dr) = 0 then 2 else 1) else (f_X6_wholes (((((f_X6_goneFromEdge wd lon dr) + ln) + wd) - 1)) wd))
set_option maxRecDepth 100000 in
theorem c_X6_piecesOf {k : KT} {S : HS} {o : Nat} {t : Nat}  (wd : Int32) (lon : Int32) (ln : Int32) (dr : Int32) (hKo : gK S o = 8) (hvwd : gI S 224 o = wd) (hKt : gK S t = 7) (hvlon : gI S 192 t = lon) (hvln : gI S 195 t = ln) (hvdr : gI S 196 t = dr)  : Ct k (mt_X6_piecesOf (rm 4 0 0)) [.ref (o), .ref (t)] S (Pu (f_X6_piecesOf wd lon ln dr) S) := by
  refine Ct.ofF (by decide +kernel) (Nat.le_of_ble_eq_true rfl) ?_
  refine x_lv [(0, .ref (o)), (1, .ref (t))] [0, 1] rfl ?_
  refine x_aload_n 0 dX6_piecesOf_0 rfl ?_
  refine x_aload_n 1 dX6_piecesOf_1 rfl ?_
  refine ca_X6_254 [.ref (t)] [] (c_X6_goneFromEdge (wd) (lon) (dr)  hKo hvwd hKt hvlon hvdr) hKo rfl dX6_piecesOf_2 rfl rfl ⟨(Nat.le_of_ble_eq_true rfl), (Nat.le_of_ble_eq_true rfl), (Nat.le_of_ble_eq_true rfl), (Nat.le_of_ble_eq_true rfl), (Nat.le_of_ble_eq_true rfl)⟩ (fun v T hq => ?_)
  obtain ⟨rfl, rfl⟩ := hq
  refine x_istore_n [(2, .int ((f_X6_goneFromEdge wd lon dr))), (0, .ref (o)), (1, .ref (t))] dX6_piecesOf_5 (Nat.le_of_ble_eq_true rfl) rfl ?_
  refine x_aload_n 2 dX6_piecesOf_6 rfl ?_
  refine gf_X6_85 rfl dX6_piecesOf_7 hKt ?_
  rw [show gI (S) 195 (t) = ln from hvln]
  refine x_if_ne 23 dX6_piecesOf_10 (by decide) (fun c1 => ?_) (fun c1 => ?_)
  · refine x_iload_n 0 dX6_piecesOf_23 rfl ?_
    refine x_aload_n 2 dX6_piecesOf_24 rfl ?_
    refine gf_X6_85 rfl dX6_piecesOf_25 hKt ?_
    rw [show gI (S) 195 (t) = ln from hvln]
    refine x_iadd dX6_piecesOf_28 ?_
    refine x_aload_n 1 dX6_piecesOf_29 rfl ?_
    refine gf_X6_34 rfl dX6_piecesOf_30 hKo ?_
    rw [show gI (S) 224 (o) = wd from hvwd]
    refine x_iadd dX6_piecesOf_33 ?_
    refine x_iconst 1 dX6_piecesOf_34 (by decide) ?_
    refine x_isub dX6_piecesOf_35 ?_
    refine x_aload_n 1 dX6_piecesOf_36 rfl ?_
    refine gf_X6_34 rfl dX6_piecesOf_37 hKo ?_
    rw [show gI (S) 224 (o) = wd from hvwd]
    refine x_at 40 rfl ?_
    refine ca_X6_30 [.int (((((f_X6_goneFromEdge wd lon dr) + ln) + wd) - 1)), .int (wd)] [] (c_X6_wholes (((((f_X6_goneFromEdge wd lon dr) + ln) + wd) - 1)) (wd)) rfl dX6_piecesOf_40 rfl rfl ⟨(Nat.le_of_ble_eq_true rfl), (Nat.le_of_ble_eq_true rfl), (Nat.le_of_ble_eq_true rfl), (Nat.le_of_ble_eq_true rfl), (Nat.le_of_ble_eq_true rfl)⟩ (fun v T hq => ?_)
    obtain ⟨rfl, rfl⟩ := hq
    exact x_ireturn dX6_piecesOf_43 rfl (Nat.le_of_ble_eq_true rfl) (Nat.le_of_ble_eq_true rfl) ⟨by rw [f_X6_piecesOf, if_neg c1], rfl⟩
  · refine x_iload_n 0 dX6_piecesOf_13 rfl ?_
    refine x_if_ne 21 dX6_piecesOf_14 (by decide) (fun c2 => ?_) (fun c2 => ?_)
    · refine x_iconst 1 dX6_piecesOf_21 (by decide) ?_
      exact x_ireturn dX6_piecesOf_22 rfl (Nat.le_of_ble_eq_true rfl) (Nat.le_of_ble_eq_true rfl) ⟨by rw [f_X6_piecesOf, if_pos c1, if_neg c2], rfl⟩
    · refine x_iconst 2 dX6_piecesOf_17 (by decide) ?_
      refine x_goto 22 dX6_piecesOf_18 (by decide) ?_
      exact x_ireturn dX6_piecesOf_22 rfl (Nat.le_of_ble_eq_true rfl) (Nat.le_of_ble_eq_true rfl) ⟨by rw [f_X6_piecesOf, if_pos c1, if_pos c2], rfl⟩
def f_X0_isAt (clon : Int32) (clat : Int32) (lon : Int32) (lat : Int32) : Int32 := (if clon = lon then (if clat = lat then 1 else 0) else 0)
set_option maxRecDepth 100000 in
theorem c_X0_isAt {k : KT} {S : HS} {o : Nat}  (clon : Int32) (clat : Int32) (lon : Int32) (lat : Int32) (hKo : gK S o = 2) (hvclon : gI S 32 o = clon) (hvclat : gI S 33 o = clat)  : Ct k (mt_X0_isAt (rm 1 0 0)) [.ref (o), .int (lon), .int (lat)] S (Pu (f_X0_isAt clon clat lon lat) S) := by
  refine Ct.ofF (by decide +kernel) (Nat.le_of_ble_eq_true rfl) ?_
  refine x_lv [(0, .ref (o)), (1, .int (lon)), (2, .int (lat))] [0, 1, 2] rfl ?_
  refine x_aload_n 0 dX0_isAt_0 rfl ?_
  refine gf_X0_7 rfl dX0_isAt_1 hKo ?_
  rw [show gI (S) 32 (o) = clon from hvclon]
  refine x_iload_n 1 dX0_isAt_4 rfl ?_
  refine x_icmp_ne 20 dX0_isAt_5 (by decide) (fun c1 => ?_) (fun c1 => ?_)
  · refine x_iconst 0 dX0_isAt_20 (by decide) ?_
    exact x_zreturn dX0_isAt_21 rfl (by decide) (Nat.le_of_ble_eq_true rfl) (Nat.le_of_ble_eq_true rfl) ⟨by rw [f_X0_isAt, if_neg c1], rfl⟩
  · refine x_aload_n 0 dX0_isAt_8 rfl ?_
    refine gf_X0_13 rfl dX0_isAt_9 hKo ?_
    rw [show gI (S) 33 (o) = clat from hvclat]
    refine x_iload_n 2 dX0_isAt_12 rfl ?_
    refine x_icmp_ne 20 dX0_isAt_13 (by decide) (fun c2 => ?_) (fun c2 => ?_)
    · refine x_iconst 0 dX0_isAt_20 (by decide) ?_
      exact x_zreturn dX0_isAt_21 rfl (by decide) (Nat.le_of_ble_eq_true rfl) (Nat.le_of_ble_eq_true rfl) ⟨by rw [f_X0_isAt, if_pos c1, if_neg c2], rfl⟩
    · refine x_iconst 1 dX0_isAt_16 (by decide) ?_
      refine x_goto 21 dX0_isAt_17 (by decide) ?_
      exact x_zreturn dX0_isAt_21 rfl (by decide) (Nat.le_of_ble_eq_true rfl) (Nat.le_of_ble_eq_true rfl) ⟨by rw [f_X0_isAt, if_pos c1, if_pos c2], rfl⟩
def f_X5_longitudeAt (lon : Int32) (dr : Int32) (g : Int32) : Int32 := (lon + (dr * g))
set_option maxRecDepth 100000 in
theorem c_X5_longitudeAt {k : KT} {S : HS} {o : Nat}  (lon : Int32) (dr : Int32) (g : Int32) (hKo : gK S o = 7) (hvlon : gI S 192 o = lon) (hvdr : gI S 196 o = dr)  : Ct k (mt_X5_longitudeAt (rm 1 0 0)) [.ref (o), .int (g)] S (Pu (f_X5_longitudeAt lon dr g) S) := by
  refine Ct.ofF (by decide +kernel) (Nat.le_of_ble_eq_true rfl) ?_
  refine x_lv [(0, .ref (o)), (1, .int (g))] [0, 1] rfl ?_
  refine x_aload_n 0 dX5_longitudeAt_0 rfl ?_
  refine gf_X5_15 rfl dX5_longitudeAt_1 hKo ?_
  rw [show gI (S) 192 (o) = lon from hvlon]
  refine x_aload_n 0 dX5_longitudeAt_4 rfl ?_
  refine gf_X5_31 rfl dX5_longitudeAt_5 hKo ?_
  rw [show gI (S) 196 (o) = dr from hvdr]
  refine x_iload_n 1 dX5_longitudeAt_8 rfl ?_
  refine x_imul dX5_longitudeAt_9 ?_
  refine x_iadd dX5_longitudeAt_10 ?_
  exact x_ireturn dX5_longitudeAt_11 rfl (Nat.le_of_ble_eq_true rfl) (Nat.le_of_ble_eq_true rfl) ⟨by rw [f_X5_longitudeAt], rfl⟩
def f_X5_heightAt (ht : Int32) (ri : Int32) (ln : Int32) (g : Int32) : Int32 := (ht + (f_X6_roundBy ((ri * g)) ln))
set_option maxRecDepth 100000 in
theorem c_X5_heightAt {k : KT} {S : HS} {o : Nat}  (ht : Int32) (ri : Int32) (ln : Int32) (g : Int32) (hKo : gK S o = 7) (hvht : gI S 193 o = ht) (hvri : gI S 194 o = ri) (hvln : gI S 195 o = ln)  : Ct k (mt_X5_heightAt (rm 4 0 0)) [.ref (o), .int (g)] S (Pu (f_X5_heightAt ht ri ln g) S) := by
  refine Ct.ofF (by decide +kernel) (Nat.le_of_ble_eq_true rfl) ?_
  refine x_lv [(0, .ref (o)), (1, .int (g))] [0, 1] rfl ?_
  refine x_aload_n 0 dX5_heightAt_0 rfl ?_
  refine gf_X5_21 rfl dX5_heightAt_1 hKo ?_
  rw [show gI (S) 193 (o) = ht from hvht]
  refine x_aload_n 0 dX5_heightAt_4 rfl ?_
  refine gf_X5_24 rfl dX5_heightAt_5 hKo ?_
  rw [show gI (S) 194 (o) = ri from hvri]
  refine x_iload_n 1 dX5_heightAt_8 rfl ?_
  refine x_imul dX5_heightAt_9 ?_
  refine x_aload_n 0 dX5_heightAt_10 rfl ?_
  refine gf_X5_39 rfl dX5_heightAt_11 hKo ?_
  rw [show gI (S) 195 (o) = ln from hvln]
  refine ca_X5_42 [.int ((ri * g)), .int (ln)] [.int (ht)] (c_X6_roundBy ((ri * g)) (ln)) rfl dX5_heightAt_14 rfl rfl ⟨(Nat.le_of_ble_eq_true rfl), (Nat.le_of_ble_eq_true rfl), (Nat.le_of_ble_eq_true rfl), (Nat.le_of_ble_eq_true rfl), (Nat.le_of_ble_eq_true rfl)⟩ (fun v T hq => ?_)
  obtain ⟨rfl, rfl⟩ := hq
  refine x_iadd dX5_heightAt_17 ?_
  exact x_ireturn dX5_heightAt_18 rfl (Nat.le_of_ble_eq_true rfl) (Nat.le_of_ble_eq_true rfl) ⟨by rw [f_X5_heightAt], rfl⟩
def f_X2_allows (wa : Int32) (w : Int32) : Int32 := (if w < 0 then 0 else (if 4 < w then 0 else (if ((wa >>> (w &&& 31)) &&& 1) = 1 then 1 else 0)))
set_option maxRecDepth 100000 in
theorem c_X2_allows {k : KT} {S : HS} {o : Nat}  (wa : Int32) (w : Int32) (hKo : gK S o = 4) (hvwa : gI S 102 o = wa)  : Ct k (mt_X2_allows (rm 1 0 0)) [.ref (o), .int (w)] S (Pu (f_X2_allows wa w) S) := by
  refine Ct.ofF (by decide +kernel) (Nat.le_of_ble_eq_true rfl) ?_
  refine x_lv [(0, .ref (o)), (1, .int (w))] [0, 1] rfl ?_
  refine x_iload_n 1 dX2_allows_0 rfl ?_
  refine x_if_lt 25 dX2_allows_1 (by decide) (fun c1 => ?_) (fun c1 => ?_)
  · refine x_iconst 0 dX2_allows_25 (by decide) ?_
    exact x_zreturn dX2_allows_26 rfl (by decide) (Nat.le_of_ble_eq_true rfl) (Nat.le_of_ble_eq_true rfl) ⟨by rw [f_X2_allows, if_pos c1], rfl⟩
  · refine x_iload_n 1 dX2_allows_4 rfl ?_
    refine x_iconst 4 dX2_allows_5 (by decide) ?_
    refine x_icmp_gt 25 dX2_allows_6 (by decide) (fun c2 => ?_) (fun c2 => ?_)
    · refine x_iconst 0 dX2_allows_25 (by decide) ?_
      exact x_zreturn dX2_allows_26 rfl (by decide) (Nat.le_of_ble_eq_true rfl) (Nat.le_of_ble_eq_true rfl) ⟨by rw [f_X2_allows, if_neg c1, if_pos c2], rfl⟩
    · refine x_aload_n 0 dX2_allows_9 rfl ?_
      refine gf_X2_30 rfl dX2_allows_10 hKo ?_
      rw [show gI (S) 102 (o) = wa from hvwa]
      refine x_iload_n 1 dX2_allows_13 rfl ?_
      refine x_ishr dX2_allows_14 ?_
      refine x_iconst 1 dX2_allows_15 (by decide) ?_
      refine x_iand dX2_allows_16 ?_
      refine x_iconst 1 dX2_allows_17 (by decide) ?_
      refine x_icmp_ne 25 dX2_allows_18 (by decide) (fun c3 => ?_) (fun c3 => ?_)
      · refine x_iconst 0 dX2_allows_25 (by decide) ?_
        exact x_zreturn dX2_allows_26 rfl (by decide) (Nat.le_of_ble_eq_true rfl) (Nat.le_of_ble_eq_true rfl) ⟨by rw [f_X2_allows, if_neg c1, if_neg c2, if_neg c3], rfl⟩
      · refine x_iconst 1 dX2_allows_21 (by decide) ?_
        refine x_goto 26 dX2_allows_22 (by decide) ?_
        exact x_zreturn dX2_allows_26 rfl (by decide) (Nat.le_of_ble_eq_true rfl) (Nat.le_of_ble_eq_true rfl) ⟨by rw [f_X2_allows, if_neg c1, if_neg c2, if_pos c3], rfl⟩
def f_X2_costOf (pr : Int32) (w : Int32) : Int32 := (if w = 4 then pr else w)
set_option maxRecDepth 100000 in
theorem c_X2_costOf {k : KT} {S : HS} {o : Nat}  (pr : Int32) (w : Int32) (hKo : gK S o = 4) (hvpr : gI S 101 o = pr)  : Ct k (mt_X2_costOf (rm 1 0 0)) [.ref (o), .int (w)] S (Pu (f_X2_costOf pr w) S) := by
  refine Ct.ofF (by decide +kernel) (Nat.le_of_ble_eq_true rfl) ?_
  refine x_lv [(0, .ref (o)), (1, .int (w))] [0, 1] rfl ?_
  refine x_iload_n 1 dX2_costOf_0 rfl ?_
  refine x_iconst 4 dX2_costOf_1 (by decide) ?_
  refine x_icmp_ne 12 dX2_costOf_2 (by decide) (fun c1 => ?_) (fun c1 => ?_)
  · refine x_iload_n 1 dX2_costOf_12 rfl ?_
    exact x_ireturn dX2_costOf_13 rfl (Nat.le_of_ble_eq_true rfl) (Nat.le_of_ble_eq_true rfl) ⟨by rw [f_X2_costOf, if_neg c1], rfl⟩
  · refine x_aload_n 0 dX2_costOf_5 rfl ?_
    refine gf_X2_27 rfl dX2_costOf_6 hKo ?_
    rw [show gI (S) 101 (o) = pr from hvpr]
    refine x_goto 13 dX2_costOf_9 (by decide) ?_
    exact x_ireturn dX2_costOf_13 rfl (Nat.le_of_ble_eq_true rfl) (Nat.le_of_ble_eq_true rfl) ⟨by rw [f_X2_costOf, if_pos c1], rfl⟩
def f_X2_left (nx : Int32) (le : Int32) (w : Int32) : Int32 := (if w = 1 then (nx - (40 * le)) else (if w = 3 then (nx - (40 * le)) else nx))
set_option maxRecDepth 100000 in
theorem c_X2_left {k : KT} {S : HS} {o : Nat}  (nx : Int32) (le : Int32) (w : Int32) (hKo : gK S o = 4) (hvnx : gI S 99 o = nx) (hvle : gI S 100 o = le)  : Ct k (mt_X2_left (rm 1 0 0)) [.ref (o), .int (w)] S (Pu (f_X2_left nx le w) S) := by
  refine Ct.ofF (by decide +kernel) (Nat.le_of_ble_eq_true rfl) ?_
  refine x_lv [(0, .ref (o)), (1, .int (w))] [0, 1] rfl ?_
  refine x_iload_n 1 dX2_left_0 rfl ?_
  refine x_iconst 1 dX2_left_1 (by decide) ?_
  refine x_icmp_eq 10 dX2_left_2 (by decide) (fun c1 => ?_) (fun c1 => ?_)
  · refine x_aload_n 0 dX2_left_10 rfl ?_
    refine gf_X2_21 rfl dX2_left_11 hKo ?_
    rw [show gI (S) 99 (o) = nx from hvnx]
    refine x_bipush 40 dX2_left_14 (by decide) ?_
    refine x_aload_n 0 dX2_left_16 rfl ?_
    refine gf_X2_24 rfl dX2_left_17 hKo ?_
    rw [show gI (S) 100 (o) = le from hvle]
    refine x_imul dX2_left_20 ?_
    refine x_isub dX2_left_21 ?_
    refine x_goto 29 dX2_left_22 (by decide) ?_
    exact x_ireturn dX2_left_29 rfl (Nat.le_of_ble_eq_true rfl) (Nat.le_of_ble_eq_true rfl) ⟨by rw [f_X2_left, if_pos c1], rfl⟩
  · refine x_iload_n 1 dX2_left_5 rfl ?_
    refine x_iconst 3 dX2_left_6 (by decide) ?_
    refine x_icmp_ne 25 dX2_left_7 (by decide) (fun c2 => ?_) (fun c2 => ?_)
    · refine x_aload_n 0 dX2_left_25 rfl ?_
      refine gf_X2_21 rfl dX2_left_26 hKo ?_
      rw [show gI (S) 99 (o) = nx from hvnx]
      exact x_ireturn dX2_left_29 rfl (Nat.le_of_ble_eq_true rfl) (Nat.le_of_ble_eq_true rfl) ⟨by rw [f_X2_left, if_neg c1, if_neg c2], rfl⟩
    · refine x_aload_n 0 dX2_left_10 rfl ?_
      refine gf_X2_21 rfl dX2_left_11 hKo ?_
      rw [show gI (S) 99 (o) = nx from hvnx]
      refine x_bipush 40 dX2_left_14 (by decide) ?_
      refine x_aload_n 0 dX2_left_16 rfl ?_
      refine gf_X2_24 rfl dX2_left_17 hKo ?_
      rw [show gI (S) 100 (o) = le from hvle]
      refine x_imul dX2_left_20 ?_
      refine x_isub dX2_left_21 ?_
      refine x_goto 29 dX2_left_22 (by decide) ?_
      exact x_ireturn dX2_left_29 rfl (Nat.le_of_ble_eq_true rfl) (Nat.le_of_ble_eq_true rfl) ⟨by rw [f_X2_left, if_neg c1, if_pos c2], rfl⟩
def f_X2_right (nx : Int32) (le : Int32) (w : Int32) : Int32 := ((f_X2_left nx le w) + (40 * le))
set_option maxRecDepth 100000 in
theorem c_X2_right {k : KT} {S : HS} {o : Nat}  (nx : Int32) (le : Int32) (w : Int32) (hKo : gK S o = 4) (hvnx : gI S 99 o = nx) (hvle : gI S 100 o = le)  : Ct k (mt_X2_right (rm 2 0 0)) [.ref (o), .int (w)] S (Pu (f_X2_right nx le w) S) := by
  refine Ct.ofF (by decide +kernel) (Nat.le_of_ble_eq_true rfl) ?_
  refine x_lv [(0, .ref (o)), (1, .int (w))] [0, 1] rfl ?_
  refine x_aload_n 0 dX2_right_0 rfl ?_
  refine x_iload_n 1 dX2_right_1 rfl ?_
  refine ca_X2_33 [.int (w)] [] (c_X2_left (nx) (le) (w) hKo hvnx hvle) hKo rfl dX2_right_2 rfl rfl ⟨(Nat.le_of_ble_eq_true rfl), (Nat.le_of_ble_eq_true rfl), (Nat.le_of_ble_eq_true rfl), (Nat.le_of_ble_eq_true rfl), (Nat.le_of_ble_eq_true rfl)⟩ (fun v T hq => ?_)
  obtain ⟨rfl, rfl⟩ := hq
  refine x_bipush 40 dX2_right_5 (by decide) ?_
  refine x_aload_n 0 dX2_right_7 rfl ?_
  refine gf_X2_24 rfl dX2_right_8 hKo ?_
  rw [show gI (S) 100 (o) = le from hvle]
  refine x_imul dX2_right_11 ?_
  refine x_iadd dX2_right_12 ?_
  exact x_ireturn dX2_right_13 rfl (Nat.le_of_ble_eq_true rfl) (Nat.le_of_ble_eq_true rfl) ⟨by rw [f_X2_right], rfl⟩
def f_X2_bottom (nh : Int32) (w : Int32) : Int32 := (if w = 2 then (nh - 80) else (if w = 3 then (nh - 80) else nh))
set_option maxRecDepth 100000 in
theorem c_X2_bottom {k : KT} {S : HS} {o : Nat}  (nh : Int32) (w : Int32) (hKo : gK S o = 4) (hvnh : gI S 98 o = nh)  : Ct k (mt_X2_bottom (rm 1 0 0)) [.ref (o), .int (w)] S (Pu (f_X2_bottom nh w) S) := by
  refine Ct.ofF (by decide +kernel) (Nat.le_of_ble_eq_true rfl) ?_
  refine x_lv [(0, .ref (o)), (1, .int (w))] [0, 1] rfl ?_
  refine x_iload_n 1 dX2_bottom_0 rfl ?_
  refine x_iconst 2 dX2_bottom_1 (by decide) ?_
  refine x_icmp_eq 10 dX2_bottom_2 (by decide) (fun c1 => ?_) (fun c1 => ?_)
  · refine x_aload_n 0 dX2_bottom_10 rfl ?_
    refine gf_X2_18 rfl dX2_bottom_11 hKo ?_
    rw [show gI (S) 98 (o) = nh from hvnh]
    refine x_bipush 80 dX2_bottom_14 (by decide) ?_
    refine x_isub dX2_bottom_16 ?_
    refine x_goto 24 dX2_bottom_17 (by decide) ?_
    exact x_ireturn dX2_bottom_24 rfl (Nat.le_of_ble_eq_true rfl) (Nat.le_of_ble_eq_true rfl) ⟨by rw [f_X2_bottom, if_pos c1], rfl⟩
  · refine x_iload_n 1 dX2_bottom_5 rfl ?_
    refine x_iconst 3 dX2_bottom_6 (by decide) ?_
    refine x_icmp_ne 20 dX2_bottom_7 (by decide) (fun c2 => ?_) (fun c2 => ?_)
    · refine x_aload_n 0 dX2_bottom_20 rfl ?_
      refine gf_X2_18 rfl dX2_bottom_21 hKo ?_
      rw [show gI (S) 98 (o) = nh from hvnh]
      exact x_ireturn dX2_bottom_24 rfl (Nat.le_of_ble_eq_true rfl) (Nat.le_of_ble_eq_true rfl) ⟨by rw [f_X2_bottom, if_neg c1, if_neg c2], rfl⟩
    · refine x_aload_n 0 dX2_bottom_10 rfl ?_
      refine gf_X2_18 rfl dX2_bottom_11 hKo ?_
      rw [show gI (S) 98 (o) = nh from hvnh]
      refine x_bipush 80 dX2_bottom_14 (by decide) ?_
      refine x_isub dX2_bottom_16 ?_
      refine x_goto 24 dX2_bottom_17 (by decide) ?_
      exact x_ireturn dX2_bottom_24 rfl (Nat.le_of_ble_eq_true rfl) (Nat.le_of_ble_eq_true rfl) ⟨by rw [f_X2_bottom, if_neg c1, if_pos c2], rfl⟩
def f_X2_covers (nh : Int32) (nx : Int32) (le : Int32) (nh2 : Int32) (nx2 : Int32) (le2 : Int32) (w : Int32) (w2 : Int32) : Int32 := (if w = 4 then 0 else (if w2 = 4 then 0 else (if (f_X2_right nx2 le2 w2) ≤ (f_X2_left nx le w) then 0 else (if (f_X2_right nx le w) ≤ (f_X2_left nx2 le2 w2) then 0 else (if 80 ≤ (if 0 ≤ ((f_X2_bottom nh w) - (f_X2_bottom nh2 w2)) then ((f_X2_bottom nh w) - (f_X2_bottom nh2 w2)) else 0 - ((f_X2_bottom nh w) - (f_X2_bottom nh2 w2))) then 0 else 1)))))
set_option maxRecDepth 100000 in
theorem c_X2_covers {k : KT} {S : HS} {o : Nat} {q : Nat}  (nh : Int32) (nx : Int32) (le : Int32) (nh2 : Int32) (nx2 : Int32) (le2 : Int32) (w : Int32) (w2 : Int32) (hKo : gK S o = 4) (hvnh : gI S 98 o = nh) (hvnx : gI S 99 o = nx) (hvle : gI S 100 o = le) (hKq : gK S q = 4) (hvnh2 : gI S 98 q = nh2) (hvnx2 : gI S 99 q = nx2) (hvle2 : gI S 100 q = le2)  : Ct k (mt_X2_covers (rm 3 0 0)) [.ref (o), .int (w), .ref (q), .int (w2)] S (Pu (f_X2_covers nh nx le nh2 nx2 le2 w w2) S) := by
  refine Ct.ofF (by decide +kernel) (Nat.le_of_ble_eq_true rfl) ?_
  refine x_lv [(0, .ref (o)), (1, .int (w)), (2, .ref (q)), (3, .int (w2))] [0, 1, 2, 3] rfl ?_
  refine x_iload_n 1 dX2_covers_0 rfl ?_
  refine x_iconst 4 dX2_covers_1 (by decide) ?_
  refine x_icmp_eq 10 dX2_covers_2 (by decide) (fun c1 => ?_) (fun c1 => ?_)
  · refine x_iconst 0 dX2_covers_10 (by decide) ?_
    exact x_zreturn dX2_covers_11 rfl (by decide) (Nat.le_of_ble_eq_true rfl) (Nat.le_of_ble_eq_true rfl) ⟨by rw [f_X2_covers, if_pos c1], rfl⟩
  · refine x_iload_n 3 dX2_covers_5 rfl ?_
    refine x_iconst 4 dX2_covers_6 (by decide) ?_
    refine x_icmp_ne 12 dX2_covers_7 (by decide) (fun c2 => ?_) (fun c2 => ?_)
    · refine x_aload_n 0 dX2_covers_12 rfl ?_
      refine x_iload_n 1 dX2_covers_13 rfl ?_
      refine ca_X2_33 [.int (w)] [] (c_X2_left (nx) (le) (w) hKo hvnx hvle) hKo rfl dX2_covers_14 rfl rfl ⟨(Nat.le_of_ble_eq_true rfl), (Nat.le_of_ble_eq_true rfl), (Nat.le_of_ble_eq_true rfl), (Nat.le_of_ble_eq_true rfl), (Nat.le_of_ble_eq_true rfl)⟩ (fun v T hq => ?_)
      obtain ⟨rfl, rfl⟩ := hq
      refine x_aload_n 2 dX2_covers_17 rfl ?_
      refine x_iload_n 3 dX2_covers_18 rfl ?_
      refine ca_X2_37 [.int (w2)] [.int ((f_X2_left nx le w))] (c_X2_right (nx2) (le2) (w2) hKq hvnx2 hvle2) hKq rfl dX2_covers_19 rfl rfl ⟨(Nat.le_of_ble_eq_true rfl), (Nat.le_of_ble_eq_true rfl), (Nat.le_of_ble_eq_true rfl), (Nat.le_of_ble_eq_true rfl), (Nat.le_of_ble_eq_true rfl)⟩ (fun v T hq => ?_)
      obtain ⟨rfl, rfl⟩ := hq
      refine x_icmp_ge 61 dX2_covers_22 (by decide) (fun c3 => ?_) (fun c3 => ?_)
      · refine x_iconst 0 dX2_covers_61 (by decide) ?_
        exact x_zreturn dX2_covers_62 rfl (by decide) (Nat.le_of_ble_eq_true rfl) (Nat.le_of_ble_eq_true rfl) ⟨by rw [f_X2_covers, if_neg c1, if_neg c2, if_pos c3], rfl⟩
      · refine x_aload_n 2 dX2_covers_25 rfl ?_
        refine x_iload_n 3 dX2_covers_26 rfl ?_
        refine ca_X2_33 [.int (w2)] [] (c_X2_left (nx2) (le2) (w2) hKq hvnx2 hvle2) hKq rfl dX2_covers_27 rfl rfl ⟨(Nat.le_of_ble_eq_true rfl), (Nat.le_of_ble_eq_true rfl), (Nat.le_of_ble_eq_true rfl), (Nat.le_of_ble_eq_true rfl), (Nat.le_of_ble_eq_true rfl)⟩ (fun v T hq => ?_)
        obtain ⟨rfl, rfl⟩ := hq
        refine x_aload_n 0 dX2_covers_30 rfl ?_
        refine x_iload_n 1 dX2_covers_31 rfl ?_
        refine ca_X2_37 [.int (w)] [.int ((f_X2_left nx2 le2 w2))] (c_X2_right (nx) (le) (w) hKo hvnx hvle) hKo rfl dX2_covers_32 rfl rfl ⟨(Nat.le_of_ble_eq_true rfl), (Nat.le_of_ble_eq_true rfl), (Nat.le_of_ble_eq_true rfl), (Nat.le_of_ble_eq_true rfl), (Nat.le_of_ble_eq_true rfl)⟩ (fun v T hq => ?_)
        obtain ⟨rfl, rfl⟩ := hq
        refine x_icmp_ge 61 dX2_covers_35 (by decide) (fun c4 => ?_) (fun c4 => ?_)
        · refine x_iconst 0 dX2_covers_61 (by decide) ?_
          exact x_zreturn dX2_covers_62 rfl (by decide) (Nat.le_of_ble_eq_true rfl) (Nat.le_of_ble_eq_true rfl) ⟨by rw [f_X2_covers, if_neg c1, if_neg c2, if_neg c3, if_pos c4], rfl⟩
        · refine x_aload_n 0 dX2_covers_38 rfl ?_
          refine x_iload_n 1 dX2_covers_39 rfl ?_
          refine ca_X2_40 [.int (w)] [] (c_X2_bottom (nh) (w) hKo hvnh) hKo rfl dX2_covers_40 rfl rfl ⟨(Nat.le_of_ble_eq_true rfl), (Nat.le_of_ble_eq_true rfl), (Nat.le_of_ble_eq_true rfl), (Nat.le_of_ble_eq_true rfl), (Nat.le_of_ble_eq_true rfl)⟩ (fun v T hq => ?_)
          obtain ⟨rfl, rfl⟩ := hq
          refine x_aload_n 2 dX2_covers_43 rfl ?_
          refine x_iload_n 3 dX2_covers_44 rfl ?_
          refine ca_X2_40 [.int (w2)] [.int ((f_X2_bottom nh w))] (c_X2_bottom (nh2) (w2) hKq hvnh2) hKq rfl dX2_covers_45 rfl rfl ⟨(Nat.le_of_ble_eq_true rfl), (Nat.le_of_ble_eq_true rfl), (Nat.le_of_ble_eq_true rfl), (Nat.le_of_ble_eq_true rfl), (Nat.le_of_ble_eq_true rfl)⟩ (fun v T hq => ?_)
          obtain ⟨rfl, rfl⟩ := hq
          refine x_isub dX2_covers_48 ?_
          refine ca_X2_43 rfl dX2_covers_49 (Nat.le_of_ble_eq_true rfl) (Nat.le_of_ble_eq_true rfl) (Nat.le_of_ble_eq_true rfl) (Nat.le_of_ble_eq_true rfl) ?_
          refine x_bipush 80 dX2_covers_52 (by decide) ?_
          refine x_at 54 rfl ?_
          refine x_icmp_ge 61 dX2_covers_54 (by decide) (fun c5 => ?_) (fun c5 => ?_)
          · refine x_iconst 0 dX2_covers_61 (by decide) ?_
            exact x_zreturn dX2_covers_62 rfl (by decide) (Nat.le_of_ble_eq_true rfl) (Nat.le_of_ble_eq_true rfl) ⟨by rw [f_X2_covers, if_neg c1, if_neg c2, if_neg c3, if_neg c4, if_pos c5], rfl⟩
          · refine x_iconst 1 dX2_covers_57 (by decide) ?_
            refine x_goto 62 dX2_covers_58 (by decide) ?_
            exact x_zreturn dX2_covers_62 rfl (by decide) (Nat.le_of_ble_eq_true rfl) (Nat.le_of_ble_eq_true rfl) ⟨by rw [f_X2_covers, if_neg c1, if_neg c2, if_neg c3, if_neg c4, if_neg c5], rfl⟩
    · refine x_iconst 0 dX2_covers_10 (by decide) ?_
      exact x_zreturn dX2_covers_11 rfl (by decide) (Nat.le_of_ble_eq_true rfl) (Nat.le_of_ble_eq_true rfl) ⟨by rw [f_X2_covers, if_neg c1, if_pos c2], rfl⟩
def f_X6_isWithinEdges (wd : Int32) (nx : Int32) (le : Int32) (w : Int32) (h : Int32) : Int32 := (if (f_X6_isHeight h) = 0 then 0 else (if (f_X2_left nx le w) < (-(f_X6_xOf wd h)) then 0 else (if (f_X6_xOf wd h) < (f_X2_right nx le w) then 0 else 1)))
set_option maxRecDepth 100000 in
theorem c_X6_isWithinEdges {k : KT} {S : HS} {o : Nat} {q : Nat}  (wd : Int32) (nx : Int32) (le : Int32) (w : Int32) (h : Int32) (hKo : gK S o = 8) (hvwd : gI S 224 o = wd) (hKq : gK S q = 4) (hvnx : gI S 99 q = nx) (hvle : gI S 100 q = le)  : Ct k (mt_X6_isWithinEdges (rm 4 0 0)) [.ref (o), .ref (q), .int (w), .int (h)] S (Pu (f_X6_isWithinEdges wd nx le w h) S) := by
  refine Ct.ofF (by decide +kernel) (Nat.le_of_ble_eq_true rfl) ?_
  refine x_lv [(0, .ref (o)), (1, .ref (q)), (2, .int (w)), (3, .int (h))] [0, 1, 2, 3] rfl ?_
  refine x_iload_n 3 dX6_isWithinEdges_0 rfl ?_
  refine ca_X6_45 [.int (h)] [] (c_X6_isHeight (h)) rfl dX6_isWithinEdges_1 rfl rfl ⟨(Nat.le_of_ble_eq_true rfl), (Nat.le_of_ble_eq_true rfl), (Nat.le_of_ble_eq_true rfl), (Nat.le_of_ble_eq_true rfl), (Nat.le_of_ble_eq_true rfl)⟩ (fun v T hq => ?_)
  obtain ⟨rfl, rfl⟩ := hq
  refine x_if_ne 9 dX6_isWithinEdges_4 (by decide) (fun c1 => ?_) (fun c1 => ?_)
  · refine x_aload_n 0 dX6_isWithinEdges_9 rfl ?_
    refine gf_X6_34 rfl dX6_isWithinEdges_10 hKo ?_
    rw [show gI (S) 224 (o) = wd from hvwd]
    refine x_iload_n 3 dX6_isWithinEdges_13 rfl ?_
    refine ca_X6_52 [.int (wd), .int (h)] [] (c_X6_xOf (wd) (h)) rfl dX6_isWithinEdges_14 rfl rfl ⟨(Nat.le_of_ble_eq_true rfl), (Nat.le_of_ble_eq_true rfl), (Nat.le_of_ble_eq_true rfl), (Nat.le_of_ble_eq_true rfl), (Nat.le_of_ble_eq_true rfl)⟩ (fun v T hq => ?_)
    obtain ⟨rfl, rfl⟩ := hq
    refine x_istore [(4, .int ((f_X6_xOf wd h))), (0, .ref (o)), (1, .ref (q)), (2, .int (w)), (3, .int (h))] dX6_isWithinEdges_17 (Nat.le_of_ble_eq_true rfl) rfl ?_
    refine x_aload_n 2 dX6_isWithinEdges_19 rfl ?_
    refine x_iload_n 3 dX6_isWithinEdges_20 rfl ?_
    refine ca_X6_290 [.int (w)] [] (c_X2_left (nx) (le) (w) hKq hvnx hvle) hKq rfl dX6_isWithinEdges_21 rfl rfl ⟨(Nat.le_of_ble_eq_true rfl), (Nat.le_of_ble_eq_true rfl), (Nat.le_of_ble_eq_true rfl), (Nat.le_of_ble_eq_true rfl), (Nat.le_of_ble_eq_true rfl)⟩ (fun v T hq => ?_)
    obtain ⟨rfl, rfl⟩ := hq
    refine x_iload 0 dX6_isWithinEdges_24 rfl ?_
    refine x_ineg dX6_isWithinEdges_26 ?_
    refine x_icmp_lt 44 dX6_isWithinEdges_27 (by decide) (fun c2 => ?_) (fun c2 => ?_)
    · refine x_iconst 0 dX6_isWithinEdges_44 (by decide) ?_
      exact x_zreturn dX6_isWithinEdges_45 rfl (by decide) (Nat.le_of_ble_eq_true rfl) (Nat.le_of_ble_eq_true rfl) ⟨by rw [f_X6_isWithinEdges, if_neg c1, if_pos c2], rfl⟩
    · refine x_aload_n 2 dX6_isWithinEdges_30 rfl ?_
      refine x_iload_n 3 dX6_isWithinEdges_31 rfl ?_
      refine ca_X6_293 [.int (w)] [] (c_X2_right (nx) (le) (w) hKq hvnx hvle) hKq rfl dX6_isWithinEdges_32 rfl rfl ⟨(Nat.le_of_ble_eq_true rfl), (Nat.le_of_ble_eq_true rfl), (Nat.le_of_ble_eq_true rfl), (Nat.le_of_ble_eq_true rfl), (Nat.le_of_ble_eq_true rfl)⟩ (fun v T hq => ?_)
      obtain ⟨rfl, rfl⟩ := hq
      refine x_iload 0 dX6_isWithinEdges_35 rfl ?_
      refine x_icmp_gt 44 dX6_isWithinEdges_37 (by decide) (fun c3 => ?_) (fun c3 => ?_)
      · refine x_iconst 0 dX6_isWithinEdges_44 (by decide) ?_
        exact x_zreturn dX6_isWithinEdges_45 rfl (by decide) (Nat.le_of_ble_eq_true rfl) (Nat.le_of_ble_eq_true rfl) ⟨by rw [f_X6_isWithinEdges, if_neg c1, if_neg c2, if_pos c3], rfl⟩
      · refine x_iconst 1 dX6_isWithinEdges_40 (by decide) ?_
        refine x_goto 45 dX6_isWithinEdges_41 (by decide) ?_
        exact x_zreturn dX6_isWithinEdges_45 rfl (by decide) (Nat.le_of_ble_eq_true rfl) (Nat.le_of_ble_eq_true rfl) ⟨by rw [f_X6_isWithinEdges, if_neg c1, if_neg c2, if_neg c3], rfl⟩
  · refine x_iconst 0 dX6_isWithinEdges_7 (by decide) ?_
    exact x_zreturn dX6_isWithinEdges_8 rfl (by decide) (Nat.le_of_ble_eq_true rfl) (Nat.le_of_ble_eq_true rfl) ⟨by rw [f_X6_isWithinEdges, if_pos c1], rfl⟩
def f_X7_round (p : Int32) (q : Int32) : Int32 := (if 0 ≤ (((2 * p) + q) - ((2 * p) + q) / (2 * q) * (2 * q)) then (((2 * p) + q) / (2 * q)) else ((((2 * p) + q) / (2 * q)) - 1))
set_option maxRecDepth 100000 in
theorem c_X7_round {k : KT} {S : HS}  (p : Int32) (q : Int32) (h0 : ¬ 2 * q = 0) : Ct k (mt_X7_round (rm 1 0 0)) [.int (p), .int (q)] S (Pu (f_X7_round p q) S) := by
  refine Ct.ofF (by decide +kernel) (Nat.le_of_ble_eq_true rfl) ?_
  refine x_lv [(0, .int (p)), (1, .int (q))] [0, 1] rfl ?_
  refine x_iconst 2 dX7_round_0 (by decide) ?_
  refine x_iload_n 0 dX7_round_1 rfl ?_
  refine x_imul dX7_round_2 ?_
  refine x_iload_n 1 dX7_round_3 rfl ?_
  refine x_iadd dX7_round_4 ?_
  refine x_istore_n [(2, .int (((2 * p) + q))), (0, .int (p)), (1, .int (q))] dX7_round_5 (Nat.le_of_ble_eq_true rfl) rfl ?_
  refine x_iconst 2 dX7_round_6 (by decide) ?_
  refine x_iload_n 2 dX7_round_7 rfl ?_
  refine x_imul dX7_round_8 ?_
  refine x_istore_n [(3, .int ((2 * q))), (2, .int (((2 * p) + q))), (0, .int (p)), (1, .int (q))] dX7_round_9 (Nat.le_of_ble_eq_true rfl) rfl ?_
  refine x_iload_n 1 dX7_round_10 rfl ?_
  refine x_at 11 rfl ?_
  refine x_iload_n 0 dX7_round_11 rfl ?_
  refine x_idiv dX7_round_12 h0 ?_
  refine x_istore [(4, .int ((((2 * p) + q) / (2 * q)))), (3, .int ((2 * q))), (2, .int (((2 * p) + q))), (0, .int (p)), (1, .int (q))] dX7_round_13 (Nat.le_of_ble_eq_true rfl) rfl ?_
  refine x_iload_n 2 dX7_round_15 rfl ?_
  refine x_iload_n 1 dX7_round_16 rfl ?_
  refine x_irem dX7_round_17 h0 ?_
  refine x_if_ge 28 dX7_round_18 (by decide) (fun c1 => ?_) (fun c1 => ?_)
  · refine x_iload 0 dX7_round_28 rfl ?_
    exact x_ireturn dX7_round_30 rfl (Nat.le_of_ble_eq_true rfl) (Nat.le_of_ble_eq_true rfl) ⟨by rw [f_X7_round, if_pos c1], rfl⟩
  · refine x_iload 0 dX7_round_21 rfl ?_
    refine x_iconst 1 dX7_round_23 (by decide) ?_
    refine x_isub dX7_round_24 ?_
    refine x_goto 30 dX7_round_25 (by decide) ?_
    exact x_ireturn dX7_round_30 rfl (Nat.le_of_ble_eq_true rfl) (Nat.le_of_ble_eq_true rfl) ⟨by rw [f_X7_round, if_neg c1], rfl⟩
