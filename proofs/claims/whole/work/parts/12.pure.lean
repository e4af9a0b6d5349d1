def f_X6_isPlace (lon : Int32) (lat : Int32) : Int32 := (if lon < 0 then 0 else (if 360 ≤ lon then 0 else (if lat < (-90) then 0 else (if 90 < lat then 0 else 1))))
set_option maxRecDepth 100000 in
theorem c_X6_isPlace {k : KT} {S : HS}  (lon : Int32) (lat : Int32)  : Ct k (mt_X6_isPlace (rm 1 0 0)) [.int (lon), .int (lat)] S (Pu (f_X6_isPlace lon lat) S) := by
  refine Ct.of (by decide) (Nat.le_of_ble_eq_true rfl) ?_
  refine x_lv [(0, .int (lon)), (1, .int (lat))] [0, 1] rfl ?_
  refine x_iload_n 0 dX6_isPlace_0 rfl ?_
  refine x_if_lt 27 dX6_isPlace_1 (by decide) (fun c1 => ?_) (fun c1 => ?_)
  · refine x_iconst 0 dX6_isPlace_27 (by decide) ?_
    exact x_zreturn dX6_isPlace_28 rfl (by decide) (Nat.le_of_ble_eq_true rfl) (Nat.le_of_ble_eq_true rfl) ⟨by rw [f_X6_isPlace, if_pos c1], rfl⟩
  · refine x_iload_n 0 dX6_isPlace_4 rfl ?_
    refine x_sipush 360 dX6_isPlace_5 (by decide) ?_
    refine x_icmp_ge 27 dX6_isPlace_8 (by decide) (fun c2 => ?_) (fun c2 => ?_)
    · refine x_iconst 0 dX6_isPlace_27 (by decide) ?_
      exact x_zreturn dX6_isPlace_28 rfl (by decide) (Nat.le_of_ble_eq_true rfl) (Nat.le_of_ble_eq_true rfl) ⟨by rw [f_X6_isPlace, if_neg c1, if_pos c2], rfl⟩
    · refine x_iload_n 1 dX6_isPlace_11 rfl ?_
      refine x_bipush (-90) dX6_isPlace_12 (by decide) ?_
      refine x_icmp_lt 27 dX6_isPlace_14 (by decide) (fun c3 => ?_) (fun c3 => ?_)
      · refine x_iconst 0 dX6_isPlace_27 (by decide) ?_
        exact x_zreturn dX6_isPlace_28 rfl (by decide) (Nat.le_of_ble_eq_true rfl) (Nat.le_of_ble_eq_true rfl) ⟨by rw [f_X6_isPlace, if_neg c1, if_neg c2, if_pos c3], rfl⟩
      · refine x_iload_n 1 dX6_isPlace_17 rfl ?_
        refine x_bipush 90 dX6_isPlace_18 (by decide) ?_
        refine x_icmp_gt 27 dX6_isPlace_20 (by decide) (fun c4 => ?_) (fun c4 => ?_)
        · refine x_iconst 0 dX6_isPlace_27 (by decide) ?_
          exact x_zreturn dX6_isPlace_28 rfl (by decide) (Nat.le_of_ble_eq_true rfl) (Nat.le_of_ble_eq_true rfl) ⟨by rw [f_X6_isPlace, if_neg c1, if_neg c2, if_neg c3, if_pos c4], rfl⟩
        · refine x_iconst 1 dX6_isPlace_23 (by decide) ?_
          refine x_goto 28 dX6_isPlace_24 (by decide) ?_
          exact x_zreturn dX6_isPlace_28 rfl (by decide) (Nat.le_of_ble_eq_true rfl) (Nat.le_of_ble_eq_true rfl) ⟨by rw [f_X6_isPlace, if_neg c1, if_neg c2, if_neg c3, if_neg c4], rfl⟩
def f_X6_isHeight (h : Int32) : Int32 := (if h < (-5400) then 0 else (if 5400 < h then 0 else 1))
set_option maxRecDepth 100000 in
theorem c_X6_isHeight {k : KT} {S : HS}  (h : Int32)  : Ct k (mt_X6_isHeight (rm 1 0 0)) [.int (h)] S (Pu (f_X6_isHeight h) S) := by
  refine Ct.of (by decide) (Nat.le_of_ble_eq_true rfl) ?_
  refine x_lv [(0, .int (h))] [0] rfl ?_
  refine x_iload_n 0 dX6_isHeight_0 rfl ?_
  refine x_sipush (-5400) dX6_isHeight_1 (by decide) ?_
  refine x_icmp_lt 18 dX6_isHeight_4 (by decide) (fun c1 => ?_) (fun c1 => ?_)
  · refine x_iconst 0 dX6_isHeight_18 (by decide) ?_
    exact x_zreturn dX6_isHeight_19 rfl (by decide) (Nat.le_of_ble_eq_true rfl) (Nat.le_of_ble_eq_true rfl) ⟨by rw [f_X6_isHeight, if_pos c1], rfl⟩
  · refine x_iload_n 0 dX6_isHeight_7 rfl ?_
    refine x_sipush 5400 dX6_isHeight_8 (by decide) ?_
    refine x_icmp_gt 18 dX6_isHeight_11 (by decide) (fun c2 => ?_) (fun c2 => ?_)
    · refine x_iconst 0 dX6_isHeight_18 (by decide) ?_
      exact x_zreturn dX6_isHeight_19 rfl (by decide) (Nat.le_of_ble_eq_true rfl) (Nat.le_of_ble_eq_true rfl) ⟨by rw [f_X6_isHeight, if_neg c1, if_pos c2], rfl⟩
    · refine x_iconst 1 dX6_isHeight_14 (by decide) ?_
      refine x_goto 19 dX6_isHeight_15 (by decide) ?_
      exact x_zreturn dX6_isHeight_19 rfl (by decide) (Nat.le_of_ble_eq_true rfl) (Nat.le_of_ble_eq_true rfl) ⟨by rw [f_X6_isHeight, if_neg c1, if_neg c2], rfl⟩
def f_X6_isGrowth (g : Int32) : Int32 := (if g < 0 then 0 else (if 50 < g then 0 else 1))
set_option maxRecDepth 100000 in
theorem c_X6_isGrowth {k : KT} {S : HS}  (g : Int32)  : Ct k (mt_X6_isGrowth (rm 1 0 0)) [.int (g)] S (Pu (f_X6_isGrowth g) S) := by
  refine Ct.of (by decide) (Nat.le_of_ble_eq_true rfl) ?_
  refine x_lv [(0, .int (g))] [0] rfl ?_
  refine x_iload_n 0 dX6_isGrowth_0 rfl ?_
  refine x_if_lt 14 dX6_isGrowth_1 (by decide) (fun c1 => ?_) (fun c1 => ?_)
  · refine x_iconst 0 dX6_isGrowth_14 (by decide) ?_
    exact x_zreturn dX6_isGrowth_15 rfl (by decide) (Nat.le_of_ble_eq_true rfl) (Nat.le_of_ble_eq_true rfl) ⟨by rw [f_X6_isGrowth, if_pos c1], rfl⟩
  · refine x_iload_n 0 dX6_isGrowth_4 rfl ?_
    refine x_bipush 50 dX6_isGrowth_5 (by decide) ?_
    refine x_icmp_gt 14 dX6_isGrowth_7 (by decide) (fun c2 => ?_) (fun c2 => ?_)
    · refine x_iconst 0 dX6_isGrowth_14 (by decide) ?_
      exact x_zreturn dX6_isGrowth_15 rfl (by decide) (Nat.le_of_ble_eq_true rfl) (Nat.le_of_ble_eq_true rfl) ⟨by rw [f_X6_isGrowth, if_neg c1, if_pos c2], rfl⟩
    · refine x_iconst 1 dX6_isGrowth_10 (by decide) ?_
      refine x_goto 15 dX6_isGrowth_11 (by decide) ?_
      exact x_zreturn dX6_isGrowth_15 rfl (by decide) (Nat.le_of_ble_eq_true rfl) (Nat.le_of_ble_eq_true rfl) ⟨by rw [f_X6_isGrowth, if_neg c1, if_neg c2], rfl⟩
def f_X6_isOnPaper (v : Int32) (wh : Int32) : Int32 := (if wh = 0 then (if v < (-10000) then 0 else (if 10000 < v then 0 else 1)) else (if wh = 1 then (if v < (-10000) then 0 else (if 10000 < v then 0 else 1)) else 0))
set_option maxRecDepth 100000 in
theorem c_X6_isOnPaper {k : KT} {S : HS}  (v : Int32) (wh : Int32)  : Ct k (mt_X6_isOnPaper (rm 1 0 0)) [.int (v), .int (wh)] S (Pu (f_X6_isOnPaper v wh) S) := by
  refine Ct.of (by decide) (Nat.le_of_ble_eq_true rfl) ?_
  refine x_lv [(0, .int (v)), (1, .int (wh))] [0, 1] rfl ?_
  refine x_iload_n 1 dX6_isOnPaper_0 rfl ?_
  refine x_if_eq 9 dX6_isOnPaper_1 (by decide) (fun c1 => ?_) (fun c1 => ?_)
  · refine x_iload_n 0 dX6_isOnPaper_9 rfl ?_
    refine x_sipush (-10000) dX6_isOnPaper_10 (by decide) ?_
    refine x_icmp_lt 27 dX6_isOnPaper_13 (by decide) (fun c2 => ?_) (fun c2 => ?_)
    · refine x_iconst 0 dX6_isOnPaper_27 (by decide) ?_
      exact x_zreturn dX6_isOnPaper_28 rfl (by decide) (Nat.le_of_ble_eq_true rfl) (Nat.le_of_ble_eq_true rfl) ⟨by rw [f_X6_isOnPaper, if_pos c1, if_pos c2], rfl⟩
    · refine x_iload_n 0 dX6_isOnPaper_16 rfl ?_
      refine x_sipush 10000 dX6_isOnPaper_17 (by decide) ?_
      refine x_icmp_gt 27 dX6_isOnPaper_20 (by decide) (fun c3 => ?_) (fun c3 => ?_)
      · refine x_iconst 0 dX6_isOnPaper_27 (by decide) ?_
        exact x_zreturn dX6_isOnPaper_28 rfl (by decide) (Nat.le_of_ble_eq_true rfl) (Nat.le_of_ble_eq_true rfl) ⟨by rw [f_X6_isOnPaper, if_pos c1, if_neg c2, if_pos c3], rfl⟩
      · refine x_iconst 1 dX6_isOnPaper_23 (by decide) ?_
        refine x_goto 28 dX6_isOnPaper_24 (by decide) ?_
        exact x_zreturn dX6_isOnPaper_28 rfl (by decide) (Nat.le_of_ble_eq_true rfl) (Nat.le_of_ble_eq_true rfl) ⟨by rw [f_X6_isOnPaper, if_pos c1, if_neg c2, if_neg c3], rfl⟩
  · refine x_iload_n 1 dX6_isOnPaper_4 rfl ?_
    refine x_iconst 1 dX6_isOnPaper_5 (by decide) ?_
    refine x_icmp_ne 27 dX6_isOnPaper_6 (by decide) (fun c4 => ?_) (fun c4 => ?_)
    · refine x_iconst 0 dX6_isOnPaper_27 (by decide) ?_
      exact x_zreturn dX6_isOnPaper_28 rfl (by decide) (Nat.le_of_ble_eq_true rfl) (Nat.le_of_ble_eq_true rfl) ⟨by rw [f_X6_isOnPaper, if_neg c1, if_neg c4], rfl⟩
    · refine x_iload_n 0 dX6_isOnPaper_9 rfl ?_
      refine x_sipush (-10000) dX6_isOnPaper_10 (by decide) ?_
      refine x_icmp_lt 27 dX6_isOnPaper_13 (by decide) (fun c5 => ?_) (fun c5 => ?_)
      · refine x_iconst 0 dX6_isOnPaper_27 (by decide) ?_
        exact x_zreturn dX6_isOnPaper_28 rfl (by decide) (Nat.le_of_ble_eq_true rfl) (Nat.le_of_ble_eq_true rfl) ⟨by rw [f_X6_isOnPaper, if_neg c1, if_pos c4, if_pos c5], rfl⟩
      · refine x_iload_n 0 dX6_isOnPaper_16 rfl ?_
        refine x_sipush 10000 dX6_isOnPaper_17 (by decide) ?_
        refine x_icmp_gt 27 dX6_isOnPaper_20 (by decide) (fun c6 => ?_) (fun c6 => ?_)
        · refine x_iconst 0 dX6_isOnPaper_27 (by decide) ?_
          exact x_zreturn dX6_isOnPaper_28 rfl (by decide) (Nat.le_of_ble_eq_true rfl) (Nat.le_of_ble_eq_true rfl) ⟨by rw [f_X6_isOnPaper, if_neg c1, if_pos c4, if_neg c5, if_pos c6], rfl⟩
        · refine x_iconst 1 dX6_isOnPaper_23 (by decide) ?_
          refine x_goto 28 dX6_isOnPaper_24 (by decide) ?_
          exact x_zreturn dX6_isOnPaper_28 rfl (by decide) (Nat.le_of_ble_eq_true rfl) (Nat.le_of_ble_eq_true rfl) ⟨by rw [f_X6_isOnPaper, if_neg c1, if_pos c4, if_neg c5, if_neg c6], rfl⟩
def f_X7_in (v : Int32) (lo : Int32) (hi : Int32) : Int32 := (if v < lo then 0 else (if hi < v then 0 else 1))
set_option maxRecDepth 100000 in
theorem c_X7_in {k : KT} {S : HS}  (v : Int32) (lo : Int32) (hi : Int32)  : Ct k (mt_X7_in (rm 1 0 0)) [.int (v), .int (lo), .int (hi)] S (Pu (f_X7_in v lo hi) S) := by
  refine Ct.of (by decide) (Nat.le_of_ble_eq_true rfl) ?_
  refine x_lv [(0, .int (v)), (1, .int (lo)), (2, .int (hi))] [0, 1, 2] rfl ?_
  refine x_iload_n 0 dX7_in_0 rfl ?_
  refine x_iload_n 1 dX7_in_1 rfl ?_
  refine x_icmp_lt 14 dX7_in_2 (by decide) (fun c1 => ?_) (fun c1 => ?_)
  · refine x_iconst 0 dX7_in_14 (by decide) ?_
    exact x_zreturn dX7_in_15 rfl (by decide) (Nat.le_of_ble_eq_true rfl) (Nat.le_of_ble_eq_true rfl) ⟨by rw [f_X7_in, if_pos c1], rfl⟩
  · refine x_iload_n 0 dX7_in_5 rfl ?_
    refine x_iload_n 2 dX7_in_6 rfl ?_
    refine x_icmp_gt 14 dX7_in_7 (by decide) (fun c2 => ?_) (fun c2 => ?_)
    · refine x_iconst 0 dX7_in_14 (by decide) ?_
      exact x_zreturn dX7_in_15 rfl (by decide) (Nat.le_of_ble_eq_true rfl) (Nat.le_of_ble_eq_true rfl) ⟨by rw [f_X7_in, if_neg c1, if_pos c2], rfl⟩
    · refine x_iconst 1 dX7_in_10 (by decide) ?_
      refine x_goto 15 dX7_in_11 (by decide) ?_
      exact x_zreturn dX7_in_15 rfl (by decide) (Nat.le_of_ble_eq_true rfl) (Nat.le_of_ble_eq_true rfl) ⟨by rw [f_X7_in, if_neg c1, if_neg c2], rfl⟩
def f_X7_isPlace (lon : Int32) (lat : Int32) : Int32 := (if (f_X7_in lon 0 359) = 0 then 0 else (if (f_X7_in lat (-90) 90) = 0 then 0 else 1))
set_option maxRecDepth 100000 in
theorem c_X7_isPlace {k : KT} {S : HS}  (lon : Int32) (lat : Int32)  : Ct k (mt_X7_isPlace (rm 2 0 0)) [.int (lon), .int (lat)] S (Pu (f_X7_isPlace lon lat) S) := by
  refine Ct.of (by decide) (Nat.le_of_ble_eq_true rfl) ?_
  refine x_lv [(0, .int (lon)), (1, .int (lat))] [0, 1] rfl ?_
  refine x_iload_n 0 dX7_isPlace_0 rfl ?_
  refine x_iconst 0 dX7_isPlace_1 (by decide) ?_
  refine x_sipush 359 dX7_isPlace_2 (by decide) ?_
  refine ca_X7_69 [.int (lon), .int (0), .int (359)] [] (c_X7_in (lon) (0) (359)) rfl dX7_isPlace_5 rfl rfl ⟨(Nat.le_of_ble_eq_true rfl), (Nat.le_of_ble_eq_true rfl), (Nat.le_of_ble_eq_true rfl), (Nat.le_of_ble_eq_true rfl), (Nat.le_of_ble_eq_true rfl)⟩ (fun v T hq => ?_)
  obtain ⟨rfl, rfl⟩ := hq
  refine x_if_eq 26 dX7_isPlace_8 (by decide) (fun c1 => ?_) (fun c1 => ?_)
  · refine x_iconst 0 dX7_isPlace_26 (by decide) ?_
    exact x_zreturn dX7_isPlace_27 rfl (by decide) (Nat.le_of_ble_eq_true rfl) (Nat.le_of_ble_eq_true rfl) ⟨by rw [f_X7_isPlace, if_pos c1], rfl⟩
  · refine x_iload_n 1 dX7_isPlace_11 rfl ?_
    refine x_bipush (-90) dX7_isPlace_12 (by decide) ?_
    refine x_bipush 90 dX7_isPlace_14 (by decide) ?_
    refine ca_X7_69 [.int (lat), .int ((-90)), .int (90)] [] (c_X7_in (lat) ((-90)) (90)) rfl dX7_isPlace_16 rfl rfl ⟨(Nat.le_of_ble_eq_true rfl), (Nat.le_of_ble_eq_true rfl), (Nat.le_of_ble_eq_true rfl), (Nat.le_of_ble_eq_true rfl), (Nat.le_of_ble_eq_true rfl)⟩ (fun v T hq => ?_)
    obtain ⟨rfl, rfl⟩ := hq
    refine x_if_eq 26 dX7_isPlace_19 (by decide) (fun c2 => ?_) (fun c2 => ?_)
    · refine x_iconst 0 dX7_isPlace_26 (by decide) ?_
      exact x_zreturn dX7_isPlace_27 rfl (by decide) (Nat.le_of_ble_eq_true rfl) (Nat.le_of_ble_eq_true rfl) ⟨by rw [f_X7_isPlace, if_neg c1, if_pos c2], rfl⟩
    · refine x_iconst 1 dX7_isPlace_22 (by decide) ?_
      refine x_goto 27 dX7_isPlace_23 (by decide) ?_
      exact x_zreturn dX7_isPlace_27 rfl (by decide) (Nat.le_of_ble_eq_true rfl) (Nat.le_of_ble_eq_true rfl) ⟨by rw [f_X7_isPlace, if_neg c1, if_neg c2], rfl⟩
