theorem tb_out3 {x : Int32} (h0 : ¬ x = 0) (h1 : ¬ x = 1) (h2 : ¬ x = 2) (h3 : ¬ x = 3) : x.toInt < 0 ∨ 3 < x.toInt := by
  by_cases h : x.toInt < 0 ∨ 3 < x.toInt
  · exact h
  · exfalso
    have e : x.toInt = 0 ∨ x.toInt = 1 ∨ x.toInt = 2 ∨ x.toInt = 3 := by omega
    rcases e with e | e | e | e
    all_goals first | exact h0 (t_ext e) | exact h1 (t_ext e) | exact h2 (t_ext e) | exact h3 (t_ext e)
theorem tb_out4 {x : Int32} (h0 : ¬ x = 0) (h1 : ¬ x = 1) (h2 : ¬ x = 2) (h3 : ¬ x = 3) (h4 : ¬ x = 4) : x.toInt < 0 ∨ 4 < x.toInt := by
  by_cases h : x.toInt < 0 ∨ 4 < x.toInt
  · exact h
  · exfalso
    have e : x.toInt = 0 ∨ x.toInt = 1 ∨ x.toInt = 2 ∨ x.toInt = 3 ∨ x.toInt = 4 := by omega
    rcases e with e | e | e | e | e
    all_goals first | exact h0 (t_ext e) | exact h1 (t_ext e) | exact h2 (t_ext e) | exact h3 (t_ext e) | exact h4 (t_ext e)
theorem tb_out5 {x : Int32} (h0 : ¬ x = 0) (h1 : ¬ x = 1) (h2 : ¬ x = 2) (h3 : ¬ x = 3) (h4 : ¬ x = 4) (h5 : ¬ x = 5) : x.toInt < 0 ∨ 5 < x.toInt := by
  by_cases h : x.toInt < 0 ∨ 5 < x.toInt
  · exact h
  · exfalso
    have e : x.toInt = 0 ∨ x.toInt = 1 ∨ x.toInt = 2 ∨ x.toInt = 3 ∨ x.toInt = 4 ∨ x.toInt = 5 := by omega
    rcases e with e | e | e | e | e | e
    all_goals first | exact h0 (t_ext e) | exact h1 (t_ext e) | exact h2 (t_ext e) | exact h3 (t_ext e) | exact h4 (t_ext e) | exact h5 (t_ext e)
theorem tb_out18 {x : Int32} (h0 : ¬ x = 0) (h1 : ¬ x = 1) (h2 : ¬ x = 2) (h3 : ¬ x = 3) (h4 : ¬ x = 4) (h5 : ¬ x = 5) (h6 : ¬ x = 6) (h7 : ¬ x = 7) (h8 : ¬ x = 8) (h9 : ¬ x = 9) (h10 : ¬ x = 10) (h11 : ¬ x = 11) (h12 : ¬ x = 12) (h13 : ¬ x = 13) (h14 : ¬ x = 14) (h15 : ¬ x = 15) (h16 : ¬ x = 16) (h17 : ¬ x = 17) (h18 : ¬ x = 18) : x.toInt < 0 ∨ 18 < x.toInt := by
  by_cases h : x.toInt < 0 ∨ 18 < x.toInt
  · exact h
  · exfalso
    have e : x.toInt = 0 ∨ x.toInt = 1 ∨ x.toInt = 2 ∨ x.toInt = 3 ∨ x.toInt = 4 ∨ x.toInt = 5 ∨ x.toInt = 6 ∨ x.toInt = 7 ∨ x.toInt = 8 ∨ x.toInt = 9 ∨ x.toInt = 10 ∨ x.toInt = 11 ∨ x.toInt = 12 ∨ x.toInt = 13 ∨ x.toInt = 14 ∨ x.toInt = 15 ∨ x.toInt = 16 ∨ x.toInt = 17 ∨ x.toInt = 18 := by omega
    rcases e with e | e | e | e | e | e | e | e | e | e | e | e | e | e | e | e | e | e | e
    all_goals first | exact h0 (t_ext e) | exact h1 (t_ext e) | exact h2 (t_ext e) | exact h3 (t_ext e) | exact h4 (t_ext e) | exact h5 (t_ext e) | exact h6 (t_ext e) | exact h7 (t_ext e) | exact h8 (t_ext e) | exact h9 (t_ext e) | exact h10 (t_ext e) | exact h11 (t_ext e) | exact h12 (t_ext e) | exact h13 (t_ext e) | exact h14 (t_ext e) | exact h15 (t_ext e) | exact h16 (t_ext e) | exact h17 (t_ext e) | exact h18 (t_ext e)
theorem cl_lt {i : Int32} {n : Nat} (h : vp_in i n) : i.toNatClampNeg < n := Nat.not_le.mp fun q => h (Or.inr q)
theorem isn_in {n nm : Int32} {N : Nat} (hN : nm.toInt ≤ N) (hN2 : N < 2147483648) (h0 : 0 ≤ nm.toInt) (c : ¬ f_X7_in n 0 (nm - 1) = 0) : vp_in n N := by
  obtain ⟨a, b⟩ := x_in_ok c
  rw [t_le] at a b
  simp only [show (0 : Int32).toInt = 0 from rfl] at a
  rw [t_sub (by simp only [show (1 : Int32).toInt = 1 from rfl]; omega) (by simp only [show (1 : Int32).toInt = 1 from rfl]; omega)] at b
  simp only [show (1 : Int32).toInt = 1 from rfl] at b
  exact t_in a (by omega)
def f_X7_isName (nm : Int32) (thR : Nat → Int32) (n : Int32) : Int32 := (if (f_X7_in n 0 ((nm - 1))) = 0 then 0 else (if (thR (n).toNatClampNeg) = 0 then 0 else 1))
set_option maxRecDepth 100000 in
theorem c_X7_isName {k : KT} {S : HS} {o : Nat}  (nm : Int32) (thR : Nat → Int32) (n : Int32) (hM : MH S o) (hvnm : gI S 268 o = nm) (hrthR : gR S (o + 7) = thR) (hN : nm.toInt ≤ 60) (hN0 : 0 ≤ nm.toInt) : Ct k (mt_X7_isName (rm 2 0 0)) [.ref (o), .int (n)] S (Pu (f_X7_isName nm thR n) S) := by
  refine Ct.ofF (by decide +kernel) (Nat.le_of_ble_eq_true rfl) ?_
  refine x_lv [(0, .ref (o)), (1, .int (n))] [0, 1] rfl ?_
  refine x_iload_n 1 dX7_isName_0 rfl ?_
  refine x_iconst 0 dX7_isName_1 (by decide) ?_
  refine x_aload_n 0 dX7_isName_2 rfl ?_
  refine gf_X7_133 rfl dX7_isName_3 (mhK hM) ?_
  rw [show gI (S) 268 (o) = nm from hvnm]
  refine x_iconst 1 dX7_isName_6 (by decide) ?_
  refine x_isub dX7_isName_7 ?_
  refine ca_X7_69 [.int (n), .int (0), .int ((nm - 1))] [] (c_X7_in (n) (0) ((nm - 1))) rfl dX7_isName_8 rfl rfl ⟨(Nat.le_of_ble_eq_true rfl), (Nat.le_of_ble_eq_true rfl), (Nat.le_of_ble_eq_true rfl), (Nat.le_of_ble_eq_true rfl), (Nat.le_of_ble_eq_true rfl)⟩ (fun v T hq => ?_)
  obtain ⟨rfl, rfl⟩ := hq
  refine x_if_eq 27 dX7_isName_11 (by decide) (fun c1 => ?_) (fun c1 => ?_)
  · refine x_iconst 0 dX7_isName_27 (by decide) ?_
    exact x_zreturn dX7_isName_28 rfl (by decide) (Nat.le_of_ble_eq_true rfl) (Nat.le_of_ble_eq_true rfl) ⟨by rw [f_X7_isName, if_pos c1], rfl⟩
  · refine x_aload_n 0 dX7_isName_14 rfl ?_
    refine gf_X7_28 rfl dX7_isName_15 (mhK hM) ?_
    rw [show gP (S) 269 (o) = some (o + 7) from (mhP_isThere hM)]
    refine x_iload_n 1 dX7_isName_18 rfl ?_
    refine x_baload dX7_isName_19 (mhK_isThere hM) (by rw [show gL (S) (o + 7) = 60 from (mhL_isThere hM)]; exact (isn_in hN (by decide) hN0 c1)) ?_
    rw [show gR (S) (o + 7) = thR from hrthR]
    refine x_if_eq 27 dX7_isName_20 (by decide) (fun c2 => ?_) (fun c2 => ?_)
    · refine x_iconst 0 dX7_isName_27 (by decide) ?_
      exact x_zreturn dX7_isName_28 rfl (by decide) (Nat.le_of_ble_eq_true rfl) (Nat.le_of_ble_eq_true rfl) ⟨by rw [f_X7_isName, if_neg c1, if_pos c2], rfl⟩
    · refine x_iconst 1 dX7_isName_23 (by decide) ?_
      refine x_goto 28 dX7_isName_24 (by decide) ?_
      exact x_zreturn dX7_isName_28 rfl (by decide) (Nat.le_of_ble_eq_true rfl) (Nat.le_of_ble_eq_true rfl) ⟨by rw [f_X7_isName, if_neg c1, if_neg c2], rfl⟩
theorem f01_X7_isName (nm : Int32) (thR : Nat → Int32) (n : Int32) : f_X7_isName nm thR n = 0 ∨ f_X7_isName nm thR n = 1 := by unfold f_X7_isName; split <;> (try split) <;> simp
theorem isName_in {nm n : Int32} {thR : Nat → Int32} (hN : nm.toInt ≤ 60) (hN0 : 0 ≤ nm.toInt) (c : ¬ f_X7_isName nm thR n = 0) : vp_in n 60 := by
  unfold f_X7_isName at c
  split at c
  · exact absurd rfl c
  · exact isn_in hN (by decide) hN0 ‹_›
def f_X7_left (cosR : Nat → Int32) (siR : Nat → Int32) (hiR : Nat → Int32) (leR : Nat → Int32) (n : Int32) (w : Int32) : Int32 := (if (w - w / 2 * 2) = 0 then (f_X7_acrossOf cosR ((siR (n).toNatClampNeg)) ((hiR (n).toNatClampNeg))) else ((f_X7_acrossOf cosR ((siR (n).toNatClampNeg)) ((hiR (n).toNatClampNeg))) - (40 * (leR (n).toNatClampNeg))))
set_option maxRecDepth 100000 in
theorem c_X7_left {k : KT} {S : HS} {o : Nat}  (cosR : Nat → Int32) (siR : Nat → Int32) (hiR : Nat → Int32) (leR : Nat → Int32) (n : Int32) (w : Int32) (hM : MH S o) (hrcosR : gR S (o + 1) = cosR) (hrsiR : gR S (o + 9) = siR) (hrhiR : gR S (o + 10) = hiR) (hrleR : gR S (o + 11) = leR) (hn : vp_in n 60) (hH : ∀ j : Nat, j < 60 → (-5400) ≤ hiR j ∧ hiR j ≤ 5400)  : Ct k (mt_X7_left (rm 3 0 0)) [.ref (o), .int (n), .int (w)] S (Pu (f_X7_left cosR siR hiR leR n w) S) := by
  refine Ct.ofF (by decide +kernel) (Nat.le_of_ble_eq_true rfl) ?_
  refine x_lv [(0, .ref (o)), (1, .int (n)), (2, .int (w))] [0, 1, 2] rfl ?_
  refine x_aload_n 0 dX7_left_0 rfl ?_
  refine x_aload_n 0 dX7_left_1 rfl ?_
  refine gf_X7_35 rfl dX7_left_2 (mhK hM) ?_
  rw [show gP (S) 271 (o) = some (o + 9) from (mhP_nameSide hM)]
  refine x_iload_n 1 dX7_left_5 rfl ?_
  refine x_iaload dX7_left_6 (mhK_nameSide hM) (by rw [show gL (S) (o + 9) = 60 from (mhL_nameSide hM)]; exact (hn)) ?_
  rw [show gR (S) (o + 9) = siR from hrsiR]
  refine x_aload_n 0 dX7_left_7 rfl ?_
  refine gf_X7_38 rfl dX7_left_8 (mhK hM) ?_
  rw [show gP (S) 272 (o) = some (o + 10) from (mhP_nameHigh hM)]
  refine x_iload_n 1 dX7_left_11 rfl ?_
  refine x_iaload dX7_left_12 (mhK_nameHigh hM) (by rw [show gL (S) (o + 10) = 60 from (mhL_nameHigh hM)]; exact (hn)) ?_
  rw [show gR (S) (o + 10) = hiR from hrhiR]
  refine ca_X7_77 [.int ((siR (n).toNatClampNeg)), .int ((hiR (n).toNatClampNeg))] [] (c_X7_acrossOf (cosR) ((siR (n).toNatClampNeg)) ((hiR (n).toNatClampNeg)) hM hrcosR (hH _ (cl_lt hn))) (mhK hM) rfl dX7_left_13 rfl rfl ⟨(Nat.le_of_ble_eq_true rfl), (Nat.le_of_ble_eq_true rfl), (Nat.le_of_ble_eq_true rfl), (Nat.le_of_ble_eq_true rfl), (Nat.le_of_ble_eq_true rfl)⟩ (fun v T hq => ?_)
  obtain ⟨rfl, rfl⟩ := hq
  refine x_istore_n [(3, .int ((f_X7_acrossOf cosR ((siR (n).toNatClampNeg)) ((hiR (n).toNatClampNeg))))), (0, .ref (o)), (1, .int (n)), (2, .int (w))] dX7_left_16 (Nat.le_of_ble_eq_true rfl) rfl ?_
  refine x_at 17 rfl ?_
  refine x_iload_n 3 dX7_left_17 rfl ?_
  refine x_iconst 2 dX7_left_18 (by decide) ?_
  refine x_irem dX7_left_19 (by decide) ?_
  refine x_if_ne 27 dX7_left_20 (by decide) (fun c1 => ?_) (fun c1 => ?_)
  · refine x_iload_n 0 dX7_left_27 rfl ?_
    refine x_bipush 40 dX7_left_28 (by decide) ?_
    refine x_aload_n 1 dX7_left_30 rfl ?_
    refine gf_X7_41 rfl dX7_left_31 (mhK hM) ?_
    rw [show gP (S) 273 (o) = some (o + 11) from (mhP_letters hM)]
    refine x_iload_n 2 dX7_left_34 rfl ?_
    refine x_iaload dX7_left_35 (mhK_letters hM) (by rw [show gL (S) (o + 11) = 60 from (mhL_letters hM)]; exact (hn)) ?_
    rw [show gR (S) (o + 11) = leR from hrleR]
    refine x_imul dX7_left_36 ?_
    refine x_isub dX7_left_37 ?_
    exact x_ireturn dX7_left_38 rfl (Nat.le_of_ble_eq_true rfl) (Nat.le_of_ble_eq_true rfl) ⟨by rw [f_X7_left, if_neg c1], rfl⟩
  · refine x_iload_n 0 dX7_left_23 rfl ?_
    refine x_goto 38 dX7_left_24 (by decide) ?_
    exact x_ireturn dX7_left_38 rfl (Nat.le_of_ble_eq_true rfl) (Nat.le_of_ble_eq_true rfl) ⟨by rw [f_X7_left, if_pos c1], rfl⟩
def f_X7_low (hiR : Nat → Int32) (n : Int32) (w : Int32) : Int32 := (if 2 ≤ w then ((hiR (n).toNatClampNeg) - 80) else (hiR (n).toNatClampNeg))
set_option maxRecDepth 100000 in
theorem c_X7_low {k : KT} {S : HS} {o : Nat}  (hiR : Nat → Int32) (n : Int32) (w : Int32) (hM : MH S o) (hrhiR : gR S (o + 10) = hiR) (hn : vp_in n 60)  : Ct k (mt_X7_low (rm 1 0 0)) [.ref (o), .int (n), .int (w)] S (Pu (f_X7_low hiR n w) S) := by
  refine Ct.ofF (by decide +kernel) (Nat.le_of_ble_eq_true rfl) ?_
  refine x_lv [(0, .ref (o)), (1, .int (n)), (2, .int (w))] [0, 1, 2] rfl ?_
  refine x_iload_n 2 dX7_low_0 rfl ?_
  refine x_iconst 2 dX7_low_1 (by decide) ?_
  refine x_icmp_ge 14 dX7_low_2 (by decide) (fun c1 => ?_) (fun c1 => ?_)
  · refine x_aload_n 0 dX7_low_14 rfl ?_
    refine gf_X7_38 rfl dX7_low_15 (mhK hM) ?_
    rw [show gP (S) 272 (o) = some (o + 10) from (mhP_nameHigh hM)]
    refine x_iload_n 1 dX7_low_18 rfl ?_
    refine x_iaload dX7_low_19 (mhK_nameHigh hM) (by rw [show gL (S) (o + 10) = 60 from (mhL_nameHigh hM)]; exact (hn)) ?_
    rw [show gR (S) (o + 10) = hiR from hrhiR]
    refine x_bipush 80 dX7_low_20 (by decide) ?_
    refine x_isub dX7_low_22 ?_
    exact x_ireturn dX7_low_23 rfl (Nat.le_of_ble_eq_true rfl) (Nat.le_of_ble_eq_true rfl) ⟨by rw [f_X7_low, if_pos c1], rfl⟩
  · refine x_aload_n 0 dX7_low_5 rfl ?_
    refine gf_X7_38 rfl dX7_low_6 (mhK hM) ?_
    rw [show gP (S) 272 (o) = some (o + 10) from (mhP_nameHigh hM)]
    refine x_iload_n 1 dX7_low_9 rfl ?_
    refine x_iaload dX7_low_10 (mhK_nameHigh hM) (by rw [show gL (S) (o + 10) = 60 from (mhL_nameHigh hM)]; exact (hn)) ?_
    rw [show gR (S) (o + 10) = hiR from hrhiR]
    refine x_at 11 rfl ?_
    refine x_goto 23 dX7_low_11 (by decide) ?_
    exact x_ireturn dX7_low_23 rfl (Nat.le_of_ble_eq_true rfl) (Nat.le_of_ble_eq_true rfl) ⟨by rw [f_X7_low, if_neg c1], rfl⟩
def f_X7_isWithin (wi : Int32) (cosR : Nat → Int32) (x : Int32) (y : Int32) : Int32 := (if (f_X7_in y (-5400) 5400) = 0 then 0 else (f_X7_in x ((-(f_X7_acrossOf cosR wi y))) ((f_X7_acrossOf cosR wi y))))
set_option maxRecDepth 100000 in
theorem c_X7_isWithin {k : KT} {S : HS} {o : Nat}  (wi : Int32) (cosR : Nat → Int32) (x : Int32) (y : Int32) (hM : MH S o) (hvwi : gI S 258 o = wi) (hrcosR : gR S (o + 1) = cosR)  : Ct k (mt_X7_isWithin (rm 3 0 0)) [.ref (o), .int (x), .int (y)] S (Pu (f_X7_isWithin wi cosR x y) S) := by
  refine Ct.ofF (by decide +kernel) (Nat.le_of_ble_eq_true rfl) ?_
  refine x_lv [(0, .ref (o)), (1, .int (x)), (2, .int (y))] [0, 1, 2] rfl ?_
  refine x_iload_n 2 dX7_isWithin_0 rfl ?_
  refine x_sipush (-5400) dX7_isWithin_1 (by decide) ?_
  refine x_sipush 5400 dX7_isWithin_4 (by decide) ?_
  refine ca_X7_69 [.int (y), .int ((-5400)), .int (5400)] [] (c_X7_in (y) ((-5400)) (5400)) rfl dX7_isWithin_7 rfl rfl ⟨(Nat.le_of_ble_eq_true rfl), (Nat.le_of_ble_eq_true rfl), (Nat.le_of_ble_eq_true rfl), (Nat.le_of_ble_eq_true rfl), (Nat.le_of_ble_eq_true rfl)⟩ (fun v T hq => ?_)
  obtain ⟨rfl, rfl⟩ := hq
  refine x_if_ne 15 dX7_isWithin_10 (by decide) (fun c1 => ?_) (fun c1 => ?_)
  · refine x_aload_n 0 dX7_isWithin_15 rfl ?_
    refine x_aload_n 0 dX7_isWithin_16 rfl ?_
    refine gf_X7_66 rfl dX7_isWithin_17 (mhK hM) ?_
    rw [show gI (S) 258 (o) = wi from hvwi]
    refine x_iload_n 2 dX7_isWithin_20 rfl ?_
    refine ca_X7_77 [.int (wi), .int (y)] [] (c_X7_acrossOf (cosR) (wi) (y) hM hrcosR (x_in_ok c1)) (mhK hM) rfl dX7_isWithin_21 rfl rfl ⟨(Nat.le_of_ble_eq_true rfl), (Nat.le_of_ble_eq_true rfl), (Nat.le_of_ble_eq_true rfl), (Nat.le_of_ble_eq_true rfl), (Nat.le_of_ble_eq_true rfl)⟩ (fun v T hq => ?_)
    obtain ⟨rfl, rfl⟩ := hq
    refine x_istore_n [(3, .int ((f_X7_acrossOf cosR wi y))), (0, .ref (o)), (1, .int (x)), (2, .int (y))] dX7_isWithin_24 (Nat.le_of_ble_eq_true rfl) rfl ?_
    refine x_iload_n 2 dX7_isWithin_25 rfl ?_
    refine x_iload_n 0 dX7_isWithin_26 rfl ?_
    refine x_ineg dX7_isWithin_27 ?_
    refine x_iload_n 0 dX7_isWithin_28 rfl ?_
    refine ca_X7_69 [.int (x), .int ((-(f_X7_acrossOf cosR wi y))), .int ((f_X7_acrossOf cosR wi y))] [] (c_X7_in (x) ((-(f_X7_acrossOf cosR wi y))) ((f_X7_acrossOf cosR wi y))) rfl dX7_isWithin_29 rfl rfl ⟨(Nat.le_of_ble_eq_true rfl), (Nat.le_of_ble_eq_true rfl), (Nat.le_of_ble_eq_true rfl), (Nat.le_of_ble_eq_true rfl), (Nat.le_of_ble_eq_true rfl)⟩ (fun v T hq => ?_)
    obtain ⟨rfl, rfl⟩ := hq
    refine x_at 32 rfl ?_
    exact x_zreturn dX7_isWithin_32 rfl (by first | decide | exact nb01 (f01_X7_in _ _ _)) (Nat.le_of_ble_eq_true rfl) (Nat.le_of_ble_eq_true rfl) ⟨by rw [f_X7_isWithin, if_neg c1], rfl⟩
  · refine x_iconst 0 dX7_isWithin_13 (by decide) ?_
    exact x_zreturn dX7_isWithin_14 rfl (by first | decide | exact nb01 (f01_X7_in _ _ _)) (Nat.le_of_ble_eq_true rfl) (Nat.le_of_ble_eq_true rfl) ⟨by rw [f_X7_isWithin, if_pos c1], rfl⟩
theorem f01_X7_isWithin (wi : Int32) (cosR : Nat → Int32) (x y : Int32) : f_X7_isWithin wi cosR x y = 0 ∨ f_X7_isWithin wi cosR x y = 1 := by unfold f_X7_isWithin; split <;> first | exact f01_X7_in _ _ _ | simp
def f_X7_canBe (wi : Int32) (cosR : Nat → Int32) (siR : Nat → Int32) (hiR : Nat → Int32) (leR : Nat → Int32) (n : Int32) (w : Int32) : Int32 := (if w = 4 then 1 else (if (f_X7_isWithin wi cosR ((f_X7_left cosR siR hiR leR n w)) ((f_X7_low hiR n w))) = 0 then 0 else (if (f_X7_isWithin wi cosR (((f_X7_left cosR siR hiR leR n w) + (40 * (leR (n).toNatClampNeg)))) ((f_X7_low hiR n w))) = 0 then 0 else (if (f_X7_isWithin wi cosR ((f_X7_left cosR siR hiR leR n w)) (((f_X7_low hiR n w) + 80))) = 0 then 0 else (if (f_X7_isWithin wi cosR (((f_X7_left cosR siR hiR leR n w) + (40 * (leR (n).toNatClampNeg)))) (((f_X7_low hiR n w) + 80))) = 0 then 0 else 1)))))
set_option maxRecDepth 100000 in
theorem c_X7_canBe {k : KT} {S : HS} {o : Nat}  (wi : Int32) (cosR : Nat → Int32) (siR : Nat → Int32) (hiR : Nat → Int32) (leR : Nat → Int32) (n : Int32) (w : Int32) (hM : MH S o) (hvwi : gI S 258 o = wi) (hrcosR : gR S (o + 1) = cosR) (hrsiR : gR S (o + 9) = siR) (hrhiR : gR S (o + 10) = hiR) (hrleR : gR S (o + 11) = leR) (hn : vp_in n 60) (hH : ∀ j : Nat, j < 60 → (-5400) ≤ hiR j ∧ hiR j ≤ 5400)  : Ct k (mt_X7_canBe (rm 4 0 0)) [.ref (o), .int (n), .int (w)] S (Pu (f_X7_canBe wi cosR siR hiR leR n w) S) := by
  refine Ct.ofF (by decide +kernel) (Nat.le_of_ble_eq_true rfl) ?_
  refine x_lv [(0, .ref (o)), (1, .int (n)), (2, .int (w))] [0, 1, 2] rfl ?_
  refine x_iload_n 2 dX7_canBe_0 rfl ?_
  refine x_iconst 4 dX7_canBe_1 (by decide) ?_
  refine x_icmp_ne 7 dX7_canBe_2 (by decide) (fun c1 => ?_) (fun c1 => ?_)
  · refine x_aload_n 0 dX7_canBe_7 rfl ?_
    refine x_iload_n 1 dX7_canBe_8 rfl ?_
    refine x_iload_n 2 dX7_canBe_9 rfl ?_
    refine ca_X7_142 [.int (n), .int (w)] [] (c_X7_left (cosR) (siR) (hiR) (leR) (n) (w) hM hrcosR hrsiR hrhiR hrleR hn hH) (mhK hM) rfl dX7_canBe_10 rfl rfl ⟨(Nat.le_of_ble_eq_true rfl), (Nat.le_of_ble_eq_true rfl), (Nat.le_of_ble_eq_true rfl), (Nat.le_of_ble_eq_true rfl), (Nat.le_of_ble_eq_true rfl)⟩ (fun v T hq => ?_)
    obtain ⟨rfl, rfl⟩ := hq
    refine x_istore_n [(3, .int ((f_X7_left cosR siR hiR leR n w))), (0, .ref (o)), (1, .int (n)), (2, .int (w))] dX7_canBe_13 (Nat.le_of_ble_eq_true rfl) rfl ?_
    refine x_aload_n 1 dX7_canBe_14 rfl ?_
    refine x_iload_n 2 dX7_canBe_15 rfl ?_
    refine x_iload_n 3 dX7_canBe_16 rfl ?_
    refine ca_X7_145 [.int (n), .int (w)] [] (c_X7_low (hiR) (n) (w) hM hrhiR hn) (mhK hM) rfl dX7_canBe_17 rfl rfl ⟨(Nat.le_of_ble_eq_true rfl), (Nat.le_of_ble_eq_true rfl), (Nat.le_of_ble_eq_true rfl), (Nat.le_of_ble_eq_true rfl), (Nat.le_of_ble_eq_true rfl)⟩ (fun v T hq => ?_)
    obtain ⟨rfl, rfl⟩ := hq
    refine x_istore [(4, .int ((f_X7_low hiR n w))), (3, .int ((f_X7_left cosR siR hiR leR n w))), (0, .ref (o)), (1, .int (n)), (2, .int (w))] dX7_canBe_20 (Nat.le_of_ble_eq_true rfl) rfl ?_
    refine x_bipush 40 dX7_canBe_22 (by decide) ?_
    refine x_at 24 rfl ?_
    refine x_aload_n 2 dX7_canBe_24 rfl ?_
    refine gf_X7_41 rfl dX7_canBe_25 (mhK hM) ?_
    rw [show gP (S) 273 (o) = some (o + 11) from (mhP_letters hM)]
    refine x_iload_n 3 dX7_canBe_28 rfl ?_
    refine x_iaload dX7_canBe_29 (mhK_letters hM) (by rw [show gL (S) (o + 11) = 60 from (mhL_letters hM)]; exact (hn)) ?_
    rw [show gR (S) (o + 11) = leR from hrleR]
    refine x_imul dX7_canBe_30 ?_
    refine x_istore [(5, .int ((40 * (leR (n).toNatClampNeg)))), (4, .int ((f_X7_low hiR n w))), (3, .int ((f_X7_left cosR siR hiR leR n w))), (0, .ref (o)), (1, .int (n)), (2, .int (w))] dX7_canBe_31 (Nat.le_of_ble_eq_true rfl) rfl ?_
    refine x_aload_n 3 dX7_canBe_33 rfl ?_
    refine x_iload_n 2 dX7_canBe_34 rfl ?_
    refine x_iload 1 dX7_canBe_35 rfl ?_
    refine ca_X7_148 [.int ((f_X7_left cosR siR hiR leR n w)), .int ((f_X7_low hiR n w))] [] (c_X7_isWithin (wi) (cosR) ((f_X7_left cosR siR hiR leR n w)) ((f_X7_low hiR n w)) hM hvwi hrcosR) (mhK hM) rfl dX7_canBe_37 rfl rfl ⟨(Nat.le_of_ble_eq_true rfl), (Nat.le_of_ble_eq_true rfl), (Nat.le_of_ble_eq_true rfl), (Nat.le_of_ble_eq_true rfl), (Nat.le_of_ble_eq_true rfl)⟩ (fun v T hq => ?_)
    obtain ⟨rfl, rfl⟩ := hq
    refine x_if_eq 89 dX7_canBe_40 (by decide) (fun c2 => ?_) (fun c2 => ?_)
    · refine x_iconst 0 dX7_canBe_89 (by decide) ?_
      exact x_zreturn dX7_canBe_90 rfl (by first | decide | exact nb01 (f01_X7_isWithin _ _ _ _)) (Nat.le_of_ble_eq_true rfl) (Nat.le_of_ble_eq_true rfl) ⟨by rw [f_X7_canBe, if_neg c1, if_pos c2], rfl⟩
    · refine x_aload_n 3 dX7_canBe_43 rfl ?_
      refine x_iload_n 2 dX7_canBe_44 rfl ?_
      refine x_iload 0 dX7_canBe_45 rfl ?_
      refine x_iadd dX7_canBe_47 ?_
      refine x_iload 1 dX7_canBe_48 rfl ?_
      refine ca_X7_148 [.int (((f_X7_left cosR siR hiR leR n w) + (40 * (leR (n).toNatClampNeg)))), .int ((f_X7_low hiR n w))] [] (c_X7_isWithin (wi) (cosR) (((f_X7_left cosR siR hiR leR n w) + (40 * (leR (n).toNatClampNeg)))) ((f_X7_low hiR n w)) hM hvwi hrcosR) (mhK hM) rfl dX7_canBe_50 rfl rfl ⟨(Nat.le_of_ble_eq_true rfl), (Nat.le_of_ble_eq_true rfl), (Nat.le_of_ble_eq_true rfl), (Nat.le_of_ble_eq_true rfl), (Nat.le_of_ble_eq_true rfl)⟩ (fun v T hq => ?_)
      obtain ⟨rfl, rfl⟩ := hq
      refine x_if_eq 89 dX7_canBe_53 (by decide) (fun c3 => ?_) (fun c3 => ?_)
      · refine x_iconst 0 dX7_canBe_89 (by decide) ?_
        exact x_zreturn dX7_canBe_90 rfl (by first | decide | exact nb01 (f01_X7_isWithin _ _ _ _)) (Nat.le_of_ble_eq_true rfl) (Nat.le_of_ble_eq_true rfl) ⟨by rw [f_X7_canBe, if_neg c1, if_neg c2, if_pos c3], rfl⟩
      · refine x_aload_n 3 dX7_canBe_56 rfl ?_
        refine x_iload_n 2 dX7_canBe_57 rfl ?_
        refine x_iload 1 dX7_canBe_58 rfl ?_
        refine x_bipush 80 dX7_canBe_60 (by decide) ?_
        refine x_iadd dX7_canBe_62 ?_
        refine ca_X7_148 [.int ((f_X7_left cosR siR hiR leR n w)), .int (((f_X7_low hiR n w) + 80))] [] (c_X7_isWithin (wi) (cosR) ((f_X7_left cosR siR hiR leR n w)) (((f_X7_low hiR n w) + 80)) hM hvwi hrcosR) (mhK hM) rfl dX7_canBe_63 rfl rfl ⟨(Nat.le_of_ble_eq_true rfl), (Nat.le_of_ble_eq_true rfl), (Nat.le_of_ble_eq_true rfl), (Nat.le_of_ble_eq_true rfl), (Nat.le_of_ble_eq_true rfl)⟩ (fun v T hq => ?_)
        obtain ⟨rfl, rfl⟩ := hq
        refine x_if_eq 89 dX7_canBe_66 (by decide) (fun c4 => ?_) (fun c4 => ?_)
        · refine x_iconst 0 dX7_canBe_89 (by decide) ?_
          exact x_zreturn dX7_canBe_90 rfl (by first | decide | exact nb01 (f01_X7_isWithin _ _ _ _)) (Nat.le_of_ble_eq_true rfl) (Nat.le_of_ble_eq_true rfl) ⟨by rw [f_X7_canBe, if_neg c1, if_neg c2, if_neg c3, if_pos c4], rfl⟩
        · refine x_aload_n 3 dX7_canBe_69 rfl ?_
          refine x_iload_n 2 dX7_canBe_70 rfl ?_
          refine x_iload 0 dX7_canBe_71 rfl ?_
          refine x_iadd dX7_canBe_73 ?_
          refine x_iload 1 dX7_canBe_74 rfl ?_
          refine x_bipush 80 dX7_canBe_76 (by decide) ?_
          refine x_iadd dX7_canBe_78 ?_
          refine ca_X7_148 [.int (((f_X7_left cosR siR hiR leR n w) + (40 * (leR (n).toNatClampNeg)))), .int (((f_X7_low hiR n w) + 80))] [] (c_X7_isWithin (wi) (cosR) (((f_X7_left cosR siR hiR leR n w) + (40 * (leR (n).toNatClampNeg)))) (((f_X7_low hiR n w) + 80)) hM hvwi hrcosR) (mhK hM) rfl dX7_canBe_79 rfl rfl ⟨(Nat.le_of_ble_eq_true rfl), (Nat.le_of_ble_eq_true rfl), (Nat.le_of_ble_eq_true rfl), (Nat.le_of_ble_eq_true rfl), (Nat.le_of_ble_eq_true rfl)⟩ (fun v T hq => ?_)
          obtain ⟨rfl, rfl⟩ := hq
          refine x_if_eq 89 dX7_canBe_82 (by decide) (fun c5 => ?_) (fun c5 => ?_)
          · refine x_iconst 0 dX7_canBe_89 (by decide) ?_
            exact x_zreturn dX7_canBe_90 rfl (by first | decide | exact nb01 (f01_X7_isWithin _ _ _ _)) (Nat.le_of_ble_eq_true rfl) (Nat.le_of_ble_eq_true rfl) ⟨by rw [f_X7_canBe, if_neg c1, if_neg c2, if_neg c3, if_neg c4, if_pos c5], rfl⟩
          · refine x_iconst 1 dX7_canBe_85 (by decide) ?_
            refine x_goto 90 dX7_canBe_86 (by decide) ?_
            exact x_zreturn dX7_canBe_90 rfl (by first | decide | exact nb01 (f01_X7_isWithin _ _ _ _)) (Nat.le_of_ble_eq_true rfl) (Nat.le_of_ble_eq_true rfl) ⟨by rw [f_X7_canBe, if_neg c1, if_neg c2, if_neg c3, if_neg c4, if_neg c5], rfl⟩
  · refine x_iconst 1 dX7_canBe_5 (by decide) ?_
    exact x_zreturn dX7_canBe_6 rfl (by first | decide | exact nb01 (f01_X7_isWithin _ _ _ _)) (Nat.le_of_ble_eq_true rfl) (Nat.le_of_ble_eq_true rfl) ⟨by rw [f_X7_canBe, if_pos c1], rfl⟩
theorem f01_X7_canBe (wi : Int32) (cosR siR hiR leR : Nat → Int32) (n w : Int32) : f_X7_canBe wi cosR siR hiR leR n w = 0 ∨ f_X7_canBe wi cosR siR hiR leR n w = 1 := by unfold f_X7_canBe; (repeat' split) <;> first | exact f01_X7_isWithin _ _ _ _ | simp
def f_X7_may (nm : Int32) (wi : Int32) (cosR : Nat → Int32) (siR : Nat → Int32) (hiR : Nat → Int32) (leR : Nat → Int32) (thR : Nat → Int32) (n : Int32) (w : Int32) : Int32 := (if (f_X7_isName nm thR n) = 0 then 0 else (if (f_X7_in w 0 4) = 0 then 0 else (if (f_X7_canBe wi cosR siR hiR leR n w) = 0 then 0 else 1)))
set_option maxRecDepth 100000 in
theorem c_X7_may {k : KT} {S : HS} {o : Nat}  (nm : Int32) (wi : Int32) (cosR : Nat → Int32) (siR : Nat → Int32) (hiR : Nat → Int32) (leR : Nat → Int32) (thR : Nat → Int32) (n : Int32) (w : Int32) (hM : MH S o) (hvnm : gI S 268 o = nm) (hvwi : gI S 258 o = wi) (hrcosR : gR S (o + 1) = cosR) (hrsiR : gR S (o + 9) = siR) (hrhiR : gR S (o + 10) = hiR) (hrleR : gR S (o + 11) = leR) (hrthR : gR S (o + 7) = thR) (hN : nm.toInt ≤ 60) (hN0 : 0 ≤ nm.toInt) (hH : ∀ j : Nat, j < 60 → (-5400) ≤ hiR j ∧ hiR j ≤ 5400)  : Ct k (mt_X7_may (rm 5 0 0)) [.ref (o), .int (n), .int (w)] S (Pu (f_X7_may nm wi cosR siR hiR leR thR n w) S) := by
  refine Ct.ofF (by decide +kernel) (Nat.le_of_ble_eq_true rfl) ?_
  refine x_lv [(0, .ref (o)), (1, .int (n)), (2, .int (w))] [0, 1, 2] rfl ?_
  refine x_aload_n 0 dX7_may_0 rfl ?_
  refine x_iload_n 1 dX7_may_1 rfl ?_
  refine ca_X7_139 [.int (n)] [] (c_X7_isName (nm) (thR) (n) hM hvnm hrthR hN hN0) (mhK hM) rfl dX7_may_2 rfl rfl ⟨(Nat.le_of_ble_eq_true rfl), (Nat.le_of_ble_eq_true rfl), (Nat.le_of_ble_eq_true rfl), (Nat.le_of_ble_eq_true rfl), (Nat.le_of_ble_eq_true rfl)⟩ (fun v T hq => ?_)
  obtain ⟨rfl, rfl⟩ := hq
  refine x_if_eq 30 dX7_may_5 (by decide) (fun c1 => ?_) (fun c1 => ?_)
  · refine x_iconst 0 dX7_may_30 (by decide) ?_
    exact x_zreturn dX7_may_31 rfl (by first | decide | exact nb01 (f01_X7_canBe _ _ _ _ _ _ _)) (Nat.le_of_ble_eq_true rfl) (Nat.le_of_ble_eq_true rfl) ⟨by rw [f_X7_may, if_pos c1], rfl⟩
  · refine x_iload_n 2 dX7_may_8 rfl ?_
    refine x_iconst 0 dX7_may_9 (by decide) ?_
    refine x_iconst 4 dX7_may_10 (by decide) ?_
    refine ca_X7_69 [.int (w), .int (0), .int (4)] [] (c_X7_in (w) (0) (4)) rfl dX7_may_11 rfl rfl ⟨(Nat.le_of_ble_eq_true rfl), (Nat.le_of_ble_eq_true rfl), (Nat.le_of_ble_eq_true rfl), (Nat.le_of_ble_eq_true rfl), (Nat.le_of_ble_eq_true rfl)⟩ (fun v T hq => ?_)
    obtain ⟨rfl, rfl⟩ := hq
    refine x_if_eq 30 dX7_may_14 (by decide) (fun c2 => ?_) (fun c2 => ?_)
    · refine x_iconst 0 dX7_may_30 (by decide) ?_
      exact x_zreturn dX7_may_31 rfl (by first | decide | exact nb01 (f01_X7_canBe _ _ _ _ _ _ _)) (Nat.le_of_ble_eq_true rfl) (Nat.le_of_ble_eq_true rfl) ⟨by rw [f_X7_may, if_neg c1, if_pos c2], rfl⟩
    · refine x_aload_n 0 dX7_may_17 rfl ?_
      refine x_iload_n 1 dX7_may_18 rfl ?_
      refine x_iload_n 2 dX7_may_19 rfl ?_
      refine ca_X7_151 [.int (n), .int (w)] [] (c_X7_canBe (wi) (cosR) (siR) (hiR) (leR) (n) (w) hM hvwi hrcosR hrsiR hrhiR hrleR (isName_in hN hN0 c1) hH) (mhK hM) rfl dX7_may_20 rfl rfl ⟨(Nat.le_of_ble_eq_true rfl), (Nat.le_of_ble_eq_true rfl), (Nat.le_of_ble_eq_true rfl), (Nat.le_of_ble_eq_true rfl), (Nat.le_of_ble_eq_true rfl)⟩ (fun v T hq => ?_)
      obtain ⟨rfl, rfl⟩ := hq
      refine x_if_eq 30 dX7_may_23 (by decide) (fun c3 => ?_) (fun c3 => ?_)
      · refine x_iconst 0 dX7_may_30 (by decide) ?_
        exact x_zreturn dX7_may_31 rfl (by first | decide | exact nb01 (f01_X7_canBe _ _ _ _ _ _ _)) (Nat.le_of_ble_eq_true rfl) (Nat.le_of_ble_eq_true rfl) ⟨by rw [f_X7_may, if_neg c1, if_neg c2, if_pos c3], rfl⟩
      · refine x_iconst 1 dX7_may_26 (by decide) ?_
        refine x_goto 31 dX7_may_27 (by decide) ?_
        exact x_zreturn dX7_may_31 rfl (by first | decide | exact nb01 (f01_X7_canBe _ _ _ _ _ _ _)) (Nat.le_of_ble_eq_true rfl) (Nat.le_of_ble_eq_true rfl) ⟨by rw [f_X7_may, if_neg c1, if_neg c2, if_neg c3], rfl⟩
def f_X7_areApart (cosR : Nat → Int32) (siR : Nat → Int32) (hiR : Nat → Int32) (leR : Nat → Int32) (a : Int32) (wa : Int32) (b : Int32) (wb : Int32) : Int32 := (if wa = 4 then 1 else (if wb = 4 then 1 else (if (40 * (leR (b).toNatClampNeg)) ≤ ((f_X7_left cosR siR hiR leR a wa) - (f_X7_left cosR siR hiR leR b wb)) then 1 else (if (40 * (leR (a).toNatClampNeg)) ≤ (-((f_X7_left cosR siR hiR leR a wa) - (f_X7_left cosR siR hiR leR b wb))) then 1 else (if 80 ≤ ((f_X7_low hiR a wa) - (f_X7_low hiR b wb)) then 1 else (if (-80) < ((f_X7_low hiR a wa) - (f_X7_low hiR b wb)) then 0 else 1))))))
set_option maxRecDepth 100000 in
theorem c_X7_areApart {k : KT} {S : HS} {o : Nat}  (cosR : Nat → Int32) (siR : Nat → Int32) (hiR : Nat → Int32) (leR : Nat → Int32) (a : Int32) (wa : Int32) (b : Int32) (wb : Int32) (hM : MH S o) (hrcosR : gR S (o + 1) = cosR) (hrsiR : gR S (o + 9) = siR) (hrhiR : gR S (o + 10) = hiR) (hrleR : gR S (o + 11) = leR) (hna : vp_in a 60) (hnb : vp_in b 60) (hH : ∀ j : Nat, j < 60 → (-5400) ≤ hiR j ∧ hiR j ≤ 5400)  : Ct k (mt_X7_areApart (rm 4 0 0)) [.ref (o), .int (a), .int (wa), .int (b), .int (wb)] S (Pu (f_X7_areApart cosR siR hiR leR a wa b wb) S) := by
  refine Ct.ofF (by decide +kernel) (Nat.le_of_ble_eq_true rfl) ?_
  refine x_lv [(0, .ref (o)), (1, .int (a)), (2, .int (wa)), (3, .int (b)), (4, .int (wb))] [0, 1, 2, 3, 4] rfl ?_
  refine x_iload_n 2 dX7_areApart_0 rfl ?_
  refine x_iconst 4 dX7_areApart_1 (by decide) ?_
  refine x_icmp_eq 11 dX7_areApart_2 (by decide) (fun c1 => ?_) (fun c1 => ?_)
  · refine x_iconst 1 dX7_areApart_11 (by decide) ?_
    exact x_zreturn dX7_areApart_12 rfl (by decide) (Nat.le_of_ble_eq_true rfl) (Nat.le_of_ble_eq_true rfl) ⟨by rw [f_X7_areApart, if_pos c1], rfl⟩
  · refine x_iload 4 dX7_areApart_5 rfl ?_
    refine x_iconst 4 dX7_areApart_7 (by decide) ?_
    refine x_icmp_ne 13 dX7_areApart_8 (by decide) (fun c2 => ?_) (fun c2 => ?_)
    · refine x_aload_n 0 dX7_areApart_13 rfl ?_
      refine x_iload_n 1 dX7_areApart_14 rfl ?_
      refine x_iload_n 2 dX7_areApart_15 rfl ?_
      refine ca_X7_142 [.int (a), .int (wa)] [] (c_X7_left (cosR) (siR) (hiR) (leR) (a) (wa) hM hrcosR hrsiR hrhiR hrleR hna hH) (mhK hM) rfl dX7_areApart_16 rfl rfl ⟨(Nat.le_of_ble_eq_true rfl), (Nat.le_of_ble_eq_true rfl), (Nat.le_of_ble_eq_true rfl), (Nat.le_of_ble_eq_true rfl), (Nat.le_of_ble_eq_true rfl)⟩ (fun v T hq => ?_)
      obtain ⟨rfl, rfl⟩ := hq
      refine x_aload_n 0 dX7_areApart_19 rfl ?_
      refine x_iload_n 3 dX7_areApart_20 rfl ?_
      refine x_iload 4 dX7_areApart_21 rfl ?_
      refine ca_X7_142 [.int (b), .int (wb)] [.int ((f_X7_left cosR siR hiR leR a wa))] (c_X7_left (cosR) (siR) (hiR) (leR) (b) (wb) hM hrcosR hrsiR hrhiR hrleR hnb hH) (mhK hM) rfl dX7_areApart_23 rfl rfl ⟨(Nat.le_of_ble_eq_true rfl), (Nat.le_of_ble_eq_true rfl), (Nat.le_of_ble_eq_true rfl), (Nat.le_of_ble_eq_true rfl), (Nat.le_of_ble_eq_true rfl)⟩ (fun v T hq => ?_)
      obtain ⟨rfl, rfl⟩ := hq
      refine x_isub dX7_areApart_26 ?_
      refine x_istore [(5, .int (((f_X7_left cosR siR hiR leR a wa) - (f_X7_left cosR siR hiR leR b wb)))), (0, .ref (o)), (1, .int (a)), (2, .int (wa)), (3, .int (b)), (4, .int (wb))] dX7_areApart_27 (Nat.le_of_ble_eq_true rfl) rfl ?_
      refine x_aload_n 1 dX7_areApart_29 rfl ?_
      refine x_at 30 rfl ?_
      refine x_iload_n 2 dX7_areApart_30 rfl ?_
      refine x_iload_n 3 dX7_areApart_31 rfl ?_
      refine ca_X7_145 [.int (a), .int (wa)] [] (c_X7_low (hiR) (a) (wa) hM hrhiR hna) (mhK hM) rfl dX7_areApart_32 rfl rfl ⟨(Nat.le_of_ble_eq_true rfl), (Nat.le_of_ble_eq_true rfl), (Nat.le_of_ble_eq_true rfl), (Nat.le_of_ble_eq_true rfl), (Nat.le_of_ble_eq_true rfl)⟩ (fun v T hq => ?_)
      obtain ⟨rfl, rfl⟩ := hq
      refine x_aload_n 1 dX7_areApart_35 rfl ?_
      refine x_iload_n 4 dX7_areApart_36 rfl ?_
      refine x_iload 5 dX7_areApart_37 rfl ?_
      refine ca_X7_145 [.int (b), .int (wb)] [.int ((f_X7_low hiR a wa))] (c_X7_low (hiR) (b) (wb) hM hrhiR hnb) (mhK hM) rfl dX7_areApart_39 rfl rfl ⟨(Nat.le_of_ble_eq_true rfl), (Nat.le_of_ble_eq_true rfl), (Nat.le_of_ble_eq_true rfl), (Nat.le_of_ble_eq_true rfl), (Nat.le_of_ble_eq_true rfl)⟩ (fun v T hq => ?_)
      obtain ⟨rfl, rfl⟩ := hq
      refine x_isub dX7_areApart_42 ?_
      refine x_istore [(6, .int (((f_X7_low hiR a wa) - (f_X7_low hiR b wb)))), (5, .int (((f_X7_left cosR siR hiR leR a wa) - (f_X7_left cosR siR hiR leR b wb)))), (0, .ref (o)), (1, .int (a)), (2, .int (wa)), (3, .int (b)), (4, .int (wb))] dX7_areApart_43 (Nat.le_of_ble_eq_true rfl) rfl ?_
      refine x_iload 1 dX7_areApart_45 rfl ?_
      refine x_bipush 40 dX7_areApart_47 (by decide) ?_
      refine x_aload_n 2 dX7_areApart_49 rfl ?_
      refine x_at 50 rfl ?_
      refine gf_X7_41 rfl dX7_areApart_50 (mhK hM) ?_
      rw [show gP (S) 273 (o) = some (o + 11) from (mhP_letters hM)]
      refine x_iload_n 5 dX7_areApart_53 rfl ?_
      refine x_iaload dX7_areApart_54 (mhK_letters hM) (by rw [show gL (S) (o + 11) = 60 from (mhL_letters hM)]; exact (hnb)) ?_
      rw [show gR (S) (o + 11) = leR from hrleR]
      refine x_imul dX7_areApart_55 ?_
      refine x_icmp_ge 88 dX7_areApart_56 (by decide) (fun c3 => ?_) (fun c3 => ?_)
      · refine x_iconst 1 dX7_areApart_88 (by decide) ?_
        refine x_goto 93 dX7_areApart_89 (by decide) ?_
        exact x_zreturn dX7_areApart_93 rfl (by decide) (Nat.le_of_ble_eq_true rfl) (Nat.le_of_ble_eq_true rfl) ⟨by rw [f_X7_areApart, if_neg c1, if_neg c2, if_pos c3], rfl⟩
      · refine x_iload 1 dX7_areApart_59 rfl ?_
        refine x_ineg dX7_areApart_61 ?_
        refine x_bipush 40 dX7_areApart_62 (by decide) ?_
        refine x_aload_n 2 dX7_areApart_64 rfl ?_
        refine gf_X7_41 rfl dX7_areApart_65 (mhK hM) ?_
        rw [show gP (S) 273 (o) = some (o + 11) from (mhP_letters hM)]
        refine x_iload_n 3 dX7_areApart_68 rfl ?_
        refine x_iaload dX7_areApart_69 (mhK_letters hM) (by rw [show gL (S) (o + 11) = 60 from (mhL_letters hM)]; exact (hna)) ?_
        rw [show gR (S) (o + 11) = leR from hrleR]
        refine x_imul dX7_areApart_70 ?_
        refine x_icmp_ge 88 dX7_areApart_71 (by decide) (fun c4 => ?_) (fun c4 => ?_)
        · refine x_iconst 1 dX7_areApart_88 (by decide) ?_
          refine x_goto 93 dX7_areApart_89 (by decide) ?_
          exact x_zreturn dX7_areApart_93 rfl (by decide) (Nat.le_of_ble_eq_true rfl) (Nat.le_of_ble_eq_true rfl) ⟨by rw [f_X7_areApart, if_neg c1, if_neg c2, if_neg c3, if_pos c4], rfl⟩
        · refine x_iload 0 dX7_areApart_74 rfl ?_
          refine x_bipush 80 dX7_areApart_76 (by decide) ?_
          refine x_icmp_ge 88 dX7_areApart_78 (by decide) (fun c5 => ?_) (fun c5 => ?_)
          · refine x_iconst 1 dX7_areApart_88 (by decide) ?_
            refine x_goto 93 dX7_areApart_89 (by decide) ?_
            exact x_zreturn dX7_areApart_93 rfl (by decide) (Nat.le_of_ble_eq_true rfl) (Nat.le_of_ble_eq_true rfl) ⟨by rw [f_X7_areApart, if_neg c1, if_neg c2, if_neg c3, if_neg c4, if_pos c5], rfl⟩
          · refine x_iload 0 dX7_areApart_81 rfl ?_
            refine x_bipush (-80) dX7_areApart_83 (by decide) ?_
            refine x_icmp_gt 92 dX7_areApart_85 (by decide) (fun c6 => ?_) (fun c6 => ?_)
            · refine x_iconst 0 dX7_areApart_92 (by decide) ?_
              exact x_zreturn dX7_areApart_93 rfl (by decide) (Nat.le_of_ble_eq_true rfl) (Nat.le_of_ble_eq_true rfl) ⟨by rw [f_X7_areApart, if_neg c1, if_neg c2, if_neg c3, if_neg c4, if_neg c5, if_pos c6], rfl⟩
            · refine x_iconst 1 dX7_areApart_88 (by decide) ?_
              refine x_goto 93 dX7_areApart_89 (by decide) ?_
              exact x_zreturn dX7_areApart_93 rfl (by decide) (Nat.le_of_ble_eq_true rfl) (Nat.le_of_ble_eq_true rfl) ⟨by rw [f_X7_areApart, if_neg c1, if_neg c2, if_neg c3, if_neg c4, if_neg c5, if_neg c6], rfl⟩
    · refine x_iconst 1 dX7_areApart_11 (by decide) ?_
      exact x_zreturn dX7_areApart_12 rfl (by decide) (Nat.le_of_ble_eq_true rfl) (Nat.le_of_ble_eq_true rfl) ⟨by rw [f_X7_areApart, if_neg c1, if_pos c2], rfl⟩
def f_X7_told (nm : Int32) (thR : Nat → Int32) (ngR : Nat → Int32) (siR : Nat → Int32) (hiR : Nat → Int32) (leR : Nat → Int32) (prR : Nat → Int32) (n : Int32) (wh : Int32) : Int32 := (if (f_X7_isName nm thR n) = 0 then (-2147483648) else (if wh = 0 then (ngR (n).toNatClampNeg) else (if wh = 1 then (siR (n).toNatClampNeg) else (if wh = 2 then (hiR (n).toNatClampNeg) else (if wh = 3 then (leR (n).toNatClampNeg) else (if wh = 4 then (prR (n).toNatClampNeg) else (-2147483648)))))))
set_option maxRecDepth 100000 in
theorem c_X7_told {k : KT} {S : HS} {o : Nat}  (nm : Int32) (thR : Nat → Int32) (ngR : Nat → Int32) (siR : Nat → Int32) (hiR : Nat → Int32) (leR : Nat → Int32) (prR : Nat → Int32) (n : Int32) (wh : Int32) (hM : MH S o) (hvnm : gI S 268 o = nm) (hrthR : gR S (o + 7) = thR) (hrngR : gR S (o + 8) = ngR) (hrsiR : gR S (o + 9) = siR) (hrhiR : gR S (o + 10) = hiR) (hrleR : gR S (o + 11) = leR) (hrprR : gR S (o + 12) = prR) (hN : nm.toInt ≤ 60) (hN0 : 0 ≤ nm.toInt) : Ct k (mt_X7_told (rm 3 0 0)) [.ref (o), .int (n), .int (wh)] S (Pu (f_X7_told nm thR ngR siR hiR leR prR n wh) S) := by
  refine Ct.ofF (by decide +kernel) (Nat.le_of_ble_eq_true rfl) ?_
  refine x_lv [(0, .ref (o)), (1, .int (n)), (2, .int (wh))] [0, 1, 2] rfl ?_
  refine x_aload_n 0 dX7_told_0 rfl ?_
  refine x_iload_n 1 dX7_told_1 rfl ?_
  refine ca_X7_139 [.int (n)] [] (c_X7_isName (nm) (thR) (n) hM hvnm hrthR hN hN0) (mhK hM) rfl dX7_told_2 rfl rfl ⟨(Nat.le_of_ble_eq_true rfl), (Nat.le_of_ble_eq_true rfl), (Nat.le_of_ble_eq_true rfl), (Nat.le_of_ble_eq_true rfl), (Nat.le_of_ble_eq_true rfl)⟩ (fun v T hq => ?_)
  obtain ⟨rfl, rfl⟩ := hq
  refine x_if_ne 11 dX7_told_5 (by decide) (fun c1 => ?_) (fun c1 => ?_)
  · refine x_iload_n 2 dX7_told_11 rfl ?_
    by_cases c2 : wh = 0
    · refine x_tableIn 36 48 dX7_told_12 (by rw [c2]; decide) (by rw [c2]; decide) (by rw [c2]; rfl) (by decide) ?_
      refine x_aload_n 0 dX7_told_48 rfl ?_
      refine gf_X7_32 rfl dX7_told_49 (mhK hM) ?_
      rw [show gP (S) 270 (o) = some (o + 8) from (mhP_nameGore hM)]
      refine x_iload_n 1 dX7_told_52 rfl ?_
      refine x_iaload dX7_told_53 (mhK_nameGore hM) (by rw [show gL (S) (o + 8) = 60 from (mhL_nameGore hM)]; exact (isName_in hN hN0 c1)) ?_
      rw [show gR (S) (o + 8) = ngR from hrngR]
      exact x_ireturn dX7_told_54 rfl (Nat.le_of_ble_eq_true rfl) (Nat.le_of_ble_eq_true rfl) ⟨by rw [f_X7_told, if_neg c1, if_pos c2], rfl⟩
    by_cases c3 : wh = 1
    · refine x_tableIn 43 55 dX7_told_12 (by rw [c3]; decide) (by rw [c3]; decide) (by rw [c3]; rfl) (by decide) ?_
      refine x_aload_n 0 dX7_told_55 rfl ?_
      refine gf_X7_35 rfl dX7_told_56 (mhK hM) ?_
      rw [show gP (S) 271 (o) = some (o + 9) from (mhP_nameSide hM)]
      refine x_iload_n 1 dX7_told_59 rfl ?_
      refine x_iaload dX7_told_60 (mhK_nameSide hM) (by rw [show gL (S) (o + 9) = 60 from (mhL_nameSide hM)]; exact (isName_in hN hN0 c1)) ?_
      rw [show gR (S) (o + 9) = siR from hrsiR]
      exact x_ireturn dX7_told_61 rfl (Nat.le_of_ble_eq_true rfl) (Nat.le_of_ble_eq_true rfl) ⟨by rw [f_X7_told, if_neg c1, if_neg c2, if_pos c3], rfl⟩
    by_cases c4 : wh = 2
    · refine x_tableIn 50 62 dX7_told_12 (by rw [c4]; decide) (by rw [c4]; decide) (by rw [c4]; rfl) (by decide) ?_
      refine x_aload_n 0 dX7_told_62 rfl ?_
      refine gf_X7_38 rfl dX7_told_63 (mhK hM) ?_
      rw [show gP (S) 272 (o) = some (o + 10) from (mhP_nameHigh hM)]
      refine x_iload_n 1 dX7_told_66 rfl ?_
      refine x_iaload dX7_told_67 (mhK_nameHigh hM) (by rw [show gL (S) (o + 10) = 60 from (mhL_nameHigh hM)]; exact (isName_in hN hN0 c1)) ?_
      rw [show gR (S) (o + 10) = hiR from hrhiR]
      exact x_ireturn dX7_told_68 rfl (Nat.le_of_ble_eq_true rfl) (Nat.le_of_ble_eq_true rfl) ⟨by rw [f_X7_told, if_neg c1, if_neg c2, if_neg c3, if_pos c4], rfl⟩
    by_cases c5 : wh = 3
    · refine x_tableIn 57 69 dX7_told_12 (by rw [c5]; decide) (by rw [c5]; decide) (by rw [c5]; rfl) (by decide) ?_
      refine x_aload_n 0 dX7_told_69 rfl ?_
      refine gf_X7_41 rfl dX7_told_70 (mhK hM) ?_
      rw [show gP (S) 273 (o) = some (o + 11) from (mhP_letters hM)]
      refine x_iload_n 1 dX7_told_73 rfl ?_
      refine x_iaload dX7_told_74 (mhK_letters hM) (by rw [show gL (S) (o + 11) = 60 from (mhL_letters hM)]; exact (isName_in hN hN0 c1)) ?_
      rw [show gR (S) (o + 11) = leR from hrleR]
      exact x_ireturn dX7_told_75 rfl (Nat.le_of_ble_eq_true rfl) (Nat.le_of_ble_eq_true rfl) ⟨by rw [f_X7_told, if_neg c1, if_neg c2, if_neg c3, if_neg c4, if_pos c5], rfl⟩
    by_cases c6 : wh = 4
    · refine x_tableIn 64 76 dX7_told_12 (by rw [c6]; decide) (by rw [c6]; decide) (by rw [c6]; rfl) (by decide) ?_
      refine x_aload_n 0 dX7_told_76 rfl ?_
      refine gf_X7_44 rfl dX7_told_77 (mhK hM) ?_
      rw [show gP (S) 274 (o) = some (o + 12) from (mhP_price hM)]
      refine x_iload_n 1 dX7_told_80 rfl ?_
      refine x_iaload dX7_told_81 (mhK_price hM) (by rw [show gL (S) (o + 12) = 60 from (mhL_price hM)]; exact (isName_in hN hN0 c1)) ?_
      rw [show gR (S) (o + 12) = prR from hrprR]
      exact x_ireturn dX7_told_82 rfl (Nat.le_of_ble_eq_true rfl) (Nat.le_of_ble_eq_true rfl) ⟨by rw [f_X7_told, if_neg c1, if_neg c2, if_neg c3, if_neg c4, if_neg c5, if_pos c6], rfl⟩
    refine x_tableOut 83 dX7_told_12 (tb_out4 c2 c3 c4 c5 c6) (by decide) ?_
    refine x_ldc dX7_told_83 tw_6_15 ?_
    exact x_ireturn dX7_told_85 rfl (Nat.le_of_ble_eq_true rfl) (Nat.le_of_ble_eq_true rfl) ⟨by rw [f_X7_told, if_neg c1, if_neg c2, if_neg c3, if_neg c4, if_neg c5, if_neg c6], rfl⟩
  · refine x_ldc dX7_told_8 tw_6_15 ?_
    exact x_ireturn dX7_told_10 rfl (Nat.le_of_ble_eq_true rfl) (Nat.le_of_ble_eq_true rfl) ⟨by rw [f_X7_told, if_pos c1], rfl⟩
theorem isGore_in {go g : Int32} (h24 : go.toInt ≤ 24) (h0 : 0 ≤ go.toInt) (c : ¬ f_X7_isGore go g = 0) : vp_in g 24 := isn_in h24 (by decide) h0 c
def f_X7_fresh (go : Int32) (frR : Nat → Int32) (g : Int32) : Int32 := (if (f_X7_isGore go g) = 0 then 0 else (if (frR (g).toNatClampNeg) = 0 then 0 else 1))
set_option maxRecDepth 100000 in
theorem c_X7_fresh {k : KT} {S : HS} {o : Nat}  (go : Int32) (frR : Nat → Int32) (g : Int32) (hM : MH S o) (hvgo : gI S 257 o = go) (hrfrR : gR S (o + 13) = frR) (h24 : go.toInt ≤ 24) (hg0 : 0 ≤ go.toInt) : Ct k (mt_X7_fresh (rm 3 0 0)) [.ref (o), .int (g)] S (Pu (f_X7_fresh go frR g) S) := by
  refine Ct.ofF (by decide +kernel) (Nat.le_of_ble_eq_true rfl) ?_
  refine x_lv [(0, .ref (o)), (1, .int (g))] [0, 1] rfl ?_
  refine x_aload_n 0 dX7_fresh_0 rfl ?_
  refine x_iload_n 1 dX7_fresh_1 rfl ?_
  refine ca_X7_121 [.int (g)] [] (c_X7_isGore (go) (g) hM hvgo) (mhK hM) rfl dX7_fresh_2 rfl rfl ⟨(Nat.le_of_ble_eq_true rfl), (Nat.le_of_ble_eq_true rfl), (Nat.le_of_ble_eq_true rfl), (Nat.le_of_ble_eq_true rfl), (Nat.le_of_ble_eq_true rfl)⟩ (fun v T hq => ?_)
  obtain ⟨rfl, rfl⟩ := hq
  refine x_if_eq 21 dX7_fresh_5 (by decide) (fun c1 => ?_) (fun c1 => ?_)
  · refine x_iconst 0 dX7_fresh_21 (by decide) ?_
    exact x_zreturn dX7_fresh_22 rfl (by decide) (Nat.le_of_ble_eq_true rfl) (Nat.le_of_ble_eq_true rfl) ⟨by rw [f_X7_fresh, if_pos c1], rfl⟩
  · refine x_aload_n 0 dX7_fresh_8 rfl ?_
    refine gf_X7_47 rfl dX7_fresh_9 (mhK hM) ?_
    rw [show gP (S) 275 (o) = some (o + 13) from (mhP_isFresh hM)]
    refine x_iload_n 1 dX7_fresh_12 rfl ?_
    refine x_baload dX7_fresh_13 (mhK_isFresh hM) (by rw [show gL (S) (o + 13) = 24 from (mhL_isFresh hM)]; exact (isGore_in h24 hg0 c1)) ?_
    rw [show gR (S) (o + 13) = frR from hrfrR]
    refine x_if_eq 21 dX7_fresh_14 (by decide) (fun c2 => ?_) (fun c2 => ?_)
    · refine x_iconst 0 dX7_fresh_21 (by decide) ?_
      exact x_zreturn dX7_fresh_22 rfl (by decide) (Nat.le_of_ble_eq_true rfl) (Nat.le_of_ble_eq_true rfl) ⟨by rw [f_X7_fresh, if_neg c1, if_pos c2], rfl⟩
    · refine x_iconst 1 dX7_fresh_17 (by decide) ?_
      refine x_goto 22 dX7_fresh_18 (by decide) ?_
      exact x_zreturn dX7_fresh_22 rfl (by decide) (Nat.le_of_ble_eq_true rfl) (Nat.le_of_ble_eq_true rfl) ⟨by rw [f_X7_fresh, if_neg c1, if_neg c2], rfl⟩
def f_X7_printed (go : Int32) (piR : Nat → Int32) (g : Int32) : Int32 := (if (f_X7_isGore go g) = 0 then (-1) else (piR (g).toNatClampNeg))
set_option maxRecDepth 100000 in
theorem c_X7_printed {k : KT} {S : HS} {o : Nat}  (go : Int32) (piR : Nat → Int32) (g : Int32) (hM : MH S o) (hvgo : gI S 257 o = go) (hrpiR : gR S (o + 14) = piR) (h24 : go.toInt ≤ 24) (hg0 : 0 ≤ go.toInt) : Ct k (mt_X7_printed (rm 3 0 0)) [.ref (o), .int (g)] S (Pu (f_X7_printed go piR g) S) := by
  refine Ct.ofF (by decide +kernel) (Nat.le_of_ble_eq_true rfl) ?_
  refine x_lv [(0, .ref (o)), (1, .int (g))] [0, 1] rfl ?_
  refine x_aload_n 0 dX7_printed_0 rfl ?_
  refine x_iload_n 1 dX7_printed_1 rfl ?_
  refine ca_X7_121 [.int (g)] [] (c_X7_isGore (go) (g) hM hvgo) (mhK hM) rfl dX7_printed_2 rfl rfl ⟨(Nat.le_of_ble_eq_true rfl), (Nat.le_of_ble_eq_true rfl), (Nat.le_of_ble_eq_true rfl), (Nat.le_of_ble_eq_true rfl), (Nat.le_of_ble_eq_true rfl)⟩ (fun v T hq => ?_)
  obtain ⟨rfl, rfl⟩ := hq
  refine x_if_eq 17 dX7_printed_5 (by decide) (fun c1 => ?_) (fun c1 => ?_)
  · refine x_iconst (-1) dX7_printed_17 (by decide) ?_
    exact x_ireturn dX7_printed_18 rfl (Nat.le_of_ble_eq_true rfl) (Nat.le_of_ble_eq_true rfl) ⟨by rw [f_X7_printed, if_pos c1], rfl⟩
  · refine x_aload_n 0 dX7_printed_8 rfl ?_
    refine gf_X7_50 rfl dX7_printed_9 (mhK hM) ?_
    rw [show gP (S) 276 (o) = some (o + 14) from (mhP_printedIn hM)]
    refine x_iload_n 1 dX7_printed_12 rfl ?_
    refine x_iaload dX7_printed_13 (mhK_printedIn hM) (by rw [show gL (S) (o + 14) = 24 from (mhL_printedIn hM)]; exact (isGore_in h24 hg0 c1)) ?_
    rw [show gR (S) (o + 14) = piR from hrpiR]
    refine x_goto 18 dX7_printed_14 (by decide) ?_
    exact x_ireturn dX7_printed_18 rfl (Nat.le_of_ble_eq_true rfl) (Nat.le_of_ble_eq_true rfl) ⟨by rw [f_X7_printed, if_neg c1], rfl⟩
