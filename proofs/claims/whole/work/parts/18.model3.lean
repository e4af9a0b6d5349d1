theorem x7_place {lon lat : Int32} (c : ¬ f_X7_isPlace lon lat = 0) : (0 ≤ lon.toInt ∧ lon.toInt ≤ 359) ∧ (-90 ≤ lat.toInt ∧ lat.toInt ≤ 90) := by
  unfold f_X7_isPlace at c
  split at c
  · exact absurd rfl c
  · rename_i c1
    split at c
    · exact absurd rfl c
    · rename_i c2
      have a := x_in_ok c1
      have b := x_in_ok c2
      rw [t_le, t_le] at a b
      exact ⟨a, b⟩
theorem wid9 {σ : MS} (h : okS σ) {Pr : Int32 → Int32 → Prop} (h6 : Pr 6 60) (h8 : Pr 8 45) (h9 : Pr 9 40) (h10 : Pr 10 36) (h12 : Pr 12 30) (h15 : Pr 15 24) (h18 : Pr 18 20) (h20 : Pr 20 18) (h24 : Pr 24 15) : Pr (σ.1 1) (σ.1 2) := by
  obtain ⟨n, h1, h2, h3⟩ := h.gn
  rw [h2, h3]
  simp only [List.mem_cons, List.not_mem_nil, or_false] at h1
  rcases h1 with rfl | rfl | rfl | rfl | rfl | rfl | rfl | rfl | rfl
  · exact h6
  · exact h8
  · exact h9
  · exact h10
  · exact h12
  · exact h15
  · exact h18
  · exact h20
  · exact h24
theorem dw_in {lon w : Int32} {n : Nat} (h1 : 0 ≤ lon.toInt) (h2 : lon.toInt ≤ 359) (hw : 0 < w.toInt) (hn : lon.toInt / w.toInt < n) : vp_in (lon / w) n := t_in (by rw [t_divp h1 hw]; exact Int.ediv_nonneg h1 (Int.le_of_lt hw)) (by rw [t_divp h1 hw]; exact hn)
theorem lw_in {σ : MS} (h : okS σ) {lon : Int32} (h1 : 0 ≤ lon.toInt) (h2 : lon.toInt ≤ 359) : vp_in (lon / σ.1 2) 24 := by
  refine wid9 h (Pr := fun _ w => vp_in (lon / w) 24) ?_ ?_ ?_ ?_ ?_ ?_ ?_ ?_ ?_ <;> refine dw_in h1 h2 (by decide) ?_
  · show lon.toInt / 60 < 24; omega
  · show lon.toInt / 45 < 24; omega
  · show lon.toInt / 40 < 24; omega
  · show lon.toInt / 36 < 24; omega
  · show lon.toInt / 30 < 24; omega
  · show lon.toInt / 24 < 24; omega
  · show lon.toInt / 20 < 24; omega
  · show lon.toInt / 18 < 24; omega
  · show lon.toInt / 15 < 24; omega
def h_X7_name (σ : MS) (lon : Int32) (lat : Int32) (le : Int32) (pr : Int32) : Int32 × MS := (if (f_X7_isPlace lon lat) = 0 then ((-1), σ) else (if (f_X7_in le 1 20) = 0 then ((-1), σ) else (if (f_X7_in pr 1 99) = 0 then ((-1), σ) else (if σ.1 12 = 60 then ((-1), σ) else (if (h_X7_namesIn (σ) ((lon / σ.1 2))) = 6 then ((-1), σ) else (((σ.1 12 + 1) - 1), fI (fR (fR (fR (fR (fR (fR (fR (σ) 7 (upd (σ.2 7) (σ.1 12).toNatClampNeg (1))) 8 (upd (σ.2 8) (σ.1 12).toNatClampNeg ((lon / σ.1 2)))) 9 (upd (σ.2 9) (σ.1 12).toNatClampNeg (((2 * (lon - ((lon / σ.1 2) * σ.1 2))) - σ.1 2)))) 10 (upd (σ.2 10) (σ.1 12).toNatClampNeg ((60 * lat)))) 11 (upd (σ.2 11) (σ.1 12).toNatClampNeg (le))) 12 (upd (σ.2 12) (σ.1 12).toNatClampNeg (pr))) 13 (upd (σ.2 13) ((lon / σ.1 2)).toNatClampNeg (1))) 12 ((σ.1 12 + 1))))))))
set_option maxRecDepth 100000 in
theorem pp_p {b : Int32} (hb : (-180 < b.toInt ∧ b.toInt < 180)) (c : 0 ≤ b) : 0 ≤ b := c
theorem pp_n {b : Int32} (hb : (-180 < b.toInt ∧ b.toInt < 180)) (c : ¬ 0 ≤ b) : 0 ≤ -b := by
  have a := t_lt.mp (Int32.not_le.mp c)
  simp only [show (0 : Int32).toInt = 0 from rfl] at a
  rw [t_le, t_neg (by omega)]
  simp only [show (0 : Int32).toInt = 0 from rfl]
  omega
theorem pq_p {b : Int32} (hb : (-180 < b.toInt ∧ b.toInt < 180)) (c0 : ¬ b = 0) (c : 0 ≤ b) : 1 ≤ b.toNatClampNeg ∧ b.toNatClampNeg < 180 := by
  have a := t_le.mp c
  simp only [show (0 : Int32).toInt = 0 from rfl] at a
  have e := t_cl a
  have n0 : b.toInt ≠ 0 := fun e => c0 (t_ext e)
  omega
theorem pq_n {b : Int32} (hb : (-180 < b.toInt ∧ b.toInt < 180)) (c0 : ¬ b = 0) (c : ¬ 0 ≤ b) : 1 ≤ (-b).toNatClampNeg ∧ (-b).toNatClampNeg < 180 := by
  have a := t_lt.mp (Int32.not_le.mp c)
  simp only [show (0 : Int32).toInt = 0 from rfl] at a
  have e1 : (-b).toInt = -b.toInt := t_neg (by omega)
  have e := t_cl (i := -b) (by rw [e1]; omega)
  omega
theorem c_X7_name {k : KT} {S : HS} {o : Nat} (σ : MS) (lon : Int32) (lat : Int32) (le : Int32) (pr : Int32) (hM : MI S o σ) (hO : okS σ) : Ct k (mt_X7_name (rm 3 0 0)) [.ref o, .int (lon), .int (lat), .int (le), .int (pr)] S (Pm o S (h_X7_name σ lon lat le pr)) := by
  refine Ct.ofF (by decide +kernel) (Nat.le_of_ble_eq_true rfl) ?_
  refine x_lv [(0, .ref (o)), (1, .int (lon)), (2, .int (lat)), (3, .int (le)), (4, .int (pr))] [0, 1, 2, 3, 4] rfl ?_
  refine x_iload_n 1 dX7_name_0 rfl ?_
  refine x_iload_n 2 dX7_name_1 rfl ?_
  refine ca_X7_82 [.int (lon), .int (lat)] [] (c_X7_isPlace (lon) (lat)) rfl dX7_name_2 rfl rfl ⟨(Nat.le_of_ble_eq_true rfl), (Nat.le_of_ble_eq_true rfl), (Nat.le_of_ble_eq_true rfl), (Nat.le_of_ble_eq_true rfl), (Nat.le_of_ble_eq_true rfl)⟩ (fun v T hq => ?_)
  obtain ⟨rfl, rfl⟩ := hq
  refine x_if_eq 38 dX7_name_5 (by decide) (fun c1 => ?_) (fun c1 => ?_)
  · refine x_iconst (-1) dX7_name_38 (by decide) ?_
    exact x_ireturn dX7_name_39 rfl (Nat.le_of_ble_eq_true rfl) (Nat.le_of_ble_eq_true rfl) ⟨by rw [h_X7_name, if_pos c1], by rw [h_X7_name, if_pos c1]; exact hM, FM.rf⟩
  · refine x_iload_n 3 dX7_name_8 rfl ?_
    refine x_iconst 1 dX7_name_9 (by decide) ?_
    refine x_bipush 20 dX7_name_10 (by decide) ?_
    refine ca_X7_69 [.int (le), .int (1), .int (20)] [] (c_X7_in (le) (1) (20)) rfl dX7_name_12 rfl rfl ⟨(Nat.le_of_ble_eq_true rfl), (Nat.le_of_ble_eq_true rfl), (Nat.le_of_ble_eq_true rfl), (Nat.le_of_ble_eq_true rfl), (Nat.le_of_ble_eq_true rfl)⟩ (fun v T hq => ?_)
    obtain ⟨rfl, rfl⟩ := hq
    refine x_if_eq 38 dX7_name_15 (by decide) (fun c2 => ?_) (fun c2 => ?_)
    · refine x_iconst (-1) dX7_name_38 (by decide) ?_
      exact x_ireturn dX7_name_39 rfl (Nat.le_of_ble_eq_true rfl) (Nat.le_of_ble_eq_true rfl) ⟨by rw [h_X7_name, if_neg c1, if_pos c2], by rw [h_X7_name, if_neg c1, if_pos c2]; exact hM, FM.rf⟩
    · refine x_iload 4 dX7_name_18 rfl ?_
      refine x_iconst 1 dX7_name_20 (by decide) ?_
      refine x_bipush 99 dX7_name_21 (by decide) ?_
      refine ca_X7_69 [.int (pr), .int (1), .int (99)] [] (c_X7_in (pr) (1) (99)) rfl dX7_name_23 rfl rfl ⟨(Nat.le_of_ble_eq_true rfl), (Nat.le_of_ble_eq_true rfl), (Nat.le_of_ble_eq_true rfl), (Nat.le_of_ble_eq_true rfl), (Nat.le_of_ble_eq_true rfl)⟩ (fun v T hq => ?_)
      obtain ⟨rfl, rfl⟩ := hq
      refine x_if_eq 38 dX7_name_26 (by decide) (fun c3 => ?_) (fun c3 => ?_)
      · refine x_iconst (-1) dX7_name_38 (by decide) ?_
        exact x_ireturn dX7_name_39 rfl (Nat.le_of_ble_eq_true rfl) (Nat.le_of_ble_eq_true rfl) ⟨by rw [h_X7_name, if_neg c1, if_neg c2, if_pos c3], by rw [h_X7_name, if_neg c1, if_neg c2, if_pos c3]; exact hM, FM.rf⟩
      · refine x_aload_n 0 dX7_name_29 rfl ?_
        refine gf_X7_133 rfl dX7_name_30 (mhK hM.1) ?_
        rw [show gI (S) 268 (o) = σ.1 12 from (hM.i 12 (by decide))]
        refine x_bipush 60 dX7_name_33 (by decide) ?_
        refine x_icmp_ne 40 dX7_name_35 (by decide) (fun c4 => ?_) (fun c4 => ?_)
        · refine x_iload_n 1 dX7_name_40 rfl ?_
          refine x_aload_n 0 dX7_name_41 rfl ?_
          refine gf_X7_66 rfl dX7_name_42 (mhK hM.1) ?_
          rw [show gI (S) 258 (o) = σ.1 2 from (hM.i 2 (by decide))]
          refine x_idiv dX7_name_45 hO.wi0 ?_
          refine x_istore [(5, .int ((lon / σ.1 2))), (0, .ref (o)), (1, .int (lon)), (2, .int (lat)), (3, .int (le)), (4, .int (pr))] dX7_name_46 (Nat.le_of_ble_eq_true rfl) rfl ?_
          refine x_aload_n 1 dX7_name_48 rfl ?_
          refine x_iload 0 dX7_name_49 rfl ?_
          refine ca_X7_136 [.int ((lon / σ.1 2))] [] (c_X7_namesIn (σ) ((lon / σ.1 2)) hM hO) (mhK hM.1) rfl dX7_name_51 rfl rfl ⟨(Nat.le_of_ble_eq_true rfl), (Nat.le_of_ble_eq_true rfl), (Nat.le_of_ble_eq_true rfl), (Nat.le_of_ble_eq_true rfl), (Nat.le_of_ble_eq_true rfl)⟩ (fun v T hq => ?_)
          obtain ⟨rfl, rfl⟩ := hq
          refine x_bipush 6 dX7_name_54 (by decide) ?_
          refine x_icmp_ne 61 dX7_name_56 (by decide) (fun c5 => ?_) (fun c5 => ?_)
          · refine x_aload_n 1 dX7_name_61 rfl ?_
            refine gf_X7_28 rfl dX7_name_62 (mhK hM.1) ?_
            rw [show gP (S) 269 (o) = some (o + 7) from (mhP_isThere hM.1)]
            refine x_aload_n 1 dX7_name_65 rfl ?_
            refine gf_X7_133 rfl dX7_name_66 (mhK hM.1) ?_
            rw [show gI (S) 268 (o) = σ.1 12 from (hM.i 12 (by decide))]
            refine x_iconst 1 dX7_name_69 (by decide) ?_
            refine x_bastore dX7_name_70 (mhK_isThere hM.1) (by rw [show gL (S) (o + 7) = 60 from (mhL_isThere hM.1)]; exact ((hO.nmIn c4))) (by decide) ?_
            rw [show gR (S) (o + 7) = σ.2 7 from (hM.r 7 (by decide))]
            obtain ⟨S6, eS6⟩ : ∃ s9 : HS, s9 = uR (S) (o + 7) (upd (σ.2 7) (σ.1 12).toNatClampNeg (1)) := ⟨_, rfl⟩
            rw [← eS6]
            have hM6 : MI S6 o (fR (σ) 7 (upd (σ.2 7) (σ.1 12).toNatClampNeg (1))) := by rw [eS6]; exact hM.pR 7 _
            have hF6 : FM o S S6 := by rw [eS6]; exact FM.rf.pR _ (by omega) (by omega)
            clear eS6
            refine x_aload_n 1 dX7_name_71 rfl ?_
            refine gf_X7_32 rfl dX7_name_72 (mhK hM6.1) ?_
            rw [show gP (S6) 270 (o) = some (o + 8) from (mhP_nameGore hM6.1)]
            refine x_aload_n 1 dX7_name_75 rfl ?_
            refine gf_X7_133 rfl dX7_name_76 (mhK hM6.1) ?_
            rw [show gI (S6) 268 (o) = σ.1 12 from (hM6.i 12 (by decide))]
            refine x_iload 0 dX7_name_79 rfl ?_
            refine x_at 81 rfl ?_
            refine x_iastore dX7_name_81 (mhK_nameGore hM6.1) (by rw [show gL (S6) (o + 8) = 60 from (mhL_nameGore hM6.1)]; exact ((hO.nmIn c4))) ?_
            rw [show gR (S6) (o + 8) = σ.2 8 from (hM6.r 8 (by decide))]
            obtain ⟨S7, eS7⟩ : ∃ s9 : HS, s9 = uR (S6) (o + 8) (upd (σ.2 8) (σ.1 12).toNatClampNeg ((lon / σ.1 2))) := ⟨_, rfl⟩
            rw [← eS7]
            have hM7 : MI S7 o (fR (fR (σ) 7 (upd (σ.2 7) (σ.1 12).toNatClampNeg (1))) 8 (upd (σ.2 8) (σ.1 12).toNatClampNeg ((lon / σ.1 2)))) := by rw [eS7]; exact hM6.pR 8 _
            have hF7 : FM o S S7 := by rw [eS7]; exact hF6.pR _ (by omega) (by omega)
            clear eS7
            refine x_aload_n 1 dX7_name_82 rfl ?_
            refine gf_X7_35 rfl dX7_name_83 (mhK hM7.1) ?_
            rw [show gP (S7) 271 (o) = some (o + 9) from (mhP_nameSide hM7.1)]
            refine x_aload_n 1 dX7_name_86 rfl ?_
            refine gf_X7_133 rfl dX7_name_87 (mhK hM7.1) ?_
            rw [show gI (S7) 268 (o) = σ.1 12 from (hM7.i 12 (by decide))]
            refine x_iconst 2 dX7_name_90 (by decide) ?_
            refine x_iload_n 2 dX7_name_91 rfl ?_
            refine x_iload 0 dX7_name_92 rfl ?_
            refine x_aload_n 1 dX7_name_94 rfl ?_
            refine gf_X7_66 rfl dX7_name_95 (mhK hM7.1) ?_
            rw [show gI (S7) 258 (o) = σ.1 2 from (hM7.i 2 (by decide))]
            refine x_imul dX7_name_98 ?_
            refine x_isub dX7_name_99 ?_
            refine x_at 100 rfl ?_
            refine x_imul dX7_name_100 ?_
            refine x_aload_n 1 dX7_name_101 rfl ?_
            refine gf_X7_66 rfl dX7_name_102 (mhK hM7.1) ?_
            rw [show gI (S7) 258 (o) = σ.1 2 from (hM7.i 2 (by decide))]
            refine x_isub dX7_name_105 ?_
            refine x_iastore dX7_name_106 (mhK_nameSide hM7.1) (by rw [show gL (S7) (o + 9) = 60 from (mhL_nameSide hM7.1)]; exact ((hO.nmIn c4))) ?_
            rw [show gR (S7) (o + 9) = σ.2 9 from (hM7.r 9 (by decide))]
            obtain ⟨S8, eS8⟩ : ∃ s9 : HS, s9 = uR (S7) (o + 9) (upd (σ.2 9) (σ.1 12).toNatClampNeg (((2 * (lon - ((lon / σ.1 2) * σ.1 2))) - σ.1 2))) := ⟨_, rfl⟩
            rw [← eS8]
            have hM8 : MI S8 o (fR (fR (fR (σ) 7 (upd (σ.2 7) (σ.1 12).toNatClampNeg (1))) 8 (upd (σ.2 8) (σ.1 12).toNatClampNeg ((lon / σ.1 2)))) 9 (upd (σ.2 9) (σ.1 12).toNatClampNeg (((2 * (lon - ((lon / σ.1 2) * σ.1 2))) - σ.1 2)))) := by rw [eS8]; exact hM7.pR 9 _
            have hF8 : FM o S S8 := by rw [eS8]; exact hF7.pR _ (by omega) (by omega)
            clear eS8
            refine x_aload_n 1 dX7_name_107 rfl ?_
            refine gf_X7_38 rfl dX7_name_108 (mhK hM8.1) ?_
            rw [show gP (S8) 272 (o) = some (o + 10) from (mhP_nameHigh hM8.1)]
            refine x_aload_n 1 dX7_name_111 rfl ?_
            refine gf_X7_133 rfl dX7_name_112 (mhK hM8.1) ?_
            rw [show gI (S8) 268 (o) = σ.1 12 from (hM8.i 12 (by decide))]
            refine x_bipush 60 dX7_name_115 (by decide) ?_
            refine x_iload_n 3 dX7_name_117 rfl ?_
            refine x_imul dX7_name_118 ?_
            refine x_at 119 rfl ?_
            refine x_iastore dX7_name_119 (mhK_nameHigh hM8.1) (by rw [show gL (S8) (o + 10) = 60 from (mhL_nameHigh hM8.1)]; exact ((hO.nmIn c4))) ?_
            rw [show gR (S8) (o + 10) = σ.2 10 from (hM8.r 10 (by decide))]
            obtain ⟨S9, eS9⟩ : ∃ s9 : HS, s9 = uR (S8) (o + 10) (upd (σ.2 10) (σ.1 12).toNatClampNeg ((60 * lat))) := ⟨_, rfl⟩
            rw [← eS9]
            have hM9 : MI S9 o (fR (fR (fR (fR (σ) 7 (upd (σ.2 7) (σ.1 12).toNatClampNeg (1))) 8 (upd (σ.2 8) (σ.1 12).toNatClampNeg ((lon / σ.1 2)))) 9 (upd (σ.2 9) (σ.1 12).toNatClampNeg (((2 * (lon - ((lon / σ.1 2) * σ.1 2))) - σ.1 2)))) 10 (upd (σ.2 10) (σ.1 12).toNatClampNeg ((60 * lat)))) := by rw [eS9]; exact hM8.pR 10 _
            have hF9 : FM o S S9 := by rw [eS9]; exact hF8.pR _ (by omega) (by omega)
            clear eS9
            refine x_aload_n 1 dX7_name_120 rfl ?_
            refine gf_X7_41 rfl dX7_name_121 (mhK hM9.1) ?_
            rw [show gP (S9) 273 (o) = some (o + 11) from (mhP_letters hM9.1)]
            refine x_aload_n 1 dX7_name_124 rfl ?_
            refine gf_X7_133 rfl dX7_name_125 (mhK hM9.1) ?_
            rw [show gI (S9) 268 (o) = σ.1 12 from (hM9.i 12 (by decide))]
            refine x_iload_n 4 dX7_name_128 rfl ?_
            refine x_iastore dX7_name_129 (mhK_letters hM9.1) (by rw [show gL (S9) (o + 11) = 60 from (mhL_letters hM9.1)]; exact ((hO.nmIn c4))) ?_
            rw [show gR (S9) (o + 11) = σ.2 11 from (hM9.r 11 (by decide))]
            obtain ⟨S10, eS10⟩ : ∃ s9 : HS, s9 = uR (S9) (o + 11) (upd (σ.2 11) (σ.1 12).toNatClampNeg (le)) := ⟨_, rfl⟩
            rw [← eS10]
            have hM10 : MI S10 o (fR (fR (fR (fR (fR (σ) 7 (upd (σ.2 7) (σ.1 12).toNatClampNeg (1))) 8 (upd (σ.2 8) (σ.1 12).toNatClampNeg ((lon / σ.1 2)))) 9 (upd (σ.2 9) (σ.1 12).toNatClampNeg (((2 * (lon - ((lon / σ.1 2) * σ.1 2))) - σ.1 2)))) 10 (upd (σ.2 10) (σ.1 12).toNatClampNeg ((60 * lat)))) 11 (upd (σ.2 11) (σ.1 12).toNatClampNeg (le))) := by rw [eS10]; exact hM9.pR 11 _
            have hF10 : FM o S S10 := by rw [eS10]; exact hF9.pR _ (by omega) (by omega)
            clear eS10
            refine x_aload_n 1 dX7_name_130 rfl ?_
            refine gf_X7_44 rfl dX7_name_131 (mhK hM10.1) ?_
            rw [show gP (S10) 274 (o) = some (o + 12) from (mhP_price hM10.1)]
            refine x_aload_n 1 dX7_name_134 rfl ?_
            refine gf_X7_133 rfl dX7_name_135 (mhK hM10.1) ?_
            rw [show gI (S10) 268 (o) = σ.1 12 from (hM10.i 12 (by decide))]
            refine x_iload 5 dX7_name_138 rfl ?_
            refine x_at 140 rfl ?_
            refine x_iastore dX7_name_140 (mhK_price hM10.1) (by rw [show gL (S10) (o + 12) = 60 from (mhL_price hM10.1)]; exact ((hO.nmIn c4))) ?_
            rw [show gR (S10) (o + 12) = σ.2 12 from (hM10.r 12 (by decide))]
            obtain ⟨S11, eS11⟩ : ∃ s9 : HS, s9 = uR (S10) (o + 12) (upd (σ.2 12) (σ.1 12).toNatClampNeg (pr)) := ⟨_, rfl⟩
            rw [← eS11]
            have hM11 : MI S11 o (fR (fR (fR (fR (fR (fR (σ) 7 (upd (σ.2 7) (σ.1 12).toNatClampNeg (1))) 8 (upd (σ.2 8) (σ.1 12).toNatClampNeg ((lon / σ.1 2)))) 9 (upd (σ.2 9) (σ.1 12).toNatClampNeg (((2 * (lon - ((lon / σ.1 2) * σ.1 2))) - σ.1 2)))) 10 (upd (σ.2 10) (σ.1 12).toNatClampNeg ((60 * lat)))) 11 (upd (σ.2 11) (σ.1 12).toNatClampNeg (le))) 12 (upd (σ.2 12) (σ.1 12).toNatClampNeg (pr))) := by rw [eS11]; exact hM10.pR 12 _
            have hF11 : FM o S S11 := by rw [eS11]; exact hF10.pR _ (by omega) (by omega)
            clear eS11
            refine x_aload_n 1 dX7_name_141 rfl ?_
            refine gf_X7_47 rfl dX7_name_142 (mhK hM11.1) ?_
            rw [show gP (S11) 275 (o) = some (o + 13) from (mhP_isFresh hM11.1)]
            refine x_iload 0 dX7_name_145 rfl ?_
            refine x_iconst 1 dX7_name_147 (by decide) ?_
            refine x_bastore dX7_name_148 (mhK_isFresh hM11.1) (by rw [show gL (S11) (o + 13) = 24 from (mhL_isFresh hM11.1)]; exact ((lw_in hO (x7_place c1).1.1 (x7_place c1).1.2))) (by decide) ?_
            rw [show gR (S11) (o + 13) = σ.2 13 from (hM11.r 13 (by decide))]
            obtain ⟨S12, eS12⟩ : ∃ s9 : HS, s9 = uR (S11) (o + 13) (upd (σ.2 13) ((lon / σ.1 2)).toNatClampNeg (1)) := ⟨_, rfl⟩
            rw [← eS12]
            have hM12 : MI S12 o (fR (fR (fR (fR (fR (fR (fR (σ) 7 (upd (σ.2 7) (σ.1 12).toNatClampNeg (1))) 8 (upd (σ.2 8) (σ.1 12).toNatClampNeg ((lon / σ.1 2)))) 9 (upd (σ.2 9) (σ.1 12).toNatClampNeg (((2 * (lon - ((lon / σ.1 2) * σ.1 2))) - σ.1 2)))) 10 (upd (σ.2 10) (σ.1 12).toNatClampNeg ((60 * lat)))) 11 (upd (σ.2 11) (σ.1 12).toNatClampNeg (le))) 12 (upd (σ.2 12) (σ.1 12).toNatClampNeg (pr))) 13 (upd (σ.2 13) ((lon / σ.1 2)).toNatClampNeg (1))) := by rw [eS12]; exact hM11.pR 13 _
            have hF12 : FM o S S12 := by rw [eS12]; exact hF11.pR _ (by omega) (by omega)
            clear eS12
            refine x_aload_n 1 dX7_name_149 rfl ?_
            refine x_dup dX7_name_150 rfl ?_
            refine gf_X7_133 rfl dX7_name_151 (mhK hM12.1) ?_
            rw [show gI (S12) 268 (o) = σ.1 12 from (hM12.i 12 (by decide))]
            refine x_iconst 1 dX7_name_154 (by decide) ?_
            refine x_iadd dX7_name_155 ?_
            refine pf_X7_133 rfl dX7_name_156 (mhK hM12.1) ?_
            obtain ⟨S13, eS13⟩ : ∃ s9 : HS, s9 = uI (S12) 268 (o) ((σ.1 12 + 1)) := ⟨_, rfl⟩
            rw [← eS13]
            have hM13 : MI S13 o (fI (fR (fR (fR (fR (fR (fR (fR (σ) 7 (upd (σ.2 7) (σ.1 12).toNatClampNeg (1))) 8 (upd (σ.2 8) (σ.1 12).toNatClampNeg ((lon / σ.1 2)))) 9 (upd (σ.2 9) (σ.1 12).toNatClampNeg (((2 * (lon - ((lon / σ.1 2) * σ.1 2))) - σ.1 2)))) 10 (upd (σ.2 10) (σ.1 12).toNatClampNeg ((60 * lat)))) 11 (upd (σ.2 11) (σ.1 12).toNatClampNeg (le))) 12 (upd (σ.2 12) (σ.1 12).toNatClampNeg (pr))) 13 (upd (σ.2 13) ((lon / σ.1 2)).toNatClampNeg (1))) 12 ((σ.1 12 + 1))) := by rw [eS13]; exact hM12.pI 12 _
            have hF13 : FM o S S13 := by rw [eS13]; exact hF12.pI _ (by decide)
            clear eS13
            refine x_at 159 rfl ?_
            refine x_aload_n 1 dX7_name_159 rfl ?_
            refine gf_X7_133 rfl dX7_name_160 (mhK hM13.1) ?_
            rw [show gI (S13) 268 (o) = (σ.1 12 + 1) from (hM13.i 12 (by decide))]
            refine x_iconst 1 dX7_name_163 (by decide) ?_
            refine x_isub dX7_name_164 ?_
            exact x_ireturn dX7_name_165 rfl (Nat.le_of_ble_eq_true rfl) (Nat.le_of_ble_eq_true rfl) ⟨by rw [h_X7_name, if_neg c1, if_neg c2, if_neg c3, if_neg c4, if_neg c5], by rw [h_X7_name, if_neg c1, if_neg c2, if_neg c3, if_neg c4, if_neg c5]; exact hM13, hF13⟩
          · refine x_iconst (-1) dX7_name_59 (by decide) ?_
            exact x_ireturn dX7_name_60 rfl (Nat.le_of_ble_eq_true rfl) (Nat.le_of_ble_eq_true rfl) ⟨by rw [h_X7_name, if_neg c1, if_neg c2, if_neg c3, if_neg c4, if_pos c5], by rw [h_X7_name, if_neg c1, if_neg c2, if_neg c3, if_neg c4, if_pos c5]; exact hM, FM.rf⟩
        · refine x_iconst (-1) dX7_name_38 (by decide) ?_
          exact x_ireturn dX7_name_39 rfl (Nat.le_of_ble_eq_true rfl) (Nat.le_of_ble_eq_true rfl) ⟨by rw [h_X7_name, if_neg c1, if_neg c2, if_neg c3, if_pos c4], by rw [h_X7_name, if_neg c1, if_neg c2, if_neg c3, if_pos c4]; exact hM, FM.rf⟩
theorem pos_nI {x : Int32} (h : 0 ≤ x) : x = nI x.toNatClampNeg := by
  have a := t_le.mp h
  simp only [show (0 : Int32).toInt = 0 from rfl] at a
  apply t_ext
  rw [nI_toInt (by have := t_cl a; have := t_rng x; omega)]
  exact (t_cl a).symm
def lp_X7_parts (σ : MS) (fr : Int32) (by_ : Int32) (P : Nat) : Nat → Nat → Int32 → Int32
  | 0, j, n => n
  | m + 1, j, n => (if 0 ≤ by_ then (if (f_X7_isEdge (σ.1 2) ((((fr + nI j) + 360) - ((fr + nI j) + 360) / 360 * 360))) = 0 then lp_X7_parts σ fr by_ P m (j + 1) ((n + 0)) else lp_X7_parts σ fr by_ P m (j + 1) ((n + 1))) else (if (f_X7_isEdge (σ.1 2) ((((fr + (-nI j)) + 360) - ((fr + (-nI j)) + 360) / 360 * 360))) = 0 then lp_X7_parts σ fr by_ P m (j + 1) ((n + 0)) else lp_X7_parts σ fr by_ P m (j + 1) ((n + 1))))
set_option maxRecDepth 100000 in
theorem l_lp_X7_parts {k : KT} {S : HS} {o : Nat} {σ : MS} (fr : Int32) (by_ : Int32) (P : Nat) (hM : MI S o σ) (hO : okS σ) (hP2 : P < 2 ^ 30) : ∀ (m : Nat) (j : Nat) (n : Int32), j + m = P → X k (mt_X7_parts (rm 2 0 0)) (Zm k (mt_X7_parts (rm 2 0 0)) (Pu (lp_X7_parts σ fr by_ P m j n) S)) 35 [(0, .ref (o)), (1, .int (fr)), (2, .int (by_)), (4, .int (nI P)), (5, .int (nI j)), (3, .int (n))] [] S 0 0 := by
  intro m
  induction m with
  | zero =>
    intro j n hj
    refine x_iload 4 dX7_parts_35 rfl ?_
    refine x_iload 3 dX7_parts_37 rfl ?_
    refine x_icmp_ge 85 dX7_parts_39 (by decide) (fun c1 => ?_) (fun c1 => ?_)
    · refine x_iload_n 5 dX7_parts_85 rfl ?_
      exact x_ireturn dX7_parts_86 rfl (Nat.le_of_ble_eq_true rfl) (Nat.le_of_ble_eq_true rfl) ⟨by rw [lp_X7_parts], rfl⟩
    · exact absurd (nI_le (by omega) (by omega)) c1
  | succ m ih =>
    intro j n hj
    refine x_iload 4 dX7_parts_35 rfl ?_
    refine x_iload 3 dX7_parts_37 rfl ?_
    refine x_icmp_ge 85 dX7_parts_39 (by decide) (fun c1 => ?_) (fun c1 => ?_)
    · exact absurd c1 (nI_ge (by omega) (by omega))
    · refine x_iload_n 5 dX7_parts_42 rfl ?_
      refine x_aload_n 0 dX7_parts_43 rfl ?_
      refine x_iload_n 1 dX7_parts_44 rfl ?_
      refine x_iload_n 2 dX7_parts_45 rfl ?_
      refine x_if_ge 55 dX7_parts_46 (by decide) (fun c2 => ?_) (fun c2 => ?_)
      · refine x_iload 4 dX7_parts_55 rfl ?_
        refine x_iadd dX7_parts_57 ?_
        refine x_sipush 360 dX7_parts_58 (by decide) ?_
        refine x_iadd dX7_parts_61 ?_
        refine x_sipush 360 dX7_parts_62 (by decide) ?_
        refine x_irem dX7_parts_65 (by decide) ?_
        refine ca_X7_95 [.int ((((fr + nI j) + 360) - ((fr + nI j) + 360) / 360 * 360))] [.int (n)] (c_X7_isEdge (σ.1 2) ((((fr + nI j) + 360) - ((fr + nI j) + 360) / 360 * 360)) hM.1 (hM.i 2 (by decide)) hO.wi0) (mhK hM.1) rfl dX7_parts_66 rfl rfl ⟨(Nat.le_of_ble_eq_true rfl), (Nat.le_of_ble_eq_true rfl), (Nat.le_of_ble_eq_true rfl), (Nat.le_of_ble_eq_true rfl), (Nat.le_of_ble_eq_true rfl)⟩ (fun v T hq => ?_)
        obtain ⟨rfl, rfl⟩ := hq
        refine x_if_eq 76 dX7_parts_69 (by decide) (fun c3 => ?_) (fun c3 => ?_)
        · refine x_iconst 0 dX7_parts_76 (by decide) ?_
          refine x_iadd dX7_parts_77 ?_
          refine x_istore_n [(3, .int ((n + 0))), (0, .ref (o)), (1, .int (fr)), (2, .int (by_)), (4, .int (nI P)), (5, .int (nI j))] dX7_parts_78 (Nat.le_of_ble_eq_true rfl) rfl ?_
          refine x_iinc 5 (nI j + 1) [(5, .int ((nI j + 1))), (3, .int ((n + 0))), (0, .ref (o)), (1, .int (fr)), (2, .int (by_)), (4, .int (nI P))] dX7_parts_79 rfl rfl (Nat.le_of_ble_eq_true rfl) rfl ?_
          refine x_goto 35 dX7_parts_82 (by decide) ?_
          refine x_lv [(0, .ref (o)), (1, .int (fr)), (2, .int (by_)), (4, .int (nI P)), (5, .int (nI (j + 1))), (3, .int ((n + 0)))] [2, 3, 4, 5, 0, 1] (by rw [← nI_1 j]; rfl) ?_
          rw [show lp_X7_parts σ fr by_ P (m + 1) j n = lp_X7_parts σ fr by_ P m (j + 1) ((n + 0)) from by rw [lp_X7_parts, if_pos c2, if_pos c3]]
          exact ih (j + 1) ((n + 0)) (by omega)
        · refine x_iconst 1 dX7_parts_72 (by decide) ?_
          refine x_goto 77 dX7_parts_73 (by decide) ?_
          refine x_iadd dX7_parts_77 ?_
          refine x_istore_n [(3, .int ((n + 1))), (0, .ref (o)), (1, .int (fr)), (2, .int (by_)), (4, .int (nI P)), (5, .int (nI j))] dX7_parts_78 (Nat.le_of_ble_eq_true rfl) rfl ?_
          refine x_iinc 5 (nI j + 1) [(5, .int ((nI j + 1))), (3, .int ((n + 1))), (0, .ref (o)), (1, .int (fr)), (2, .int (by_)), (4, .int (nI P))] dX7_parts_79 rfl rfl (Nat.le_of_ble_eq_true rfl) rfl ?_
          refine x_goto 35 dX7_parts_82 (by decide) ?_
          refine x_lv [(0, .ref (o)), (1, .int (fr)), (2, .int (by_)), (4, .int (nI P)), (5, .int (nI (j + 1))), (3, .int ((n + 1)))] [2, 3, 4, 5, 0, 1] (by rw [← nI_1 j]; rfl) ?_
          rw [show lp_X7_parts σ fr by_ P (m + 1) j n = lp_X7_parts σ fr by_ P m (j + 1) ((n + 1)) from by rw [lp_X7_parts, if_pos c2, if_neg c3]]
          exact ih (j + 1) ((n + 1)) (by omega)
      · refine x_iload 4 dX7_parts_49 rfl ?_
        refine x_ineg dX7_parts_51 ?_
        refine x_goto 57 dX7_parts_52 (by decide) ?_
        refine x_iadd dX7_parts_57 ?_
        refine x_sipush 360 dX7_parts_58 (by decide) ?_
        refine x_iadd dX7_parts_61 ?_
        refine x_sipush 360 dX7_parts_62 (by decide) ?_
        refine x_irem dX7_parts_65 (by decide) ?_
        refine ca_X7_95 [.int ((((fr + (-nI j)) + 360) - ((fr + (-nI j)) + 360) / 360 * 360))] [.int (n)] (c_X7_isEdge (σ.1 2) ((((fr + (-nI j)) + 360) - ((fr + (-nI j)) + 360) / 360 * 360)) hM.1 (hM.i 2 (by decide)) hO.wi0) (mhK hM.1) rfl dX7_parts_66 rfl rfl ⟨(Nat.le_of_ble_eq_true rfl), (Nat.le_of_ble_eq_true rfl), (Nat.le_of_ble_eq_true rfl), (Nat.le_of_ble_eq_true rfl), (Nat.le_of_ble_eq_true rfl)⟩ (fun v T hq => ?_)
        obtain ⟨rfl, rfl⟩ := hq
        refine x_if_eq 76 dX7_parts_69 (by decide) (fun c4 => ?_) (fun c4 => ?_)
        · refine x_iconst 0 dX7_parts_76 (by decide) ?_
          refine x_iadd dX7_parts_77 ?_
          refine x_istore_n [(3, .int ((n + 0))), (0, .ref (o)), (1, .int (fr)), (2, .int (by_)), (4, .int (nI P)), (5, .int (nI j))] dX7_parts_78 (Nat.le_of_ble_eq_true rfl) rfl ?_
          refine x_iinc 5 (nI j + 1) [(5, .int ((nI j + 1))), (3, .int ((n + 0))), (0, .ref (o)), (1, .int (fr)), (2, .int (by_)), (4, .int (nI P))] dX7_parts_79 rfl rfl (Nat.le_of_ble_eq_true rfl) rfl ?_
          refine x_goto 35 dX7_parts_82 (by decide) ?_
          refine x_lv [(0, .ref (o)), (1, .int (fr)), (2, .int (by_)), (4, .int (nI P)), (5, .int (nI (j + 1))), (3, .int ((n + 0)))] [2, 3, 4, 5, 0, 1] (by rw [← nI_1 j]; rfl) ?_
          rw [show lp_X7_parts σ fr by_ P (m + 1) j n = lp_X7_parts σ fr by_ P m (j + 1) ((n + 0)) from by rw [lp_X7_parts, if_neg c2, if_pos c4]]
          exact ih (j + 1) ((n + 0)) (by omega)
        · refine x_iconst 1 dX7_parts_72 (by decide) ?_
          refine x_goto 77 dX7_parts_73 (by decide) ?_
          refine x_iadd dX7_parts_77 ?_
          refine x_istore_n [(3, .int ((n + 1))), (0, .ref (o)), (1, .int (fr)), (2, .int (by_)), (4, .int (nI P)), (5, .int (nI j))] dX7_parts_78 (Nat.le_of_ble_eq_true rfl) rfl ?_
          refine x_iinc 5 (nI j + 1) [(5, .int ((nI j + 1))), (3, .int ((n + 1))), (0, .ref (o)), (1, .int (fr)), (2, .int (by_)), (4, .int (nI P))] dX7_parts_79 rfl rfl (Nat.le_of_ble_eq_true rfl) rfl ?_
          refine x_goto 35 dX7_parts_82 (by decide) ?_
          refine x_lv [(0, .ref (o)), (1, .int (fr)), (2, .int (by_)), (4, .int (nI P)), (5, .int (nI (j + 1))), (3, .int ((n + 1)))] [2, 3, 4, 5, 0, 1] (by rw [← nI_1 j]; rfl) ?_
          rw [show lp_X7_parts σ fr by_ P (m + 1) j n = lp_X7_parts σ fr by_ P m (j + 1) ((n + 1)) from by rw [lp_X7_parts, if_neg c2, if_neg c4]]
          exact ih (j + 1) ((n + 1)) (by omega)
def h_X7_parts (σ : MS) (fr : Int32) (by_ : Int32) : Int32 := (if by_ = 0 then (if (f_X7_isEdge (σ.1 2) fr) = 0 then 1 else 2) else (if 0 ≤ by_ then lp_X7_parts (σ) (fr) (by_) (by_).toNatClampNeg ((by_).toNatClampNeg - 1) 1 (1) else lp_X7_parts (σ) (fr) (by_) ((-by_)).toNatClampNeg (((-by_)).toNatClampNeg - 1) 1 (1)))
set_option maxRecDepth 100000 in
theorem c_X7_parts {k : KT} {S : HS} {o : Nat} (σ : MS) (fr : Int32) (by_ : Int32) (hM : MI S o σ) (hO : okS σ) (hb : (-180 < by_.toInt ∧ by_.toInt < 180)) : Ct k (mt_X7_parts (rm 2 0 0)) [.ref o, .int (fr), .int (by_)] S (Pu (h_X7_parts σ fr by_) S) := by
  refine Ct.ofF (by decide +kernel) (Nat.le_of_ble_eq_true rfl) ?_
  refine x_lv [(0, .ref (o)), (1, .int (fr)), (2, .int (by_))] [0, 1, 2] rfl ?_
  refine x_iload_n 2 dX7_parts_0 rfl ?_
  refine x_if_ne 18 dX7_parts_1 (by decide) (fun c1 => ?_) (fun c1 => ?_)
  · refine x_iconst 1 dX7_parts_18 (by decide) ?_
    refine x_istore_n [(3, .int (1)), (0, .ref (o)), (1, .int (fr)), (2, .int (by_))] dX7_parts_19 (Nat.le_of_ble_eq_true rfl) rfl ?_
    refine x_iload_n 3 dX7_parts_20 rfl ?_
    refine x_if_ge 29 dX7_parts_21 (by decide) (fun c2 => ?_) (fun c2 => ?_)
    · refine x_iload_n 3 dX7_parts_29 rfl ?_
      refine x_istore [(4, .int (by_)), (3, .int (1)), (0, .ref (o)), (1, .int (fr)), (2, .int (by_))] dX7_parts_30 (Nat.le_of_ble_eq_true rfl) rfl ?_
      refine x_iconst 1 dX7_parts_32 (by decide) ?_
      refine x_istore [(5, .int (1)), (4, .int (by_)), (3, .int (1)), (0, .ref (o)), (1, .int (fr)), (2, .int (by_))] dX7_parts_33 (Nat.le_of_ble_eq_true rfl) rfl ?_
      obtain ⟨P, eP⟩ : ∃ q : Nat, q = (by_).toNatClampNeg := ⟨_, rfl⟩
      have hst : by_ = nI P := by rw [eP]; exact pos_nI (pp_p hb c2)
      have hP0 : 1 ≤ P ∧ P < 180 := by rw [eP]; exact pq_p hb c1 c2
      refine x_lv [(0, .ref (o)), (1, .int (fr)), (2, .int (by_)), (4, .int (nI P)), (5, .int (nI 1)), (3, .int (1))] [3, 4, 5, 1, 0, 2] (by rw [← hst]; rfl) ?_
      rw [show h_X7_parts σ fr by_ = lp_X7_parts (σ) (fr) (by_) P (P - 1) 1 (1) from by rw [h_X7_parts, if_neg c1, if_pos c2, ← eP]]
      exact l_lp_X7_parts (fr) (by_) P hM hO (by omega) (P - 1) 1 (1) (by omega)
    · refine x_iload_n 3 dX7_parts_24 rfl ?_
      refine x_ineg dX7_parts_25 ?_
      refine x_goto 30 dX7_parts_26 (by decide) ?_
      refine x_istore [(4, .int ((-by_))), (3, .int (1)), (0, .ref (o)), (1, .int (fr)), (2, .int (by_))] dX7_parts_30 (Nat.le_of_ble_eq_true rfl) rfl ?_
      refine x_iconst 1 dX7_parts_32 (by decide) ?_
      refine x_istore [(5, .int (1)), (4, .int ((-by_))), (3, .int (1)), (0, .ref (o)), (1, .int (fr)), (2, .int (by_))] dX7_parts_33 (Nat.le_of_ble_eq_true rfl) rfl ?_
      obtain ⟨P, eP⟩ : ∃ q : Nat, q = ((-by_)).toNatClampNeg := ⟨_, rfl⟩
      have hst : (-by_) = nI P := by rw [eP]; exact pos_nI (pp_n hb c2)
      have hP0 : 1 ≤ P ∧ P < 180 := by rw [eP]; exact pq_n hb c1 c2
      refine x_lv [(0, .ref (o)), (1, .int (fr)), (2, .int (by_)), (4, .int (nI P)), (5, .int (nI 1)), (3, .int (1))] [3, 4, 5, 1, 0, 2] (by rw [← hst]; rfl) ?_
      rw [show h_X7_parts σ fr by_ = lp_X7_parts (σ) (fr) (by_) P (P - 1) 1 (1) from by rw [h_X7_parts, if_neg c1, if_neg c2, ← eP]]
      exact l_lp_X7_parts (fr) (by_) P hM hO (by omega) (P - 1) 1 (1) (by omega)
  · refine x_aload_n 0 dX7_parts_4 rfl ?_
    refine x_iload_n 1 dX7_parts_5 rfl ?_
    refine ca_X7_95 [.int (fr)] [] (c_X7_isEdge (σ.1 2) (fr) hM.1 (hM.i 2 (by decide)) hO.wi0) (mhK hM.1) rfl dX7_parts_6 rfl rfl ⟨(Nat.le_of_ble_eq_true rfl), (Nat.le_of_ble_eq_true rfl), (Nat.le_of_ble_eq_true rfl), (Nat.le_of_ble_eq_true rfl), (Nat.le_of_ble_eq_true rfl)⟩ (fun v T hq => ?_)
    obtain ⟨rfl, rfl⟩ := hq
    refine x_if_eq 16 dX7_parts_9 (by decide) (fun c3 => ?_) (fun c3 => ?_)
    · refine x_iconst 1 dX7_parts_16 (by decide) ?_
      exact x_ireturn dX7_parts_17 rfl (Nat.le_of_ble_eq_true rfl) (Nat.le_of_ble_eq_true rfl) ⟨by rw [h_X7_parts, if_pos c1, if_pos c3], rfl⟩
    · refine x_iconst 2 dX7_parts_12 (by decide) ?_
      refine x_goto 17 dX7_parts_13 (by decide) ?_
      exact x_ireturn dX7_parts_17 rfl (Nat.le_of_ble_eq_true rfl) (Nat.le_of_ble_eq_true rfl) ⟨by rw [h_X7_parts, if_pos c1, if_neg c3], rfl⟩
