/-! NAME -/
theorem gor9 {n : Nat} (h : n ∈ [6, 8, 9, 10, 12, 15, 18, 20, 24]) : n * (360 / n) = 360 ∧ 15 ≤ 360 / n ∧ 360 / n ≤ 60 := by
  simp only [List.mem_cons, List.not_mem_nil, or_false] at h
  rcases h with rfl | rfl | rfl | rfl | rfl | rfl | rfl | rfl | rfl <;> decide
theorem fm_nI {d : Nat} (h : d < 360) : f_X6_rest (nI d) 360 = nI d := by
  refine t_ext ?_
  rw [t_rs (by decide), nI_toInt (by omega)]
  show (d : Int) % 360 = d
  omega
theorem wid_n {σ : MS} {n : Nat} (hO : okS σ) (h1 : σ.1 1 = nI n) (hn : n ∈ [6, 8, 9, 10, 12, 15, 18, 20, 24]) : σ.1 2 = nI (360 / n) := by
  obtain ⟨m, hm, e1, e2⟩ := hO.w
  have a := gor_le hm
  have b := gor_le hn
  have e : m = n := (nI_eq (by omega) (by omega)).mp (e1.symm.trans h1)
  rw [e2, e]
theorem wid_pos {σ : MS} {n : Nat} (hO : okS σ) (h1 : σ.1 1 = nI n) (hn : n ∈ [6, 8, 9, 10, 12, 15, 18, 20, 24]) : 0 < (σ.1 2).toInt := by
  have h9 := gor9 hn
  rw [wid_n hO h1 hn]
  generalize 360 / n = W at *
  rw [nI_toInt (by omega)]; omega
theorem gore_of {σ : MS} {n : Nat} {lon : Int32} (hO : okS σ) (h1 : σ.1 1 = nI n) (hn : n ∈ [6, 8, 9, 10, 12, 15, 18, 20, 24]) (hl : 0 ≤ lon.toInt ∧ lon.toInt ≤ 359) : ∃ g : Nat, g < n ∧ lon / σ.1 2 = nI g ∧ f_X6_sideOf (σ.1 2) lon (nI g) = 2 * (lon - nI g * σ.1 2) - σ.1 2 ∧ (-60 ≤ (f_X6_sideOf (σ.1 2) lon (nI g)).toInt ∧ (f_X6_sideOf (σ.1 2) lon (nI g)).toInt ≤ 60) := by
  have h9 := gor9 hn
  have hw := wid_n hO h1 hn
  obtain ⟨l, hl2, rfl⟩ := nI_of (x := lon) (by rw [t_lt]; show ¬ lon.toInt < 0; omega)
  rw [nI_toInt hl2] at hl
  generalize 360 / n = W at *
  rw [hw]
  have hdm := Nat.div_add_mod l W
  have hmod := Nat.mod_lt l (show 0 < W by omega)
  have hcm : l / W * W = W * (l / W) := Nat.mul_comm _ _
  have hs : nI l - nI (l / W) * nI W = nI (l % W) := by
    rw [pk_mul, pk_sub (by omega)]
    congr 1; omega
  refine ⟨l / W, ?_, pk_div hl2 (by omega) (by omega), ?_, ?_⟩
  · exact (Nat.div_lt_iff_lt_mul (by omega)).mpr (by omega)
  · unfold f_X6_sideOf
    rw [hs, fm_nI (by omega)]
  · unfold f_X6_sideOf
    rw [hs, fm_nI (by omega), show (2 : Int32) * nI (l % W) = nI (2 * (l % W)) from pk_mul 2 _, pk_sub_toInt (by omega) (by omega)]
    omega
theorem lat_rng {lat : Int32} (h : -90 ≤ lat.toInt ∧ lat.toInt ≤ 90) : (-5400) ≤ 60 * lat ∧ 60 * lat ≤ 5400 := by
  have e : (60 * lat).toInt = 60 * lat.toInt := t_mul (by show _ ≤ 60 * lat.toInt; omega) (by show 60 * lat.toInt < _; omega)
  refine ⟨t_le.mpr ?_, t_le.mpr ?_⟩
  · rw [e]; show -5400 ≤ _; omega
  · rw [e]; show _ ≤ 5400; omega
theorem okS_name {σ : MS} (h : okS σ) (lon lat le pr : Int32) : okS (h_X7_name σ lon lat le pr).2 := by
  unfold h_X7_name
  by_cases c1 : f_X7_isPlace lon lat = 0
  · rw [if_pos c1]; exact h
  rw [if_neg c1]
  by_cases c2 : f_X7_in le 1 20 = 0
  · rw [if_pos c2]; exact h
  rw [if_neg c2]
  by_cases c3 : f_X7_in pr 1 99 = 0
  · rw [if_pos c3]; exact h
  rw [if_neg c3]
  by_cases c4 : σ.1 12 = 60
  · rw [if_pos c4]; exact h
  rw [if_neg c4]
  by_cases c5 : h_X7_namesIn σ (lon / σ.1 2) = 6
  · rw [if_pos c5]; exact h
  rw [if_neg c5]
  have hpl := place_lat c1
  have hv := vp_in_iff.mp (h.w.lw hpl.1.1 hpl.1.2)
  obtain ⟨p, hp, e12⟩ := h.2.1.2.2
  have hne : p ≠ 60 := fun z => c4 (by rw [e12, z]; rfl)
  exact (((((((h.u7 (Or.inr rfl)).u8 hv).free (by decide)).u10 (lat_rng hpl.2)).free (by decide)).free (by decide)).u13 (Or.inr rfl)).fld (by decide) (fun z => absurd z (by decide)) (fun z => absurd z (by decide)) (fun _ => ⟨p + 1, by omega, by rw [e12, nI_1]⟩) (fun z => absurd z (by decide)) (fun z => absurd z (by decide))
theorem nm_no {σ : MS} {lon lat le pr : Int32} (h : f_X6_isPlace lon lat = 0 ∨ le < 1 ∨ 20 < le ∨ pr < 1 ∨ 99 < pr ∨ σ.1 12 = 60) : h_X7_name σ lon lat le pr = (-1, σ) := by
  unfold h_X7_name
  rw [place_eq] at h
  by_cases c1 : f_X7_isPlace lon lat = 0
  · rw [if_pos c1]
  rw [if_neg c1]
  by_cases c2 : f_X7_in le 1 20 = 0
  · rw [if_pos c2]
  rw [if_neg c2]
  by_cases c3 : f_X7_in pr 1 99 = 0
  · rw [if_pos c3]
  rw [if_neg c3]
  by_cases c4 : σ.1 12 = 60
  · rw [if_pos c4]
  exfalso
  rw [in_zero] at c2 c3
  rcases h with h | h | h | h | h | h
  · exact c1 h
  · exact c2 (Or.inl h)
  · exact c2 (Or.inr h)
  · exact c3 (Or.inl h)
  · exact c3 (Or.inr h)
  · exact c4 h
set_option maxRecDepth 100000 in
theorem c_X6_name {k : KT} {S : HS} {x n c q p : Nat} {ca pa na : Nat → Nat} {σ : MS} (hI : CX k S x n c q p ca pa na σ) (hO : okS σ) (lon lat le pr : Int32) : Ct k (mt_X6_name (rm 14 3 1809)) [.ref x, .int lon, .int lat, .int le, .int pr] S (fun v T => v = some (.int (h_X7_name σ lon lat le pr).1) ∧ CI k T x (h_X7_name σ lon lat le pr).2 ∧ FX x S T) := by
  have hp := hI.p1
  have hnb := hI.nb
  have hcos : cosOk (σ.2 1) := fun j hj => hO.1.2 j hj
  have hp60 : ¬ nI p < 60 → σ.1 12 = 60 := fun z => by
    rw [show (60 : Int32) = nI 60 from rfl] at z ⊢
    rw [nI_ltI (by omega) (by decide)] at z
    rw [hp.2, show p = 60 by omega]
  refine Ct.ofF (by decide +kernel) (Nat.le_of_ble_eq_true rfl) ?_
  refine x_lv [(0, .ref (x)), (1, .int (lon)), (2, .int (lat)), (3, .int (le)), (4, .int (pr))] [0, 1, 2, 3, 4] rfl ?_
  refine x_iload_n 1 dX6_name_0 rfl ?_
  refine x_iload_n 2 dX6_name_1 rfl ?_
  refine ca_X6_56 [.int (lon), .int (lat)] [] (c_X6_isPlace (lon) (lat)) rfl dX6_name_2 rfl rfl ⟨(Nat.le_of_ble_eq_true rfl), (Nat.le_of_ble_eq_true rfl), (Nat.le_of_ble_eq_true rfl), (Nat.le_of_ble_eq_true rfl), (Nat.le_of_ble_eq_true rfl)⟩ (fun v T hq => ?_)
  obtain ⟨rfl, rfl⟩ := hq
  refine x_if_eq 44 dX6_name_5 (by decide) (fun c1 => ?_) (fun c1 => ?_)
  · refine x_iconst (-1) dX6_name_44 (by decide) ?_
    exact x_ireturn dX6_name_45 rfl (Nat.le_of_ble_eq_true rfl) (Nat.le_of_ble_eq_true rfl) ⟨by rw [nm_no (Or.inl c1)], by rw [nm_no (Or.inl c1)]; exact ⟨n, c, q, p, ca, pa, na, hI⟩, FX.rf⟩
  · refine x_iload_n 3 dX6_name_8 rfl ?_
    refine x_iconst 1 dX6_name_9 (by decide) ?_
    refine x_icmp_lt 44 dX6_name_10 (by decide) (fun c2 => ?_) (fun c2 => ?_)
    · refine x_iconst (-1) dX6_name_44 (by decide) ?_
      exact x_ireturn dX6_name_45 rfl (Nat.le_of_ble_eq_true rfl) (Nat.le_of_ble_eq_true rfl) ⟨by rw [nm_no (Or.inr (Or.inl c2))], by rw [nm_no (Or.inr (Or.inl c2))]; exact ⟨n, c, q, p, ca, pa, na, hI⟩, FX.rf⟩
    · refine x_iload_n 3 dX6_name_13 rfl ?_
      refine x_bipush 20 dX6_name_14 (by decide) ?_
      refine x_icmp_gt 44 dX6_name_16 (by decide) (fun c3 => ?_) (fun c3 => ?_)
      · refine x_iconst (-1) dX6_name_44 (by decide) ?_
        exact x_ireturn dX6_name_45 rfl (Nat.le_of_ble_eq_true rfl) (Nat.le_of_ble_eq_true rfl) ⟨by rw [nm_no (Or.inr (Or.inr (Or.inl c3)))], by rw [nm_no (Or.inr (Or.inr (Or.inl c3)))]; exact ⟨n, c, q, p, ca, pa, na, hI⟩, FX.rf⟩
      · refine x_iload 4 dX6_name_19 rfl ?_
        refine x_iconst 1 dX6_name_21 (by decide) ?_
        refine x_icmp_lt 44 dX6_name_22 (by decide) (fun c4 => ?_) (fun c4 => ?_)
        · refine x_iconst (-1) dX6_name_44 (by decide) ?_
          exact x_ireturn dX6_name_45 rfl (Nat.le_of_ble_eq_true rfl) (Nat.le_of_ble_eq_true rfl) ⟨by rw [nm_no (Or.inr (Or.inr (Or.inr (Or.inl c4))))], by rw [nm_no (Or.inr (Or.inr (Or.inr (Or.inl c4))))]; exact ⟨n, c, q, p, ca, pa, na, hI⟩, FX.rf⟩
        · refine x_iload 4 dX6_name_25 rfl ?_
          refine x_bipush 99 dX6_name_27 (by decide) ?_
          refine x_icmp_gt 44 dX6_name_29 (by decide) (fun c5 => ?_) (fun c5 => ?_)
          · refine x_iconst (-1) dX6_name_44 (by decide) ?_
            exact x_ireturn dX6_name_45 rfl (Nat.le_of_ble_eq_true rfl) (Nat.le_of_ble_eq_true rfl) ⟨by rw [nm_no (Or.inr (Or.inr (Or.inr (Or.inr (Or.inl c5)))))], by rw [nm_no (Or.inr (Or.inr (Or.inr (Or.inr (Or.inl c5)))))]; exact ⟨n, c, q, p, ca, pa, na, hI⟩, FX.rf⟩
          · refine x_aload_n 0 dX6_name_32 rfl ?_
            refine gf_X6_16 rfl dX6_name_33 hI.l.1 ?_
            rw [show gP (S) 227 (x) = some (x + 2) from hI.l.2.1.2.2.1]
            refine ca_X6_60 [] [] (c_al_size hI.w.1.1) hI.w.1.1 rfl dX6_name_36 rfl rfl ⟨(Nat.le_of_ble_eq_true rfl), (Nat.le_of_ble_eq_true rfl), (Nat.le_of_ble_eq_true rfl), (Nat.le_of_ble_eq_true rfl), (Nat.le_of_ble_eq_true rfl)⟩ (fun v T hq => ?_)
            obtain ⟨rfl, hz9⟩ := hq
            obtain rfl := hz9.symm
            rw [show gI (S) 2 (x + 2) = nI p from (by rw [hI.w.1.2.1, List.length_map, List.length_range])]
            refine x_bipush 60 dX6_name_39 (by decide) ?_
            refine x_icmp_lt 46 dX6_name_41 (by decide) (fun c6 => ?_) (fun c6 => ?_)
            · have hpl := place_lat (lon := lon) (lat := lat) (by rw [← place_eq]; exact c1)
              obtain ⟨g, hg, eg, es, hsd⟩ := gore_of hO hI.n1 hI.nn hpl.1
              have hplt : p < 60 := (nI_ltI (by omega) (by decide)).mp (c6 : nI p < nI 60)
              have hle : 1 ≤ le.toInt ∧ le.toInt ≤ 20 := ⟨t_le.mp (Int32.not_lt.mp c2), t_le.mp (Int32.not_lt.mp c3)⟩
              have hpr : 1 ≤ pr.toInt ∧ pr.toInt ≤ 99 := ⟨t_le.mp (Int32.not_lt.mp c4), t_le.mp (Int32.not_lt.mp c5)⟩
              have hwi := hO.w.wi0
              have hif : h_X7_name σ lon lat le pr = if h_X7_namesIn σ (nI g) = 6 then (-1, σ) else (nI p + 1 - 1, fR (nmA σ p (nI g) (f_X6_sideOf (σ.1 2) lon (nI g)) (lat * 60) le pr) 13 (upd ((nmA σ p (nI g) (f_X6_sideOf (σ.1 2) lon (nI g)) (lat * 60) le pr).2 13) g 1)) := by
                rw [h_X7_name, if_neg (by rw [← place_eq]; exact c1), if_neg (by rw [in_zero]; exact fun z => z.elim c2 c3), if_neg (by rw [in_zero]; exact fun z => z.elim c4 c5), if_neg (show ¬ σ.1 12 = 60 from fun z => absurd ((nI_eq (b := 60) (by omega) (by decide)).mp (hp.2.symm.trans z)) (by omega)), eg, hp.2, nI_clamp (by omega), nI_clamp (by omega), ← es, Int32.mul_comm 60 lat]
                rfl
              rw [namesIn_eq hp.1 hp.2] at hif
              refine x_iload_n 1 dX6_name_46 rfl ?_
              refine x_aload_n 0 dX6_name_47 rfl ?_
              refine gf_X6_34 rfl dX6_name_48 hI.l.1 ?_
              rw [show gI (S) 224 (x) = σ.1 2 from hI.m.1.1]
              refine ca_X6_30 [.int (lon), .int (σ.1 2)] [] (c_X6_wholes (lon) (σ.1 2)) rfl dX6_name_51 rfl rfl ⟨(Nat.le_of_ble_eq_true rfl), (Nat.le_of_ble_eq_true rfl), (Nat.le_of_ble_eq_true rfl), (Nat.le_of_ble_eq_true rfl), (Nat.le_of_ble_eq_true rfl)⟩ (fun v T hq => ?_)
              obtain ⟨rfl, rfl⟩ := hq
              rw [wh_div hpl.1.1 (wid_pos hO hI.n1 hI.nn), eg]
              refine x_istore [(5, .int (nI g)), (0, .ref (x)), (1, .int (lon)), (2, .int (lat)), (3, .int (le)), (4, .int (pr))] dX6_name_54 (Nat.le_of_ble_eq_true rfl) rfl ?_
              refine x_aload_n 1 dX6_name_56 rfl ?_
              refine x_iload 0 dX6_name_57 rfl ?_
              refine ca_X6_109 [.int (nI g)] [] (c_goreOf hI hg) hI.l.1 rfl dX6_name_59 rfl rfl ⟨(Nat.le_of_ble_eq_true rfl), (Nat.le_of_ble_eq_true rfl), (Nat.le_of_ble_eq_true rfl), (Nat.le_of_ble_eq_true rfl), (Nat.le_of_ble_eq_true rfl)⟩ (fun v T hq => ?_)
              obtain ⟨rfl, rfl⟩ := hq
              refine x_astore [(6, .ref (x + 7 + 3 * g)), (5, .int (nI g)), (0, .ref (x)), (1, .int (lon)), (2, .int (lat)), (3, .int (le)), (4, .int (pr))] dX6_name_62 (Nat.le_of_ble_eq_true rfl) rfl ?_
              refine x_aload 0 dX6_name_64 rfl ?_
              refine x_ifnull dX6_name_66 ?_
              refine x_at 69 rfl ?_
              refine x_aload 0 dX6_name_69 rfl ?_
              refine gf_X6_159 rfl dX6_name_71 (hI.l.2.2.2.2.2 g hg).2.1 ?_
              rw [show gP (S) 65 (x + 7 + 3 * g) = some (x + 9 + 3 * g) from (hI.l.2.2.2.2.2 g hg).2.2.2]
              refine ca_X6_60 [] [] (c_al_size (hI.w.2.2.2 g hg).1.1) (hI.w.2.2.2 g hg).1.1 rfl dX6_name_74 rfl rfl ⟨(Nat.le_of_ble_eq_true rfl), (Nat.le_of_ble_eq_true rfl), (Nat.le_of_ble_eq_true rfl), (Nat.le_of_ble_eq_true rfl), (Nat.le_of_ble_eq_true rfl)⟩ (fun v T hq => ?_)
              obtain ⟨rfl, hz9⟩ := hq
              obtain rfl := hz9.symm
              rw [show gI (S) 2 (x + 9 + 3 * g) = nI (hl σ p g).length from (by rw [(hI.w.2.2.2 g hg).1.2.1, List.length_map])]
              refine x_bipush 6 dX6_name_77 (by decide) ?_
              refine x_icmp_lt 84 dX6_name_79 (by decide) (fun c7 => ?_) (fun c7 => ?_)
              · refine x_aload_n 2 dX6_name_84 rfl ?_
                refine x_iload_n 3 dX6_name_85 rfl ?_
                refine x_iload 1 dX6_name_86 rfl ?_
                refine ca_X6_160 [.int (lon), .int (nI g)] [] (c_X6_sideOf (σ.1 2) (lon) (nI g) hI.l.1 hI.m.1.1) hI.l.1 rfl dX6_name_88 rfl rfl ⟨(Nat.le_of_ble_eq_true rfl), (Nat.le_of_ble_eq_true rfl), (Nat.le_of_ble_eq_true rfl), (Nat.le_of_ble_eq_true rfl), (Nat.le_of_ble_eq_true rfl)⟩ (fun v T hq => ?_)
                obtain ⟨rfl, rfl⟩ := hq
                refine x_istore [(7, .int ((f_X6_sideOf (σ.1 2) lon (nI g)))), (6, .ref (x + 7 + 3 * g)), (5, .int (nI g)), (0, .ref (x)), (1, .int (lon)), (2, .int (lat)), (3, .int (le)), (4, .int (pr))] dX6_name_91 (Nat.le_of_ble_eq_true rfl) rfl ?_
                refine x_iload_n 5 dX6_name_93 rfl ?_
                refine x_bipush 60 dX6_name_94 (by decide) ?_
                refine x_imul dX6_name_96 ?_
                refine x_istore [(8, .int ((lat * 60))), (7, .int ((f_X6_sideOf (σ.1 2) lon (nI g)))), (6, .ref (x + 7 + 3 * g)), (5, .int (nI g)), (0, .ref (x)), (1, .int (lon)), (2, .int (lat)), (3, .int (le)), (4, .int (pr))] dX6_name_97 (Nat.le_of_ble_eq_true rfl) rfl ?_
                have hln : (hl σ p g).length < 6 := (nI_ltI (by have := (hI.w.2.2.2 g hg).2; omega) (by decide)).mp (c7 : nI (hl σ p g).length < nI 6)
                rw [if_neg (show ¬ nI (hl σ p g).length = 6 from fun z => absurd ((nI_eq (b := 6) (by omega) (by decide)).mp z) (by omega))] at hif
                rw [hif]
                have hO2 := okS_name hO lon lat le pr
                rw [hif] at hO2
                obtain ⟨sd, esd⟩ : ∃ z : Int32, z = f_X6_sideOf (σ.1 2) lon (nI g) := ⟨_, rfl⟩
                rw [← esd] at hO2 hsd ⊢
                obtain ⟨ht, eht⟩ : ∃ z : Int32, z = lat * 60 := ⟨_, rfl⟩
                rw [← eht] at hO2 ⊢
                have hht : (-5400) ≤ ht ∧ ht ≤ 5400 := by rw [eht, Int32.mul_comm]; exact lat_rng hpl.2
                refine nw_X6_163 rfl dX6_name_99 (Nat.le_of_ble_eq_true rfl) (Nat.le_of_ble_eq_true rfl) ?_
                refine x_dup dX6_name_102 rfl ?_
                refine x_at 103 rfl ?_
                refine x_iload 3 dX6_name_103 rfl ?_
                refine x_iload 1 dX6_name_105 rfl ?_
                refine x_iload 0 dX6_name_107 rfl ?_
                refine x_iload 1 dX6_name_109 rfl ?_
                refine x_iload 0 dX6_name_111 rfl ?_
                refine ca_X6_52 [.int (sd), .int (ht)] [.int (ht), .int (sd), .int (nI g), .ref (gN S), .ref (gN S)] (c_X6_xOf (sd) (ht)) rfl dX6_name_113 rfl rfl ⟨(Nat.le_of_ble_eq_true rfl), (Nat.le_of_ble_eq_true rfl), (Nat.le_of_ble_eq_true rfl), (Nat.le_of_ble_eq_true rfl), (Nat.le_of_ble_eq_true rfl)⟩ (fun v T hq => ?_)
                obtain ⟨rfl, rfl⟩ := hq
                refine x_iload_n 7 dX6_name_116 rfl ?_
                refine x_iload 8 dX6_name_117 rfl ?_
                refine ca_X6_165 [.int (nI g), .int (sd), .int (ht), .int ((f_X6_xOf sd ht)), .int (le), .int (pr)] [.ref (gN S)] (c_X2_init (nI g) (sd) (ht) ((f_X6_xOf sd ht)) (le) (pr) (by rw [gK_nO, if_pos rfl])) rfl dX6_name_119 rfl rfl ⟨(Nat.le_of_ble_eq_true rfl), (Nat.le_of_ble_eq_true rfl), (Nat.le_of_ble_eq_true rfl), (Nat.le_of_ble_eq_true rfl), (Nat.le_of_ble_eq_true rfl)⟩ (fun v T hq => ?_)
                obtain ⟨rfl, rfl⟩ := hq
                rw [xOf_eq hcos hht.1 hht.2]
                obtain ⟨S1, eS1⟩ : ∃ s9 : HS, s9 = uI (uI (uI (uI (uI (uI (nO S 3) 96 (gN S) (nI g)) 97 (gN S) (sd)) 98 (gN S) (ht)) 99 (gN S) (f_X7_acrossOf (σ.2 1) sd ht)) 100 (gN S) (le)) 101 (gN S) (pr) := ⟨_, rfl⟩
                rw [← eS1]
                have hE1 : EX S S1 := by rw [eS1]; exact ((((((EX.rf.nO 3).uI (Nat.le_refl _)).uI (Nat.le_refl _)).uI (Nat.le_refl _)).uI (Nat.le_refl _)).uI (Nat.le_refl _)).uI (Nat.le_refl _)
                have hW1 : LW k S1 := by rw [eS1]; exact hI.lw.nO 3
                have hI1 := hI.ex hE1 hW1
                have hK1 : gK S1 (gN S) = 4 := by rw [eS1]; exact if_pos rfl
                have hfl : gI S1 96 (gN S) = nI g ∧ gI S1 97 (gN S) = sd ∧ gI S1 98 (gN S) = ht ∧ gI S1 99 (gN S) = f_X7_acrossOf (σ.2 1) sd ht ∧ gI S1 100 (gN S) = le ∧ gI S1 101 (gN S) = pr := by rw [eS1]; simp [gI_uI]
                have h104 : gI S1 104 (gN S) = 0 := by rw [eS1]; simp [gI_uI, gI_nO]
                clear eS1
                refine x_astore [(9, .ref (gN S)), (8, .int (ht)), (7, .int (sd)), (6, .ref (x + 7 + 3 * g)), (5, .int (nI g)), (0, .ref (x)), (1, .int (lon)), (2, .int (lat)), (3, .int (le)), (4, .int (pr))] dX6_name_122 (Nat.le_of_ble_eq_true rfl) rfl ?_
                refine x_aload 0 dX6_name_124 rfl ?_
                refine x_aload_n 5 dX6_name_126 rfl ?_
                refine x_at 127 rfl ?_
                refine x_aload 0 dX6_name_127 rfl ?_
                refine ca_X6_168 [.ref (gN S)] [.ref (gN S)] (c_ways hI1.l.1 hI1.m.1.1 hK1 hfl.2.2.1 hfl.2.2.2.1 hfl.2.2.2.2.1) hI1.l.1 rfl dX6_name_129 rfl rfl ⟨(Nat.le_of_ble_eq_true rfl), (Nat.le_of_ble_eq_true rfl), (Nat.le_of_ble_eq_true rfl), (Nat.le_of_ble_eq_true rfl), (Nat.le_of_ble_eq_true rfl)⟩ (fun v T hq => ?_)
                obtain ⟨rfl, rfl⟩ := hq
                refine pf_X6_172 rfl dX6_name_132 hK1 ?_
                obtain ⟨S2, eS2⟩ : ∃ s9 : HS, s9 = uI S1 102 (gN S) (wyS (wyB (σ.1 2) (f_X7_acrossOf (σ.2 1) sd ht) le ht) 4) := ⟨_, rfl⟩
                rw [← eS2]
                have hE2 : EX S S2 := by rw [eS2]; exact hE1.uI (Nat.le_refl _)
                have hW2 : LW k S2 := by rw [eS2]; exact hW1
                have hI2 := hI.ex hE2 hW2
                have hN2 : NM0 S2 (gN S) σ g sd ht le pr := by
                  rw [eS2]
                  refine ⟨hK1, ?_, by rw [gI_uI, if_pos ⟨rfl, rfl⟩], by rw [gI_uI, if_neg (fun z => absurd z.1 (by decide))]; exact h104⟩
                  rw [gI_uI, if_neg (fun z => absurd z.1 (by decide)), gI_uI, if_neg (fun z => absurd z.1 (by decide)), gI_uI, if_neg (fun z => absurd z.1 (by decide)), gI_uI, if_neg (fun z => absurd z.1 (by decide)), gI_uI, if_neg (fun z => absurd z.1 (by decide)), gI_uI, if_neg (fun z => absurd z.1 (by decide))]
                  exact hfl
                clear eS2
                have hfr : ∀ i, i < p → na i ≠ gN S := fun i hi => by have := hI.lw.2.1 (na i) (by have := (hI.w.2.2.1 i hi).1; omega); omega
                have hok : ∀ y ∈ (List.range p).map na, okE S2 y := fun y hy => by
                  obtain ⟨i, hi, rfl⟩ := List.mem_map.mp hy
                  exact Or.inr (Or.inl (hI2.w.2.2.1 i (List.mem_range.mp hi)).1)
                refine x_aload_n 5 dX6_name_135 rfl ?_
                refine gf_X6_16 rfl dX6_name_136 hI2.l.1 ?_
                rw [show gP (S2) 227 (x) = some (x + 2) from hI2.l.2.1.2.2.1]
                refine x_aload 0 dX6_name_139 rfl ?_
                refine ca_X6_69 [.ref (gN S)] [] (c_al_add hI2.w.1 hI2.lw hok (Or.inr (Or.inl hN2.1)) (by rw [List.length_map, List.length_range]; omega)) hI2.w.1.1 rfl dX6_name_141 rfl rfl ⟨(Nat.le_of_ble_eq_true rfl), (Nat.le_of_ble_eq_true rfl), (Nat.le_of_ble_eq_true rfl), (Nat.le_of_ble_eq_true rfl), (Nat.le_of_ble_eq_true rfl)⟩ (fun v T hq => ?_)
                obtain ⟨rfl, q1, q2, q3⟩ := hq
                have hKT : ∀ b, gK S2 b ≠ 0 → gK T b = gK S2 b := fun b hb => (q3.2.1 b (hI2.lw.2.1 b hb)).1
                have hgk : gK T (x + 7 + 3 * g) = 3 := by rw [hKT _ (by rw [(hI2.l.2.2.2.2.2 g hg).2.1]; decide)]; exact (hI2.l.2.2.2.2.2 g hg).2.1
                have hgp : gP T 65 (x + 7 + 3 * g) = some (x + 9 + 3 * g) := by rw [q3.2.2.2.2.1 65 _ (Or.inl (by decide))]; exact (hI2.l.2.2.2.2.2 g hg).2.2.2
                have hAg : AL k T (x + 9 + 3 * g) ((hl σ p g).map na) := (hI2.w.2.2.2 g hg).1.keep hI2.lw hI2.w.1.1 q3 (by omega)
                have hok2 : ∀ y ∈ (hl σ p g).map na, okE T y := fun y hy => by
                  obtain ⟨i, hi, rfl⟩ := List.mem_map.mp hy
                  have hk4 := (hI2.w.2.2.1 i (hl_mem.mp hi).1).1
                  exact Or.inr (Or.inl (by rw [hKT _ (by rw [hk4]; decide)]; exact hk4))
                have hka : gK T (gN S) = 4 := by rw [hKT _ (by rw [hN2.1]; decide)]; exact hN2.1
                refine x_pop dX6_name_144 rfl ?_
                refine x_aload 3 dX6_name_145 rfl ?_
                refine gf_X6_159 rfl dX6_name_147 hgk ?_
                rw [show gP (T) 65 (x + 7 + 3 * g) = some (x + 9 + 3 * g) from hgp]
                refine x_aload 0 dX6_name_150 rfl ?_
                refine ca_X6_69 [.ref (gN S)] [] (c_al_add hAg q2 hok2 (Or.inr (Or.inl hka)) (by rw [List.length_map]; omega)) hAg.1 rfl dX6_name_152 rfl rfl ⟨(Nat.le_of_ble_eq_true rfl), (Nat.le_of_ble_eq_true rfl), (Nat.le_of_ble_eq_true rfl), (Nat.le_of_ble_eq_true rfl), (Nat.le_of_ble_eq_true rfl)⟩ (fun v U hq => ?_)
                obtain ⟨rfl, r1, r2, r3⟩ := hq
                obtain ⟨hC0, hCB⟩ := hI2.name hplt hg hln hcos hN2 hfr hht hle hpr hsd q1 q2 q3 r1 r2 r3
                refine x_at 155 rfl ?_
                refine x_pop dX6_name_155 rfl ?_
                refine x_aload_n 5 dX6_name_156 rfl ?_
                refine x_aload 3 dX6_name_157 rfl ?_
                refine ca_X6_175 [.ref (x + 7 + 3 * g)] [] (c_changeNames hC0 hg hO2 hCB) hC0.2.2.1.1 rfl dX6_name_159 rfl rfl ⟨(Nat.le_of_ble_eq_true rfl), (Nat.le_of_ble_eq_true rfl), (Nat.le_of_ble_eq_true rfl), (Nat.le_of_ble_eq_true rfl), (Nat.le_of_ble_eq_true rfl)⟩ (fun v V hq => ?_)
                obtain ⟨rfl, u1, u2⟩ := hq
                refine x_aload_n 5 dX6_name_162 rfl ?_
                refine gf_X6_16 rfl dX6_name_163 u1.l.1 ?_
                rw [show gP (V) 227 (x) = some (x + 2) from u1.l.2.1.2.2.1]
                refine ca_X6_60 [] [] (c_al_size u1.w.1.1) u1.w.1.1 rfl dX6_name_166 rfl rfl ⟨(Nat.le_of_ble_eq_true rfl), (Nat.le_of_ble_eq_true rfl), (Nat.le_of_ble_eq_true rfl), (Nat.le_of_ble_eq_true rfl), (Nat.le_of_ble_eq_true rfl)⟩ (fun v T hq => ?_)
                obtain ⟨rfl, hz9⟩ := hq
                obtain rfl := hz9.symm
                rw [show gI (V) 2 (x + 2) = nI (p + 1) from (by rw [u1.w.1.2.1, List.length_map, List.length_range])]
                refine x_iconst 1 dX6_name_169 (by decide) ?_
                refine x_isub dX6_name_170 ?_
                exact x_ireturn dX6_name_171 rfl (Nat.le_of_ble_eq_true rfl) (Nat.le_of_ble_eq_true rfl) ⟨by rw [nI_1], ⟨n, c, q, p + 1, ca, pa, va_up na p (gN S), u1⟩, FX.tr hE2.fx (FX.tr (FX.lf q3) (FX.tr (FX.lf r3) u2))⟩
              · have hl6 : ¬ nI (hl σ p g).length < 6 → nI (hl σ p g).length = 6 := fun z => by
                  have h1 := (hI.w.2.2.2 g hg).2
                  rw [show (6 : Int32) = nI 6 from rfl] at z ⊢
                  rw [nI_ltI (by omega) (by decide)] at z
                  rw [show (hl σ p g).length = 6 by omega]
                refine x_iconst (-1) dX6_name_82 (by decide) ?_
                exact x_ireturn dX6_name_83 rfl (Nat.le_of_ble_eq_true rfl) (Nat.le_of_ble_eq_true rfl) ⟨by rw [hif, if_pos (hl6 c7)], by rw [hif, if_pos (hl6 c7)]; exact ⟨n, c, q, p, ca, pa, na, hI⟩, FX.rf⟩
            · refine x_at 44 rfl ?_
              refine x_iconst (-1) dX6_name_44 (by decide) ?_
              exact x_ireturn dX6_name_45 rfl (Nat.le_of_ble_eq_true rfl) (Nat.le_of_ble_eq_true rfl) ⟨by rw [nm_no (Or.inr (Or.inr (Or.inr (Or.inr (Or.inr (hp60 c6))))))], by rw [nm_no (Or.inr (Or.inr (Or.inr (Or.inr (Or.inr (hp60 c6))))))]; exact ⟨n, c, q, p, ca, pa, na, hI⟩, FX.rf⟩
