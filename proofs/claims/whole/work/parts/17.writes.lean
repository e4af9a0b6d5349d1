theorem okS.gn {σ : MS} (h : okS σ) : ∃ n : Nat, n ∈ [6, 8, 9, 10, 12, 15, 18, 20, 24] ∧ σ.1 1 = nI n ∧ σ.1 2 = nI (360 / n) := h.1.1
theorem okS.co {σ : MS} (h : okS σ) : ∃ c : Nat, c ≤ 30 ∧ σ.1 3 = nI c := h.2.1.1
theorem okS.pc {σ : MS} (h : okS σ) : ∃ c : Nat, c ≤ 600 ∧ σ.1 6 = nI c := h.2.1.2.1
theorem okS.nm {σ : MS} (h : okS σ) : ∃ c : Nat, c ≤ 60 ∧ σ.1 12 = nI c := h.2.1.2.2
theorem okS.hi {σ : MS} (h : okS σ) : ∀ j, j < 60 → (-5400) ≤ σ.2 10 j ∧ σ.2 10 j ≤ 5400 := h.2.2.2.1
theorem okS.th {σ : MS} (h : okS σ) : ∀ j, j < 60 → σ.2 7 j = 0 ∨ σ.2 7 j = 1 := h.2.2.2.2.1
theorem okS.fr {σ : MS} (h : okS σ) : ∀ j, j < 24 → σ.2 13 j = 0 ∨ σ.2 13 j = 1 := h.2.2.2.2.2.1
theorem okS.ng {σ : MS} (h : okS σ) : ∀ j, j < 60 → 0 ≤ (σ.2 8 j).toInt ∧ (σ.2 8 j).toInt < 24 := h.2.2.2.2.2.2
theorem okS.nm2 {σ : MS} (h : okS σ) : (σ.1 12).toInt ≤ 60 ∧ 0 ≤ (σ.1 12).toInt := by
  obtain ⟨c, h1, h2⟩ := h.nm
  rw [h2, nI_toInt (by omega)]; omega
theorem okS.co2 {σ : MS} (h : okS σ) : (σ.1 3).toInt ≤ 30 ∧ 0 ≤ (σ.1 3).toInt := by
  obtain ⟨c, h1, h2⟩ := h.co
  rw [h2, nI_toInt (by omega)]; omega
theorem okS.go2 {σ : MS} (h : okS σ) : (σ.1 1).toInt ≤ 24 ∧ 6 ≤ (σ.1 1).toInt := by
  obtain ⟨n, h1, h2, -⟩ := h.gn
  have h3 : n ≤ 24 ∧ 6 ≤ n := by
    simp only [List.mem_cons, List.not_mem_nil, or_false] at h1
    omega
  rw [h2, nI_toInt (by omega)]; omega
theorem okS.wi2 {σ : MS} (h : okS σ) : 15 ≤ (σ.1 2).toInt ∧ (σ.1 2).toInt ≤ 60 := by
  obtain ⟨n, h1, -, h2⟩ := h.gn
  simp only [List.mem_cons, List.not_mem_nil, or_false] at h1
  rw [h2]
  rcases h1 with rfl | rfl | rfl | rfl | rfl | rfl | rfl | rfl | rfl <;> decide
theorem okS.wi0 {σ : MS} (h : okS σ) : ¬ σ.1 2 = 0 := by
  intro e
  have := h.wi2
  rw [e] at this
  exact absurd this.1 (by decide)
theorem okS.go0 {σ : MS} (h : okS σ) : ¬ σ.1 1 = 0 := by
  intro e
  have := h.go2
  rw [e] at this
  exact absurd this.2 (by decide)
theorem in_of_ne {c N : Nat} {x : Int32} {M : Int32} (hx : x = nI c) (hc : c ≤ N) (hN : N < 2 ^ 31) (hM : M = nI N) (h : ¬ x = M) : vp_in x N := by
  rw [hx]
  refine vp_in_nI ?_ hN
  rcases Nat.lt_or_ge c N with q | q
  · exact q
  · exfalso; apply h; rw [hx, hM, show c = N by omega]
theorem okS.coIn {σ : MS} (h : okS σ) (c : ¬ σ.1 3 = 30) : vp_in (σ.1 3) 30 := by
  obtain ⟨n, h1, h2⟩ := h.co
  exact in_of_ne h2 h1 (by decide) rfl c
theorem okS.nmIn {σ : MS} (h : okS σ) (c : ¬ σ.1 12 = 60) : vp_in (σ.1 12) 60 := by
  obtain ⟨n, h1, h2⟩ := h.nm
  exact in_of_ne h2 h1 (by decide) rfl c
theorem pe_in {x : Int32} (h : vp_in x 600) : vp_in (4 * x) 2400 ∧ vp_in (4 * x + 1) 2400 ∧ vp_in (4 * x + 2) 2400 ∧ vp_in (4 * x + 3) 2400 := by
  obtain ⟨j, hj, rfl⟩ := vp_in_of h (by decide)
  have e : (4 : Int32) * nI j = nI (4 * j) := pk_mul 4 j
  rw [e]
  exact ⟨vp_in_nI (by omega) (by decide), by rw [show (1 : Int32) = nI 1 from rfl, nI_add]; exact vp_in_nI (by omega) (by decide), by rw [show (2 : Int32) = nI 2 from rfl, nI_add]; exact vp_in_nI (by omega) (by decide), by rw [show (3 : Int32) = nI 3 from rfl, nI_add]; exact vp_in_nI (by omega) (by decide)⟩
def g_X7_coast (σ : MS) (lon : Int32) (lat : Int32) : Int32 × MS := (if (f_X7_isPlace lon lat) = 0 then ((-1), σ) else (if σ.1 3 = 30 then ((-1), σ) else (((σ.1 3 + 1) - 1), fI (fR (fR (σ) 2 (upd (σ.2 2) (σ.1 3).toNatClampNeg (lon))) 3 (upd (σ.2 3) (σ.1 3).toNatClampNeg ((60 * lat)))) 3 ((σ.1 3 + 1)))))
set_option maxRecDepth 100000 in
theorem c_X7_coast {k : KT} {S : HS} {o : Nat} (σ : MS) (lon : Int32) (lat : Int32) (hM : MI S o σ) (hO : okS σ) : Ct k (mt_X7_coast (rm 3 0 0)) [.ref o, .int (lon), .int (lat)] S (Pm o S (g_X7_coast σ lon lat)) := by
  refine Ct.ofF (by decide +kernel) (Nat.le_of_ble_eq_true rfl) ?_
  refine x_lv [(0, .ref (o)), (1, .int (lon)), (2, .int (lat))] [0, 1, 2] rfl ?_
  refine x_iload_n 1 dX7_coast_0 rfl ?_
  refine x_iload_n 2 dX7_coast_1 rfl ?_
  refine ca_X7_82 [.int (lon), .int (lat)] [] (c_X7_isPlace (lon) (lat)) rfl dX7_coast_2 rfl rfl ⟨(Nat.le_of_ble_eq_true rfl), (Nat.le_of_ble_eq_true rfl), (Nat.le_of_ble_eq_true rfl), (Nat.le_of_ble_eq_true rfl), (Nat.le_of_ble_eq_true rfl)⟩ (fun v T hq => ?_)
  obtain ⟨rfl, rfl⟩ := hq
  refine x_if_eq 17 dX7_coast_5 (by decide) (fun c1 => ?_) (fun c1 => ?_)
  · refine x_iconst (-1) dX7_coast_17 (by decide) ?_
    exact x_ireturn dX7_coast_18 rfl (Nat.le_of_ble_eq_true rfl) (Nat.le_of_ble_eq_true rfl) ⟨by rw [g_X7_coast, if_pos c1], by rw [g_X7_coast, if_pos c1]; exact hM, FM.rf⟩
  · refine x_aload_n 0 dX7_coast_8 rfl ?_
    refine gf_X7_86 rfl dX7_coast_9 (mhK hM.1) ?_
    rw [show gI (S) 259 (o) = σ.1 3 from (hM.i 3 (by decide))]
    refine x_bipush 30 dX7_coast_12 (by decide) ?_
    refine x_icmp_ne 19 dX7_coast_14 (by decide) (fun c2 => ?_) (fun c2 => ?_)
    · refine x_aload_n 0 dX7_coast_19 rfl ?_
      refine gf_X7_13 rfl dX7_coast_20 (mhK hM.1) ?_
      rw [show gP (S) 260 (o) = some (o + 2) from (mhP_coastAt hM.1)]
      refine x_aload_n 0 dX7_coast_23 rfl ?_
      refine gf_X7_86 rfl dX7_coast_24 (mhK hM.1) ?_
      rw [show gI (S) 259 (o) = σ.1 3 from (hM.i 3 (by decide))]
      refine x_iload_n 1 dX7_coast_27 rfl ?_
      refine x_iastore dX7_coast_28 (mhK_coastAt hM.1) (by rw [show gL (S) (o + 2) = 30 from (mhL_coastAt hM.1)]; exact (hO.coIn c2)) ?_
      rw [show gR (S) (o + 2) = σ.2 2 from (hM.r 2 (by decide))]
      obtain ⟨S3, eS3⟩ : ∃ s9 : HS, s9 = uR (S) (o + 2) (upd (σ.2 2) (σ.1 3).toNatClampNeg (lon)) := ⟨_, rfl⟩
      rw [← eS3]
      have hM3 : MI S3 o (fR (σ) 2 (upd (σ.2 2) (σ.1 3).toNatClampNeg (lon))) := by rw [eS3]; exact hM.pR 2 _
      have hF3 : FM o S S3 := by rw [eS3]; exact FM.rf.pR _ (by omega) (by omega)
      clear eS3
      refine x_aload_n 0 dX7_coast_29 rfl ?_
      refine gf_X7_16 rfl dX7_coast_30 (mhK hM3.1) ?_
      rw [show gP (S3) 261 (o) = some (o + 3) from (mhP_coastHigh hM3.1)]
      refine x_aload_n 0 dX7_coast_33 rfl ?_
      refine gf_X7_86 rfl dX7_coast_34 (mhK hM3.1) ?_
      rw [show gI (S3) 259 (o) = σ.1 3 from (hM3.i 3 (by decide))]
      refine x_bipush 60 dX7_coast_37 (by decide) ?_
      refine x_at 39 rfl ?_
      refine x_iload_n 2 dX7_coast_39 rfl ?_
      refine x_imul dX7_coast_40 ?_
      refine x_iastore dX7_coast_41 (mhK_coastHigh hM3.1) (by rw [show gL (S3) (o + 3) = 30 from (mhL_coastHigh hM3.1)]; exact (hO.coIn c2)) ?_
      rw [show gR (S3) (o + 3) = σ.2 3 from (hM3.r 3 (by decide))]
      obtain ⟨S4, eS4⟩ : ∃ s9 : HS, s9 = uR (S3) (o + 3) (upd (σ.2 3) (σ.1 3).toNatClampNeg ((60 * lat))) := ⟨_, rfl⟩
      rw [← eS4]
      have hM4 : MI S4 o (fR (fR (σ) 2 (upd (σ.2 2) (σ.1 3).toNatClampNeg (lon))) 3 (upd (σ.2 3) (σ.1 3).toNatClampNeg ((60 * lat)))) := by rw [eS4]; exact hM3.pR 3 _
      have hF4 : FM o S S4 := by rw [eS4]; exact hF3.pR _ (by omega) (by omega)
      clear eS4
      refine x_aload_n 0 dX7_coast_42 rfl ?_
      refine x_dup dX7_coast_43 rfl ?_
      refine gf_X7_86 rfl dX7_coast_44 (mhK hM4.1) ?_
      rw [show gI (S4) 259 (o) = σ.1 3 from (hM4.i 3 (by decide))]
      refine x_iconst 1 dX7_coast_47 (by decide) ?_
      refine x_iadd dX7_coast_48 ?_
      refine pf_X7_86 rfl dX7_coast_49 (mhK hM4.1) ?_
      obtain ⟨S5, eS5⟩ : ∃ s9 : HS, s9 = uI (S4) 259 (o) ((σ.1 3 + 1)) := ⟨_, rfl⟩
      rw [← eS5]
      have hM5 : MI S5 o (fI (fR (fR (σ) 2 (upd (σ.2 2) (σ.1 3).toNatClampNeg (lon))) 3 (upd (σ.2 3) (σ.1 3).toNatClampNeg ((60 * lat)))) 3 ((σ.1 3 + 1))) := by rw [eS5]; exact hM4.pI 3 _
      have hF5 : FM o S S5 := by rw [eS5]; exact hF4.pI _ (by decide)
      clear eS5
      refine x_aload_n 0 dX7_coast_52 rfl ?_
      refine gf_X7_86 rfl dX7_coast_53 (mhK hM5.1) ?_
      rw [show gI (S5) 259 (o) = (σ.1 3 + 1) from (hM5.i 3 (by decide))]
      refine x_iconst 1 dX7_coast_56 (by decide) ?_
      refine x_at 57 rfl ?_
      refine x_isub dX7_coast_57 ?_
      exact x_ireturn dX7_coast_58 rfl (Nat.le_of_ble_eq_true rfl) (Nat.le_of_ble_eq_true rfl) ⟨by rw [g_X7_coast, if_neg c1, if_neg c2], by rw [g_X7_coast, if_neg c1, if_neg c2]; exact hM5, hF5⟩
    · refine x_iconst (-1) dX7_coast_17 (by decide) ?_
      exact x_ireturn dX7_coast_18 rfl (Nat.le_of_ble_eq_true rfl) (Nat.le_of_ble_eq_true rfl) ⟨by rw [g_X7_coast, if_neg c1, if_pos c2], by rw [g_X7_coast, if_neg c1, if_pos c2]; exact hM, FM.rf⟩
def g_X7_adds (σ : MS) (g : Int32) (cst : Int32) (s1 : Int32) (h1 : Int32) (s2 : Int32) (h2 : Int32) : MS := fR (fI (fR (fR (fR (fR (fR (fR (σ) 4 (upd (σ.2 4) (σ.1 6).toNatClampNeg (g))) 5 (upd (σ.2 5) (σ.1 6).toNatClampNeg (cst))) 6 (upd (σ.2 6) ((4 * σ.1 6)).toNatClampNeg (s1))) 6 (upd ((upd (σ.2 6) ((4 * σ.1 6)).toNatClampNeg (s1))) (((4 * σ.1 6) + 1)).toNatClampNeg (h1))) 6 (upd ((upd ((upd (σ.2 6) ((4 * σ.1 6)).toNatClampNeg (s1))) (((4 * σ.1 6) + 1)).toNatClampNeg (h1))) (((4 * σ.1 6) + 2)).toNatClampNeg (s2))) 6 (upd ((upd ((upd ((upd (σ.2 6) ((4 * σ.1 6)).toNatClampNeg (s1))) (((4 * σ.1 6) + 1)).toNatClampNeg (h1))) (((4 * σ.1 6) + 2)).toNatClampNeg (s2))) (((4 * σ.1 6) + 3)).toNatClampNeg (h2))) 6 ((σ.1 6 + 1))) 13 (upd (σ.2 13) (g).toNatClampNeg (1))
set_option maxRecDepth 100000 in
theorem c_X7_adds {k : KT} {S : HS} {o : Nat} (σ : MS) (g : Int32) (cst : Int32) (s1 : Int32) (h1 : Int32) (s2 : Int32) (h2 : Int32) (hM : MI S o σ) (hp : vp_in (σ.1 6) 600) (hg : vp_in g 24) : Ct k (mt_X7_adds (rm 1 0 0)) [.ref o, .int (g), .int (cst), .int (s1), .int (h1), .int (s2), .int (h2)] S (Pv o S (g_X7_adds σ g cst s1 h1 s2 h2)) := by
  refine Ct.ofF (by decide +kernel) (Nat.le_of_ble_eq_true rfl) ?_
  refine x_lv [(0, .ref (o)), (1, .int (g)), (2, .int (cst)), (3, .int (s1)), (4, .int (h1)), (5, .int (s2)), (6, .int (h2))] [0, 1, 2, 3, 4, 5, 6] rfl ?_
  refine x_aload_n 0 dX7_adds_0 rfl ?_
  refine gf_X7_19 rfl dX7_adds_1 (mhK hM.1) ?_
  rw [show gP (S) 263 (o) = some (o + 4) from (mhP_pieceGore hM.1)]
  refine x_aload_n 0 dX7_adds_4 rfl ?_
  refine gf_X7_92 rfl dX7_adds_5 (mhK hM.1) ?_
  rw [show gI (S) 262 (o) = σ.1 6 from (hM.i 6 (by decide))]
  refine x_iload_n 1 dX7_adds_8 rfl ?_
  refine x_iastore dX7_adds_9 (mhK_pieceGore hM.1) (by rw [show gL (S) (o + 4) = 600 from (mhL_pieceGore hM.1)]; exact (hp)) ?_
  rw [show gR (S) (o + 4) = σ.2 4 from (hM.r 4 (by decide))]
  obtain ⟨S1, eS1⟩ : ∃ s9 : HS, s9 = uR (S) (o + 4) (upd (σ.2 4) (σ.1 6).toNatClampNeg (g)) := ⟨_, rfl⟩
  rw [← eS1]
  have hM1 : MI S1 o (fR (σ) 4 (upd (σ.2 4) (σ.1 6).toNatClampNeg (g))) := by rw [eS1]; exact hM.pR 4 _
  have hF1 : FM o S S1 := by rw [eS1]; exact FM.rf.pR _ (by omega) (by omega)
  clear eS1
  refine x_aload_n 0 dX7_adds_10 rfl ?_
  refine gf_X7_22 rfl dX7_adds_11 (mhK hM1.1) ?_
  rw [show gP (S1) 264 (o) = some (o + 5) from (mhP_pieceCoast hM1.1)]
  refine x_aload_n 0 dX7_adds_14 rfl ?_
  refine gf_X7_92 rfl dX7_adds_15 (mhK hM1.1) ?_
  rw [show gI (S1) 262 (o) = σ.1 6 from (hM1.i 6 (by decide))]
  refine x_iload_n 2 dX7_adds_18 rfl ?_
  refine x_at 19 rfl ?_
  refine x_iastore dX7_adds_19 (mhK_pieceCoast hM1.1) (by rw [show gL (S1) (o + 5) = 600 from (mhL_pieceCoast hM1.1)]; exact (hp)) ?_
  rw [show gR (S1) (o + 5) = σ.2 5 from (hM1.r 5 (by decide))]
  obtain ⟨S2, eS2⟩ : ∃ s9 : HS, s9 = uR (S1) (o + 5) (upd (σ.2 5) (σ.1 6).toNatClampNeg (cst)) := ⟨_, rfl⟩
  rw [← eS2]
  have hM2 : MI S2 o (fR (fR (σ) 4 (upd (σ.2 4) (σ.1 6).toNatClampNeg (g))) 5 (upd (σ.2 5) (σ.1 6).toNatClampNeg (cst))) := by rw [eS2]; exact hM1.pR 5 _
  have hF2 : FM o S S2 := by rw [eS2]; exact hF1.pR _ (by omega) (by omega)
  clear eS2
  refine x_aload_n 0 dX7_adds_20 rfl ?_
  refine gf_X7_25 rfl dX7_adds_21 (mhK hM2.1) ?_
  rw [show gP (S2) 265 (o) = some (o + 6) from (mhP_pieceEnds hM2.1)]
  refine x_iconst 4 dX7_adds_24 (by decide) ?_
  refine x_aload_n 0 dX7_adds_25 rfl ?_
  refine gf_X7_92 rfl dX7_adds_26 (mhK hM2.1) ?_
  rw [show gI (S2) 262 (o) = σ.1 6 from (hM2.i 6 (by decide))]
  refine x_imul dX7_adds_29 ?_
  refine x_iload_n 3 dX7_adds_30 rfl ?_
  refine x_iastore dX7_adds_31 (mhK_pieceEnds hM2.1) (by rw [show gL (S2) (o + 6) = 2400 from (mhL_pieceEnds hM2.1)]; exact ((pe_in hp).1)) ?_
  rw [show gR (S2) (o + 6) = σ.2 6 from (hM2.r 6 (by decide))]
  obtain ⟨S3, eS3⟩ : ∃ s9 : HS, s9 = uR (S2) (o + 6) (upd (σ.2 6) ((4 * σ.1 6)).toNatClampNeg (s1)) := ⟨_, rfl⟩
  rw [← eS3]
  have hM3 : MI S3 o (fR (fR (fR (σ) 4 (upd (σ.2 4) (σ.1 6).toNatClampNeg (g))) 5 (upd (σ.2 5) (σ.1 6).toNatClampNeg (cst))) 6 (upd (σ.2 6) ((4 * σ.1 6)).toNatClampNeg (s1))) := by rw [eS3]; exact hM2.pR 6 _
  have hF3 : FM o S S3 := by rw [eS3]; exact hF2.pR _ (by omega) (by omega)
  clear eS3
  refine x_aload_n 0 dX7_adds_32 rfl ?_
  refine gf_X7_25 rfl dX7_adds_33 (mhK hM3.1) ?_
  rw [show gP (S3) 265 (o) = some (o + 6) from (mhP_pieceEnds hM3.1)]
  refine x_iconst 4 dX7_adds_36 (by decide) ?_
  refine x_at 37 rfl ?_
  refine x_aload_n 0 dX7_adds_37 rfl ?_
  refine gf_X7_92 rfl dX7_adds_38 (mhK hM3.1) ?_
  rw [show gI (S3) 262 (o) = σ.1 6 from (hM3.i 6 (by decide))]
  refine x_imul dX7_adds_41 ?_
  refine x_iconst 1 dX7_adds_42 (by decide) ?_
  refine x_iadd dX7_adds_43 ?_
  refine x_iload 4 dX7_adds_44 rfl ?_
  refine x_iastore dX7_adds_46 (mhK_pieceEnds hM3.1) (by rw [show gL (S3) (o + 6) = 2400 from (mhL_pieceEnds hM3.1)]; exact ((pe_in hp).2.1)) ?_
  rw [show gR (S3) (o + 6) = (upd (σ.2 6) ((4 * σ.1 6)).toNatClampNeg (s1)) from (hM3.r 6 (by decide))]
  obtain ⟨S4, eS4⟩ : ∃ s9 : HS, s9 = uR (S3) (o + 6) (upd ((upd (σ.2 6) ((4 * σ.1 6)).toNatClampNeg (s1))) (((4 * σ.1 6) + 1)).toNatClampNeg (h1)) := ⟨_, rfl⟩
  rw [← eS4]
  have hM4 : MI S4 o (fR (fR (fR (fR (σ) 4 (upd (σ.2 4) (σ.1 6).toNatClampNeg (g))) 5 (upd (σ.2 5) (σ.1 6).toNatClampNeg (cst))) 6 (upd (σ.2 6) ((4 * σ.1 6)).toNatClampNeg (s1))) 6 (upd ((upd (σ.2 6) ((4 * σ.1 6)).toNatClampNeg (s1))) (((4 * σ.1 6) + 1)).toNatClampNeg (h1))) := by rw [eS4]; exact hM3.pR 6 _
  have hF4 : FM o S S4 := by rw [eS4]; exact hF3.pR _ (by omega) (by omega)
  clear eS4
  refine x_aload_n 0 dX7_adds_47 rfl ?_
  refine gf_X7_25 rfl dX7_adds_48 (mhK hM4.1) ?_
  rw [show gP (S4) 265 (o) = some (o + 6) from (mhP_pieceEnds hM4.1)]
  refine x_iconst 4 dX7_adds_51 (by decide) ?_
  refine x_aload_n 0 dX7_adds_52 rfl ?_
  refine gf_X7_92 rfl dX7_adds_53 (mhK hM4.1) ?_
  rw [show gI (S4) 262 (o) = σ.1 6 from (hM4.i 6 (by decide))]
  refine x_at 56 rfl ?_
  refine x_imul dX7_adds_56 ?_
  refine x_iconst 2 dX7_adds_57 (by decide) ?_
  refine x_iadd dX7_adds_58 ?_
  refine x_iload 5 dX7_adds_59 rfl ?_
  refine x_iastore dX7_adds_61 (mhK_pieceEnds hM4.1) (by rw [show gL (S4) (o + 6) = 2400 from (mhL_pieceEnds hM4.1)]; exact ((pe_in hp).2.2.1)) ?_
  rw [show gR (S4) (o + 6) = (upd ((upd (σ.2 6) ((4 * σ.1 6)).toNatClampNeg (s1))) (((4 * σ.1 6) + 1)).toNatClampNeg (h1)) from (hM4.r 6 (by decide))]
  obtain ⟨S5, eS5⟩ : ∃ s9 : HS, s9 = uR (S4) (o + 6) (upd ((upd ((upd (σ.2 6) ((4 * σ.1 6)).toNatClampNeg (s1))) (((4 * σ.1 6) + 1)).toNatClampNeg (h1))) (((4 * σ.1 6) + 2)).toNatClampNeg (s2)) := ⟨_, rfl⟩
  rw [← eS5]
  have hM5 : MI S5 o (fR (fR (fR (fR (fR (σ) 4 (upd (σ.2 4) (σ.1 6).toNatClampNeg (g))) 5 (upd (σ.2 5) (σ.1 6).toNatClampNeg (cst))) 6 (upd (σ.2 6) ((4 * σ.1 6)).toNatClampNeg (s1))) 6 (upd ((upd (σ.2 6) ((4 * σ.1 6)).toNatClampNeg (s1))) (((4 * σ.1 6) + 1)).toNatClampNeg (h1))) 6 (upd ((upd ((upd (σ.2 6) ((4 * σ.1 6)).toNatClampNeg (s1))) (((4 * σ.1 6) + 1)).toNatClampNeg (h1))) (((4 * σ.1 6) + 2)).toNatClampNeg (s2))) := by rw [eS5]; exact hM4.pR 6 _
  have hF5 : FM o S S5 := by rw [eS5]; exact hF4.pR _ (by omega) (by omega)
  clear eS5
  refine x_aload_n 0 dX7_adds_62 rfl ?_
  refine gf_X7_25 rfl dX7_adds_63 (mhK hM5.1) ?_
  rw [show gP (S5) 265 (o) = some (o + 6) from (mhP_pieceEnds hM5.1)]
  refine x_iconst 4 dX7_adds_66 (by decide) ?_
  refine x_aload_n 0 dX7_adds_67 rfl ?_
  refine gf_X7_92 rfl dX7_adds_68 (mhK hM5.1) ?_
  rw [show gI (S5) 262 (o) = σ.1 6 from (hM5.i 6 (by decide))]
  refine x_imul dX7_adds_71 ?_
  refine x_iconst 3 dX7_adds_72 (by decide) ?_
  refine x_at 73 rfl ?_
  refine x_iadd dX7_adds_73 ?_
  refine x_iload 6 dX7_adds_74 rfl ?_
  refine x_iastore dX7_adds_76 (mhK_pieceEnds hM5.1) (by rw [show gL (S5) (o + 6) = 2400 from (mhL_pieceEnds hM5.1)]; exact ((pe_in hp).2.2.2)) ?_
  rw [show gR (S5) (o + 6) = (upd ((upd ((upd (σ.2 6) ((4 * σ.1 6)).toNatClampNeg (s1))) (((4 * σ.1 6) + 1)).toNatClampNeg (h1))) (((4 * σ.1 6) + 2)).toNatClampNeg (s2)) from (hM5.r 6 (by decide))]
  obtain ⟨S6, eS6⟩ : ∃ s9 : HS, s9 = uR (S5) (o + 6) (upd ((upd ((upd ((upd (σ.2 6) ((4 * σ.1 6)).toNatClampNeg (s1))) (((4 * σ.1 6) + 1)).toNatClampNeg (h1))) (((4 * σ.1 6) + 2)).toNatClampNeg (s2))) (((4 * σ.1 6) + 3)).toNatClampNeg (h2)) := ⟨_, rfl⟩
  rw [← eS6]
  have hM6 : MI S6 o (fR (fR (fR (fR (fR (fR (σ) 4 (upd (σ.2 4) (σ.1 6).toNatClampNeg (g))) 5 (upd (σ.2 5) (σ.1 6).toNatClampNeg (cst))) 6 (upd (σ.2 6) ((4 * σ.1 6)).toNatClampNeg (s1))) 6 (upd ((upd (σ.2 6) ((4 * σ.1 6)).toNatClampNeg (s1))) (((4 * σ.1 6) + 1)).toNatClampNeg (h1))) 6 (upd ((upd ((upd (σ.2 6) ((4 * σ.1 6)).toNatClampNeg (s1))) (((4 * σ.1 6) + 1)).toNatClampNeg (h1))) (((4 * σ.1 6) + 2)).toNatClampNeg (s2))) 6 (upd ((upd ((upd ((upd (σ.2 6) ((4 * σ.1 6)).toNatClampNeg (s1))) (((4 * σ.1 6) + 1)).toNatClampNeg (h1))) (((4 * σ.1 6) + 2)).toNatClampNeg (s2))) (((4 * σ.1 6) + 3)).toNatClampNeg (h2))) := by rw [eS6]; exact hM5.pR 6 _
  have hF6 : FM o S S6 := by rw [eS6]; exact hF5.pR _ (by omega) (by omega)
  clear eS6
  refine x_aload_n 0 dX7_adds_77 rfl ?_
  refine x_dup dX7_adds_78 rfl ?_
  refine gf_X7_92 rfl dX7_adds_79 (mhK hM6.1) ?_
  rw [show gI (S6) 262 (o) = σ.1 6 from (hM6.i 6 (by decide))]
  refine x_iconst 1 dX7_adds_82 (by decide) ?_
  refine x_iadd dX7_adds_83 ?_
  refine pf_X7_92 rfl dX7_adds_84 (mhK hM6.1) ?_
  obtain ⟨S7, eS7⟩ : ∃ s9 : HS, s9 = uI (S6) 262 (o) ((σ.1 6 + 1)) := ⟨_, rfl⟩
  rw [← eS7]
  have hM7 : MI S7 o (fI (fR (fR (fR (fR (fR (fR (σ) 4 (upd (σ.2 4) (σ.1 6).toNatClampNeg (g))) 5 (upd (σ.2 5) (σ.1 6).toNatClampNeg (cst))) 6 (upd (σ.2 6) ((4 * σ.1 6)).toNatClampNeg (s1))) 6 (upd ((upd (σ.2 6) ((4 * σ.1 6)).toNatClampNeg (s1))) (((4 * σ.1 6) + 1)).toNatClampNeg (h1))) 6 (upd ((upd ((upd (σ.2 6) ((4 * σ.1 6)).toNatClampNeg (s1))) (((4 * σ.1 6) + 1)).toNatClampNeg (h1))) (((4 * σ.1 6) + 2)).toNatClampNeg (s2))) 6 (upd ((upd ((upd ((upd (σ.2 6) ((4 * σ.1 6)).toNatClampNeg (s1))) (((4 * σ.1 6) + 1)).toNatClampNeg (h1))) (((4 * σ.1 6) + 2)).toNatClampNeg (s2))) (((4 * σ.1 6) + 3)).toNatClampNeg (h2))) 6 ((σ.1 6 + 1))) := by rw [eS7]; exact hM6.pI 6 _
  have hF7 : FM o S S7 := by rw [eS7]; exact hF6.pI _ (by decide)
  clear eS7
  refine x_aload_n 0 dX7_adds_87 rfl ?_
  refine gf_X7_47 rfl dX7_adds_88 (mhK hM7.1) ?_
  rw [show gP (S7) 275 (o) = some (o + 13) from (mhP_isFresh hM7.1)]
  refine x_iload_n 1 dX7_adds_91 rfl ?_
  refine x_at 92 rfl ?_
  refine x_iconst 1 dX7_adds_92 (by decide) ?_
  refine x_bastore dX7_adds_93 (mhK_isFresh hM7.1) (by rw [show gL (S7) (o + 13) = 24 from (mhL_isFresh hM7.1)]; exact (hg)) (by decide) ?_
  rw [show gR (S7) (o + 13) = σ.2 13 from (hM7.r 13 (by decide))]
  obtain ⟨S8, eS8⟩ : ∃ s9 : HS, s9 = uR (S7) (o + 13) (upd (σ.2 13) (g).toNatClampNeg (1)) := ⟨_, rfl⟩
  rw [← eS8]
  have hM8 : MI S8 o (fR (fI (fR (fR (fR (fR (fR (fR (σ) 4 (upd (σ.2 4) (σ.1 6).toNatClampNeg (g))) 5 (upd (σ.2 5) (σ.1 6).toNatClampNeg (cst))) 6 (upd (σ.2 6) ((4 * σ.1 6)).toNatClampNeg (s1))) 6 (upd ((upd (σ.2 6) ((4 * σ.1 6)).toNatClampNeg (s1))) (((4 * σ.1 6) + 1)).toNatClampNeg (h1))) 6 (upd ((upd ((upd (σ.2 6) ((4 * σ.1 6)).toNatClampNeg (s1))) (((4 * σ.1 6) + 1)).toNatClampNeg (h1))) (((4 * σ.1 6) + 2)).toNatClampNeg (s2))) 6 (upd ((upd ((upd ((upd (σ.2 6) ((4 * σ.1 6)).toNatClampNeg (s1))) (((4 * σ.1 6) + 1)).toNatClampNeg (h1))) (((4 * σ.1 6) + 2)).toNatClampNeg (s2))) (((4 * σ.1 6) + 3)).toNatClampNeg (h2))) 6 ((σ.1 6 + 1))) 13 (upd (σ.2 13) (g).toNatClampNeg (1))) := by rw [eS8]; exact hM7.pR 13 _
  have hF8 : FM o S S8 := by rw [eS8]; exact hF7.pR _ (by omega) (by omega)
  clear eS8
  exact x_return dX7_adds_94 rfl (Nat.le_of_ble_eq_true rfl) (Nat.le_of_ble_eq_true rfl) ⟨rfl, by rw [g_X7_adds]; exact hM8, hF8⟩
def lp_X7_pieces (σ : MS)  (g : Int32) : Nat → Nat → Int32 → Int32
  | 0, j, n => n
  | m + 1, j, n => (if ((σ.2 4) (nI j).toNatClampNeg) = g then lp_X7_pieces σ g m (j + 1) ((n + 1)) else lp_X7_pieces σ g m (j + 1) ((n + 0)))
set_option maxRecDepth 100000 in
theorem l_lp_X7_pieces {k : KT} {S : HS} {o : Nat} {σ : MS} {P : Nat} (g : Int32) (hM : MI S o σ) (hP : σ.1 6 = nI P) (hP2 : P ≤ 600) : ∀ (m : Nat) (j : Nat) (n : Int32), j + m = P → X k (mt_X7_pieces (rm 1 0 0)) (Zm k (mt_X7_pieces (rm 1 0 0)) (Pu (lp_X7_pieces σ g m j n) S)) 14 [(0, .ref (o)), (1, .int (g)), (3, .int (nI j)), (2, .int (n))] [] S 0 0 := by
  intro m
  induction m with
  | zero =>
    intro j n hj
    refine x_iload_n 2 dX7_pieces_14 rfl ?_
    refine x_aload_n 0 dX7_pieces_15 rfl ?_
    refine gf_X7_92 rfl dX7_pieces_16 (mhK hM.1) ?_
    rw [show gI (S) 262 (o) = nI P from ((hM.i 6 (by decide)).trans hP)]
    refine x_icmp_ge 46 dX7_pieces_19 (by decide) (fun c1 => ?_) (fun c1 => ?_)
    · refine x_iload_n 3 dX7_pieces_46 rfl ?_
      exact x_ireturn dX7_pieces_47 rfl (Nat.le_of_ble_eq_true rfl) (Nat.le_of_ble_eq_true rfl) ⟨by rw [lp_X7_pieces], rfl⟩
    · exact absurd (nI_le (by omega) (by omega)) c1
  | succ m ih =>
    intro j n hj
    refine x_iload_n 2 dX7_pieces_14 rfl ?_
    refine x_aload_n 0 dX7_pieces_15 rfl ?_
    refine gf_X7_92 rfl dX7_pieces_16 (mhK hM.1) ?_
    rw [show gI (S) 262 (o) = nI P from ((hM.i 6 (by decide)).trans hP)]
    refine x_icmp_ge 46 dX7_pieces_19 (by decide) (fun c1 => ?_) (fun c1 => ?_)
    · exact absurd c1 (nI_ge (by omega) (by omega))
    · refine x_iload_n 3 dX7_pieces_22 rfl ?_
      refine x_aload_n 0 dX7_pieces_23 rfl ?_
      refine gf_X7_19 rfl dX7_pieces_24 (mhK hM.1) ?_
      rw [show gP (S) 263 (o) = some (o + 4) from (mhP_pieceGore hM.1)]
      refine x_iload_n 2 dX7_pieces_27 rfl ?_
      refine x_iaload dX7_pieces_28 (mhK_pieceGore hM.1) (by rw [show gL (S) (o + 4) = 600 from (mhL_pieceGore hM.1)]; exact (vp_in_nI (by omega) (by decide))) ?_
      rw [show gR (S) (o + 4) = σ.2 4 from (hM.r 4 (by decide))]
      refine x_iload_n 1 dX7_pieces_29 rfl ?_
      refine x_icmp_ne 37 dX7_pieces_30 (by decide) (fun c2 => ?_) (fun c2 => ?_)
      · refine x_iconst 0 dX7_pieces_37 (by decide) ?_
        refine x_iadd dX7_pieces_38 ?_
        refine x_istore_n [(2, .int ((n + 0))), (0, .ref (o)), (1, .int (g)), (3, .int (nI j))] dX7_pieces_39 (Nat.le_of_ble_eq_true rfl) rfl ?_
        refine x_iinc 3 (nI j + 1) [(3, .int ((nI j + 1))), (2, .int ((n + 0))), (0, .ref (o)), (1, .int (g))] dX7_pieces_40 rfl rfl (Nat.le_of_ble_eq_true rfl) rfl ?_
        refine x_goto 14 dX7_pieces_43 (by decide) ?_
        refine x_lv [(0, .ref (o)), (1, .int (g)), (3, .int (nI (j + 1))), (2, .int ((n + 0)))] [2, 3, 0, 1] (by rw [← nI_1 j]; rfl) ?_
        rw [show lp_X7_pieces σ g (m + 1) j n = lp_X7_pieces σ g m (j + 1) ((n + 0)) from by rw [lp_X7_pieces, if_neg c2]]
        exact ih (j + 1) ((n + 0)) (by omega)
      · refine x_iconst 1 dX7_pieces_33 (by decide) ?_
        refine x_goto 38 dX7_pieces_34 (by decide) ?_
        refine x_iadd dX7_pieces_38 ?_
        refine x_istore_n [(2, .int ((n + 1))), (0, .ref (o)), (1, .int (g)), (3, .int (nI j))] dX7_pieces_39 (Nat.le_of_ble_eq_true rfl) rfl ?_
        refine x_iinc 3 (nI j + 1) [(3, .int ((nI j + 1))), (2, .int ((n + 1))), (0, .ref (o)), (1, .int (g))] dX7_pieces_40 rfl rfl (Nat.le_of_ble_eq_true rfl) rfl ?_
        refine x_goto 14 dX7_pieces_43 (by decide) ?_
        refine x_lv [(0, .ref (o)), (1, .int (g)), (3, .int (nI (j + 1))), (2, .int ((n + 1)))] [2, 3, 0, 1] (by rw [← nI_1 j]; rfl) ?_
        rw [show lp_X7_pieces σ g (m + 1) j n = lp_X7_pieces σ g m (j + 1) ((n + 1)) from by rw [lp_X7_pieces, if_pos c2]]
        exact ih (j + 1) ((n + 1)) (by omega)
