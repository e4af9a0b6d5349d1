theorem okS.gn {σ : MS} (h : okS σ) : ∃ n : Nat, n ∈ [6, 8, 9, 10, 12, 15, 18, 20, 24] ∧ σ.1 1 = nI n ∧ σ.1 2 = nI (360 / n) := h.1.1
theorem okS.co {σ : MS} (h : okS σ) : ∃ c : Nat, c ≤ 30 ∧ σ.1 3 = nI c := h.2.1.1
theorem okS.pc {σ : MS} (h : okS σ) : ∃ c : Nat, c ≤ 600 ∧ σ.1 6 = nI c := h.2.1.2.1
theorem okS.nm {σ : MS} (h : okS σ) : ∃ c : Nat, c ≤ 60 ∧ σ.1 12 = nI c := h.2.1.2.2
theorem okS.hi {σ : MS} (h : okS σ) : ∀ j, j < 60 → (-5400) ≤ σ.2 10 j ∧ σ.2 10 j ≤ 5400 := h.2.2.2.1
theorem okS.th {σ : MS} (h : okS σ) : ∀ j, j < 60 → σ.2 7 j = 0 ∨ σ.2 7 j = 1 := h.2.2.2.2.1
theorem okS.fr {σ : MS} (h : okS σ) : ∀ j, j < 24 → σ.2 13 j = 0 ∨ σ.2 13 j = 1 := h.2.2.2.2.2.1
theorem okS.ng {σ : MS} (h : okS σ) : ∀ j, j < 60 → 0 ≤ (σ.2 8 j).toInt ∧ (σ.2 8 j).toInt < 24 := h.2.2.2.2.2.2.1
theorem okS.ca {σ : MS} (h : okS σ) : ∀ j, j < 30 → 0 ≤ (σ.2 2 j).toInt ∧ (σ.2 2 j).toInt ≤ 359 := h.2.2.2.2.2.2.2.1
theorem okS.ch {σ : MS} (h : okS σ) : ∀ j, j < 30 → -5400 ≤ (σ.2 3 j).toInt ∧ (σ.2 3 j).toInt ≤ 5400 := h.2.2.2.2.2.2.2.2
theorem okS.nm2 {σ : MS} (h : okS σ) : (σ.1 12).toInt ≤ 60 ∧ 0 ≤ (σ.1 12).toInt := by
  obtain ⟨c, h1, h2⟩ := h.nm
  rw [h2, nI_toInt (by omega)]; omega
theorem okS.co2 {σ : MS} (h : okS σ) : (σ.1 3).toInt ≤ 30 ∧ 0 ≤ (σ.1 3).toInt := by
  obtain ⟨c, h1, h2⟩ := h.co
  rw [h2, nI_toInt (by omega)]; omega
theorem okS.go2 {σ : MS} (h : okS σ) : (σ.1 1).toInt ≤ 24 ∧ 6 ≤ (σ.1 1).toInt := by
  obtain ⟨n, h1, h2, -⟩ := h.gn
  have h3 : n ≤ 24 ∧ 6 ≤ n := by
    simp only [List.mem_cons, List.not_mem_nil, or_false] at h1
    omega
  rw [h2, nI_toInt (by omega)]; omega
theorem okS.wi2 {σ : MS} (h : okS σ) : 15 ≤ (σ.1 2).toInt ∧ (σ.1 2).toInt ≤ 60 := by
  obtain ⟨n, h1, -, h2⟩ := h.gn
  simp only [List.mem_cons, List.not_mem_nil, or_false] at h1
  rw [h2]
  rcases h1 with rfl | rfl | rfl | rfl | rfl | rfl | rfl | rfl | rfl <;> decide
theorem okS.wi0 {σ : MS} (h : okS σ) : ¬ σ.1 2 = 0 := by
  intro e
  have := h.wi2
  rw [e] at this
  exact absurd this.1 (by decide)
theorem okS.go0 {σ : MS} (h : okS σ) : ¬ σ.1 1 = 0 := by
  intro e
  have := h.go2
  rw [e] at this
  exact absurd this.2 (by decide)
theorem in_of_ne {c N : Nat} {x : Int32} {M : Int32} (hx : x = nI c) (hc : c ≤ N) (hN : N < 2 ^ 31) (hM : M = nI N) (h : ¬ x = M) : vp_in x N := by
  rw [hx]
  refine vp_in_nI ?_ hN
  rcases Nat.lt_or_ge c N with q | q
  · exact q
  · exfalso; apply h; rw [hx, hM, show c = N by omega]
theorem okS.coIn {σ : MS} (h : okS σ) (c : ¬ σ.1 3 = 30) : vp_in (σ.1 3) 30 := by
  obtain ⟨n, h1, h2⟩ := h.co
  exact in_of_ne h2 h1 (by decide) rfl c
theorem okS.nmIn {σ : MS} (h : okS σ) (c : ¬ σ.1 12 = 60) : vp_in (σ.1 12) 60 := by
  obtain ⟨n, h1, h2⟩ := h.nm
  exact in_of_ne h2 h1 (by decide) rfl c
theorem pe_in {x : Int32} (h : vp_in x 600) : vp_in (4 * x) 2400 ∧ vp_in (4 * x + 1) 2400 ∧ vp_in (4 * x + 2) 2400 ∧ vp_in (4 * x + 3) 2400 := by
  obtain ⟨j, hj, rfl⟩ := vp_in_of h (by decide)
  have e : (4 : Int32) * nI j = nI (4 * j) := pk_mul 4 j
  rw [e]
  exact ⟨vp_in_nI (by omega) (by decide), by rw [show (1 : Int32) = nI 1 from rfl, nI_add]; exact vp_in_nI (by omega) (by decide), by rw [show (2 : Int32) = nI 2 from rfl, nI_add]; exact vp_in_nI (by omega) (by decide), by rw [show (3 : Int32) = nI 3 from rfl, nI_add]; exact vp_in_nI (by omega) (by decide)⟩
theorem pe2_in {j P : Nat} {wh : Int32} (hj : j < P) (hP : P ≤ 600) (hw : 0 ≤ wh ∧ wh ≤ 4) (h0 : ¬ wh = 0) : vp_in (4 * nI j + wh - 1) 2400 := by
  have a1 := t_le.mp hw.1
  have a2 := t_le.mp hw.2
  simp only [show (0 : Int32).toInt = 0 from rfl, show (4 : Int32).toInt = 4 from rfl] at a1 a2
  have a3 : wh.toInt ≠ 0 := fun e => h0 (t_ext e)
  have e : (4 : Int32) * nI j = nI (4 * j) := pk_mul 4 j
  rw [e]
  have e1 : (nI (4 * j)).toInt = (4 * j : Nat) := nI_toInt (by omega)
  have e2 : (nI (4 * j) + wh).toInt = (4 * j : Nat) + wh.toInt := by rw [t_add (by rw [e1]; omega) (by rw [e1]; omega), e1]
  have e3 : (nI (4 * j) + wh - 1).toInt = (4 * j : Nat) + wh.toInt - 1 := by rw [t_sub (by rw [e2]; simp only [show (1 : Int32).toInt = 1 from rfl]; omega) (by rw [e2]; simp only [show (1 : Int32).toInt = 1 from rfl]; omega), e2]; rfl
  exact t_in (by rw [e3]; omega) (by rw [e3]; omega)
theorem ng_in {σ : MS} (h : okS σ) {n : Int32} (hn : vp_in n 60) : vp_in (σ.2 8 n.toNatClampNeg) 24 := t_in (h.ng _ (cl_lt hn)).1 (h.ng _ (cl_lt hn)).2
def g_X7_coast (σ : MS) (lon : Int32) (lat : Int32) : Int32 × MS := (if (f_X7_isPlace lon lat) = 0 then ((-1), σ) else (if σ.1 3 = 30 then ((-1), σ) else (((σ.1 3 + 1) - 1), fI (fR (fR (σ) 2 (upd (σ.2 2) (σ.1 3).toNatClampNeg (lon))) 3 (upd (σ.2 3) (σ.1 3).toNatClampNeg ((60 * lat)))) 3 ((σ.1 3 + 1)))))
set_option maxRecDepth 100000 in
theorem c_X7_coast {k : KT} {S : HS} {o : Nat} (σ : MS) (lon : Int32) (lat : Int32) (hM : MI S o σ) (hO : okS σ) : Ct k (mt_X7_coast (rm 3 0 0)) [.ref o, .int (lon), .int (lat)] S (Pm o S (g_X7_coast σ lon lat)) := by
  refine Ct.ofF (by decide +kernel) (Nat.le_of_ble_eq_true rfl) ?_
  refine x_lv [(0, .ref (o)), (1, .int (lon)), (2, .int (lat))] [0, 1, 2] rfl ?_
  refine x_iload_n 1 dX7_coast_0 rfl ?_
  refine x_iload_n 2 dX7_coast_1 rfl ?_
  refine ca_X7_82 [.int (lon), .int (lat)] [] (c_X7_isPlace (lon) (lat)) rfl dX7_coast_2 rfl rfl ⟨(Nat.le_of_ble_eq_true rfl), (Nat.le_of_ble_eq_true rfl), (Nat.le_of_ble_eq_true rfl), (Nat.le_of_ble_eq_true rfl), (Nat.le_of_ble_eq_true rfl)⟩ (fun v T hq => ?_)
  obtain ⟨rfl, rfl⟩ := hq
  refine x_if_eq 17 dX7_coast_5 (by decide) (fun c1 => ?_) (fun c1 => ?_)
  · refine x_iconst (-1) dX7_coast_17 (by decide) ?_
    exact x_ireturn dX7_coast_18 rfl (Nat.le_of_ble_eq_true rfl) (Nat.le_of_ble_eq_true rfl) ⟨by rw [g_X7_coast, if_pos c1], by rw [g_X7_coast, if_pos c1]; exact hM, FM.rf⟩
  · refine x_aload_n 0 dX7_coast_8 rfl ?_
    refine gf_X7_86 rfl dX7_coast_9 (mhK hM.1) ?_
    rw [show gI (S) 259 (o) = σ.1 3 from (hM.i 3 (by decide))]
    refine x_bipush 30 dX7_coast_12 (by decide) ?_
    refine x_icmp_ne 19 dX7_coast_14 (by decide) (fun c2 => ?_) (fun c2 => ?_)
    · refine x_aload_n 0 dX7_coast_19 rfl ?_
      refine gf_X7_13 rfl dX7_coast_20 (mhK hM.1) ?_
      rw [show gP (S) 260 (o) = some (o + 2) from (mhP_coastAt hM.1)]
      refine x_aload_n 0 dX7_coast_23 rfl ?_
      refine gf_X7_86 rfl dX7_coast_24 (mhK hM.1) ?_
      rw [show gI (S) 259 (o) = σ.1 3 from (hM.i 3 (by decide))]
      refine x_iload_n 1 dX7_coast_27 rfl ?_
      refine x_iastore dX7_coast_28 (mhK_coastAt hM.1) (by rw [show gL (S) (o + 2) = 30 from (mhL_coastAt hM.1)]; exact (hO.coIn c2)) ?_
      rw [show gR (S) (o + 2) = σ.2 2 from (hM.r 2 (by decide))]
      obtain ⟨S3, eS3⟩ : ∃ s9 : HS, s9 = uR (S) (o + 2) (upd (σ.2 2) (σ.1 3).toNatClampNeg (lon)) := ⟨_, rfl⟩
      rw [← eS3]
      have hM3 : MI S3 o (fR (σ) 2 (upd (σ.2 2) (σ.1 3).toNatClampNeg (lon))) := by rw [eS3]; exact hM.pR 2 _
      have hF3 : FM o S S3 := by rw [eS3]; exact FM.rf.pR _ (by omega) (by omega)
      clear eS3
      refine x_aload_n 0 dX7_coast_29 rfl ?_
      refine gf_X7_16 rfl dX7_coast_30 (mhK hM3.1) ?_
      rw [show gP (S3) 261 (o) = some (o + 3) from (mhP_coastHigh hM3.1)]
      refine x_aload_n 0 dX7_coast_33 rfl ?_
      refine gf_X7_86 rfl dX7_coast_34 (mhK hM3.1) ?_
      rw [show gI (S3) 259 (o) = σ.1 3 from (hM3.i 3 (by decide))]
      refine x_bipush 60 dX7_coast_37 (by decide) ?_
      refine x_at 39 rfl ?_
      refine x_iload_n 2 dX7_coast_39 rfl ?_
      refine x_imul dX7_coast_40 ?_
      refine x_iastore dX7_coast_41 (mhK_coastHigh hM3.1) (by rw [show gL (S3) (o + 3) = 30 from (mhL_coastHigh hM3.1)]; exact (hO.coIn c2)) ?_
      rw [show gR (S3) (o + 3) = σ.2 3 from (hM3.r 3 (by decide))]
      obtain ⟨S4, eS4⟩ : ∃ s9 : HS, s9 = uR (S3) (o + 3) (upd (σ.2 3) (σ.1 3).toNatClampNeg ((60 * lat))) := ⟨_, rfl⟩
      rw [← eS4]
      have hM4 : MI S4 o (fR (fR (σ) 2 (upd (σ.2 2) (σ.1 3).toNatClampNeg (lon))) 3 (upd (σ.2 3) (σ.1 3).toNatClampNeg ((60 * lat)))) := by rw [eS4]; exact hM3.pR 3 _
      have hF4 : FM o S S4 := by rw [eS4]; exact hF3.pR _ (by omega) (by omega)
      clear eS4
      refine x_aload_n 0 dX7_coast_42 rfl ?_
      refine x_dup dX7_coast_43 rfl ?_
      refine gf_X7_86 rfl dX7_coast_44 (mhK hM4.1) ?_
      rw [show gI (S4) 259 (o) = σ.1 3 from (hM4.i 3 (by decide))]
      refine x_iconst 1 dX7_coast_47 (by decide) ?_
      refine x_iadd dX7_coast_48 ?_
      refine pf_X7_86 rfl dX7_coast_49 (mhK hM4.1) ?_
      obtain ⟨S5, eS5⟩ : ∃ s9 : HS, s9 = uI (S4) 259 (o) ((σ.1 3 + 1)) := ⟨_, rfl⟩
      rw [← eS5]
      have hM5 : MI S5 o (fI (fR (fR (σ) 2 (upd (σ.2 2) (σ.1 3).toNatClampNeg (lon))) 3 (upd (σ.2 3) (σ.1 3).toNatClampNeg ((60 * lat)))) 3 ((σ.1 3 + 1))) := by rw [eS5]; exact hM4.pI 3 _
      have hF5 : FM o S S5 := by rw [eS5]; exact hF4.pI _ (by decide)
      clear eS5
      refine x_aload_n 0 dX7_coast_52 rfl ?_
      refine gf_X7_86 rfl dX7_coast_53 (mhK hM5.1) ?_
      rw [show gI (S5) 259 (o) = (σ.1 3 + 1) from (hM5.i 3 (by decide))]
      refine x_iconst 1 dX7_coast_56 (by decide) ?_
      refine x_at 57 rfl ?_
      refine x_isub dX7_coast_57 ?_
      exact x_ireturn dX7_coast_58 rfl (Nat.le_of_ble_eq_true rfl) (Nat.le_of_ble_eq_true rfl) ⟨by rw [g_X7_coast, if_neg c1, if_neg c2], by rw [g_X7_coast, if_neg c1, if_neg c2]; exact hM5, hF5⟩
    · refine x_iconst (-1) dX7_coast_17 (by decide) ?_
      exact x_ireturn dX7_coast_18 rfl (Nat.le_of_ble_eq_true rfl) (Nat.le_of_ble_eq_true rfl) ⟨by rw [g_X7_coast, if_neg c1, if_pos c2], by rw [g_X7_coast, if_neg c1, if_pos c2]; exact hM, FM.rf⟩
def g_X7_adds (σ : MS) (g : Int32) (cst : Int32) (s1 : Int32) (h1 : Int32) (s2 : Int32) (h2 : Int32) : MS := fR (fI (fR (fR (fR (fR (fR (fR (σ) 4 (upd (σ.2 4) (σ.1 6).toNatClampNeg (g))) 5 (upd (σ.2 5) (σ.1 6).toNatClampNeg (cst))) 6 (upd (σ.2 6) ((4 * σ.1 6)).toNatClampNeg (s1))) 6 (upd ((upd (σ.2 6) ((4 * σ.1 6)).toNatClampNeg (s1))) (((4 * σ.1 6) + 1)).toNatClampNeg (h1))) 6 (upd ((upd ((upd (σ.2 6) ((4 * σ.1 6)).toNatClampNeg (s1))) (((4 * σ.1 6) + 1)).toNatClampNeg (h1))) (((4 * σ.1 6) + 2)).toNatClampNeg (s2))) 6 (upd ((upd ((upd ((upd (σ.2 6) ((4 * σ.1 6)).toNatClampNeg (s1))) (((4 * σ.1 6) + 1)).toNatClampNeg (h1))) (((4 * σ.1 6) + 2)).toNatClampNeg (s2))) (((4 * σ.1 6) + 3)).toNatClampNeg (h2))) 6 ((σ.1 6 + 1))) 13 (upd (σ.2 13) (g).toNatClampNeg (1))
set_option maxRecDepth 100000 in
theorem c_X7_adds {k : KT} {S : HS} {o : Nat} (σ : MS) (g : Int32) (cst : Int32) (s1 : Int32) (h1 : Int32) (s2 : Int32) (h2 : Int32) (hM : MI S o σ) (hp : vp_in (σ.1 6) 600) (hg : vp_in g 24) : Ct k (mt_X7_adds (rm 1 0 0)) [.ref o, .int (g), .int (cst), .int (s1), .int (h1), .int (s2), .int (h2)] S (Pv o S (g_X7_adds σ g cst s1 h1 s2 h2)) := by
  refine Ct.ofF (by decide +kernel) (Nat.le_of_ble_eq_true rfl) ?_
  refine x_lv [(0, .ref (o)), (1, .int (g)), (2, .int (cst)), (3, .int (s1)), (4, .int (h1)), (5, .int (s2)), (6, .int (h2))] [0, 1, 2, 3, 4, 5, 6] rfl ?_
  refine x_aload_n 0 dX7_adds_0 rfl ?_
  refine gf_X7_19 rfl dX7_adds_1 (mhK hM.1) ?_
  rw [show gP (S) 263 (o) = some (o + 4) from (mhP_pieceGore hM.1)]
  refine x_aload_n 0 dX7_adds_4 rfl ?_
  refine gf_X7_92 rfl dX7_adds_5 (mhK hM.1) ?_
  rw [show gI (S) 262 (o) = σ.1 6 from (hM.i 6 (by decide))]
  refine x_iload_n 1 dX7_adds_8 rfl ?_
  refine x_iastore dX7_adds_9 (mhK_pieceGore hM.1) (by rw [show gL (S) (o + 4) = 600 from (mhL_pieceGore hM.1)]; exact (hp)) ?_
  rw [show gR (S) (o + 4) = σ.2 4 from (hM.r 4 (by decide))]
  obtain ⟨S1, eS1⟩ : ∃ s9 : HS, s9 = uR (S) (o + 4) (upd (σ.2 4) (σ.1 6).toNatClampNeg (g)) := ⟨_, rfl⟩
  rw [← eS1]
  have hM1 : MI S1 o (fR (σ) 4 (upd (σ.2 4) (σ.1 6).toNatClampNeg (g))) := by rw [eS1]; exact hM.pR 4 _
  have hF1 : FM o S S1 := by rw [eS1]; exact FM.rf.pR _ (by omega) (by omega)
  clear eS1
  refine x_aload_n 0 dX7_adds_10 rfl ?_
  refine gf_X7_22 rfl dX7_adds_11 (mhK hM1.1) ?_
  rw [show gP (S1) 264 (o) = some (o + 5) from (mhP_pieceCoast hM1.1)]
  refine x_aload_n 0 dX7_adds_14 rfl ?_
  refine gf_X7_92 rfl dX7_adds_15 (mhK hM1.1) ?_
  rw [show gI (S1) 262 (o) = σ.1 6 from (hM1.i 6 (by decide))]
  refine x_iload_n 2 dX7_adds_18 rfl ?_
  refine x_at 19 rfl ?_
  refine x_iastore dX7_adds_19 (mhK_pieceCoast hM1.1) (by rw [show gL (S1) (o + 5) = 600 from (mhL_pieceCoast hM1.1)]; exact (hp)) ?_
  rw [show gR (S1) (o + 5) = σ.2 5 from (hM1.r 5 (by decide))]
  obtain ⟨S2, eS2⟩ : ∃ s9 : HS, s9 = uR (S1) (o + 5) (upd (σ.2 5) (σ.1 6).toNatClampNeg (cst)) := ⟨_, rfl⟩
  rw [← eS2]
  have hM2 : MI S2 o (fR (fR (σ) 4 (upd (σ.2 4) (σ.1 6).toNatClampNeg (g))) 5 (upd (σ.2 5) (σ.1 6).toNatClampNeg (cst))) := by rw [eS2]; exact hM1.pR 5 _
  have hF2 : FM o S S2 := by rw [eS2]; exact hF1.pR _ (by omega) (by omega)
  clear eS2
  refine x_aload_n 0 dX7_adds_20 rfl ?_
  refine gf_X7_25 rfl dX7_adds_21 (mhK hM2.1) ?_
  rw [show gP (S2) 265 (o) = some (o + 6) from (mhP_pieceEnds hM2.1)]
  refine x_iconst 4 dX7_adds_24 (by decide) ?_
  refine x_aload_n 0 dX7_adds_25 rfl ?_
  refine gf_X7_92 rfl dX7_adds_26 (mhK hM2.1) ?_
  rw [show gI (S2) 262 (o) = σ.1 6 from (hM2.i 6 (by decide))]
  refine x_imul dX7_adds_29 ?_
  refine x_iload_n 3 dX7_adds_30 rfl ?_
  refine x_iastore dX7_adds_31 (mhK_pieceEnds hM2.1) (by rw [show gL (S2) (o + 6) = 2400 from (mhL_pieceEnds hM2.1)]; exact ((pe_in hp).1)) ?_
  rw [show gR (S2) (o + 6) = σ.2 6 from (hM2.r 6 (by decide))]
  obtain ⟨S3, eS3⟩ : ∃ s9 : HS, s9 = uR (S2) (o + 6) (upd (σ.2 6) ((4 * σ.1 6)).toNatClampNeg (s1)) := ⟨_, rfl⟩
  rw [← eS3]
  have hM3 : MI S3 o (fR (fR (fR (σ) 4 (upd (σ.2 4) (σ.1 6).toNatClampNeg (g))) 5 (upd (σ.2 5) (σ.1 6).toNatClampNeg (cst))) 6 (upd (σ.2 6) ((4 * σ.1 6)).toNatClampNeg (s1))) := by rw [eS3]; exact hM2.pR 6 _
  have hF3 : FM o S S3 := by rw [eS3]; exact hF2.pR _ (by omega) (by omega)
  clear eS3
  refine x_aload_n 0 dX7_adds_32 rfl ?_
  refine gf_X7_25 rfl dX7_adds_33 (mhK hM3.1) ?_
  rw [show gP (S3) 265 (o) = some (o + 6) from (mhP_pieceEnds hM3.1)]
  refine x_iconst 4 dX7_adds_36 (by decide) ?_
  refine x_at 37 rfl ?_
  refine x_aload_n 0 dX7_adds_37 rfl ?_
  refine gf_X7_92 rfl dX7_adds_38 (mhK hM3.1) ?_
  rw [show gI (S3) 262 (o) = σ.1 6 from (hM3.i 6 (by decide))]
  refine x_imul dX7_adds_41 ?_
  refine x_iconst 1 dX7_adds_42 (by decide) ?_
  refine x_iadd dX7_adds_43 ?_
  refine x_iload 4 dX7_adds_44 rfl ?_
  refine x_iastore dX7_adds_46 (mhK_pieceEnds hM3.1) (by rw [show gL (S3) (o + 6) = 2400 from (mhL_pieceEnds hM3.1)]; exact ((pe_in hp).2.1)) ?_
  rw [show gR (S3) (o + 6) = (upd (σ.2 6) ((4 * σ.1 6)).toNatClampNeg (s1)) from (hM3.r 6 (by decide))]
  obtain ⟨S4, eS4⟩ : ∃ s9 : HS, s9 = uR (S3) (o + 6) (upd ((upd (σ.2 6) ((4 * σ.1 6)).toNatClampNeg (s1))) (((4 * σ.1 6) + 1)).toNatClampNeg (h1)) := ⟨_, rfl⟩
  rw [← eS4]
  have hM4 : MI S4 o (fR (fR (fR (fR (σ) 4 (upd (σ.2 4) (σ.1 6).toNatClampNeg (g))) 5 (upd (σ.2 5) (σ.1 6).toNatClampNeg (cst))) 6 (upd (σ.2 6) ((4 * σ.1 6)).toNatClampNeg (s1))) 6 (upd ((upd (σ.2 6) ((4 * σ.1 6)).toNatClampNeg (s1))) (((4 * σ.1 6) + 1)).toNatClampNeg (h1))) := by rw [eS4]; exact hM3.pR 6 _
  have hF4 : FM o S S4 := by rw [eS4]; exact hF3.pR _ (by omega) (by omega)
  clear eS4
  refine x_aload_n 0 dX7_adds_47 rfl ?_
  refine gf_X7_25 rfl dX7_adds_48 (mhK hM4.1) ?_
  rw [show gP (S4) 265 (o) = some (o + 6) from (mhP_pieceEnds hM4.1)]
  refine x_iconst 4 dX7_adds_51 (by decide) ?_
  refine x_aload_n 0 dX7_adds_52 rfl ?_
  refine gf_X7_92 rfl dX7_adds_53 (mhK hM4.1) ?_
  rw [show gI (S4) 262 (o) = σ.1 6 from (hM4.i 6 (by decide))]
  refine x_at 56 rfl ?_
  refine x_imul dX7_adds_56 ?_
  refine x_iconst 2 dX7_adds_57 (by decide) ?_
  refine x_iadd dX7_adds_58 ?_
  refine x_iload 5 dX7_adds_59 rfl ?_
  refine x_iastore dX7_adds_61 (mhK_pieceEnds hM4.1) (by rw [show gL (S4) (o + 6) = 2400 from (mhL_pieceEnds hM4.1)]; exact ((pe_in hp).2.2.1)) ?_
  rw [show gR (S4) (o + 6) = (upd ((upd (σ.2 6) ((4 * σ.1 6)).toNatClampNeg (s1))) (((4 * σ.1 6) + 1)).toNatClampNeg (h1)) from (hM4.r 6 (by decide))]
  obtain ⟨S5, eS5⟩ : ∃ s9 : HS, s9 = uR (S4) (o + 6) (upd ((upd ((upd (σ.2 6) ((4 * σ.1 6)).toNatClampNeg (s1))) (((4 * σ.1 6) + 1)).toNatClampNeg (h1))) (((4 * σ.1 6) + 2)).toNatClampNeg (s2)) := ⟨_, rfl⟩
  rw [← eS5]
  have hM5 : MI S5 o (fR (fR (fR (fR (fR (σ) 4 (upd (σ.2 4) (σ.1 6).toNatClampNeg (g))) 5 (upd (σ.2 5) (σ.1 6).toNatClampNeg (cst))) 6 (upd (σ.2 6) ((4 * σ.1 6)).toNatClampNeg (s1))) 6 (upd ((upd (σ.2 6) ((4 * σ.1 6)).toNatClampNeg (s1))) (((4 * σ.1 6) + 1)).toNatClampNeg (h1))) 6 (upd ((upd ((upd (σ.2 6) ((4 * σ.1 6)).toNatClampNeg (s1))) (((4 * σ.1 6) + 1)).toNatClampNeg (h1))) (((4 * σ.1 6) + 2)).toNatClampNeg (s2))) := by rw [eS5]; exact hM4.pR 6 _
  have hF5 : FM o S S5 := by rw [eS5]; exact hF4.pR _ (by omega) (by omega)
  clear eS5
  refine x_aload_n 0 dX7_adds_62 rfl ?_
  refine gf_X7_25 rfl dX7_adds_63 (mhK hM5.1) ?_
  rw [show gP (S5) 265 (o) = some (o + 6) from (mhP_pieceEnds hM5.1)]
  refine x_iconst 4 dX7_adds_66 (by decide) ?_
  refine x_aload_n 0 dX7_adds_67 rfl ?_
  refine gf_X7_92 rfl dX7_adds_68 (mhK hM5.1) ?_
  rw [show gI (S5) 262 (o) = σ.1 6 from (hM5.i 6 (by decide))]
  refine x_imul dX7_adds_71 ?_
  refine x_iconst 3 dX7_adds_72 (by decide) ?_
  refine x_at 73 rfl ?_
  refine x_iadd dX7_adds_73 ?_
  refine x_iload 6 dX7_adds_74 rfl ?_
  refine x_iastore dX7_adds_76 (mhK_pieceEnds hM5.1) (by rw [show gL (S5) (o + 6) = 2400 from (mhL_pieceEnds hM5.1)]; exact ((pe_in hp).2.2.2)) ?_
  rw [show gR (S5) (o + 6) = (upd ((upd ((upd (σ.2 6) ((4 * σ.1 6)).toNatClampNeg (s1))) (((4 * σ.1 6) + 1)).toNatClampNeg (h1))) (((4 * σ.1 6) + 2)).toNatClampNeg (s2)) from (hM5.r 6 (by decide))]
  obtain ⟨S6, eS6⟩ : ∃ s9 : HS, s9 = uR (S5) (o + 6) (upd ((upd ((upd ((upd (σ.2 6) ((4 * σ.1 6)).toNatClampNeg (s1))) (((4 * σ.1 6) + 1)).toNatClampNeg (h1))) (((4 * σ.1 6) + 2)).toNatClampNeg (s2))) (((4 * σ.1 6) + 3)).toNatClampNeg (h2)) := ⟨_, rfl⟩
  rw [← eS6]
  have hM6 : MI S6 o (fR (fR (fR (fR (fR (fR (σ) 4 (upd (σ.2 4) (σ.1 6).toNatClampNeg (g))) 5 (upd (σ.2 5) (σ.1 6).toNatClampNeg (cst))) 6 (upd (σ.2 6) ((4 * σ.1 6)).toNatClampNeg (s1))) 6 (upd ((upd (σ.2 6) ((4 * σ.1 6)).toNatClampNeg (s1))) (((4 * σ.1 6) + 1)).toNatClampNeg (h1))) 6 (upd ((upd ((upd (σ.2 6) ((4 * σ.1 6)).toNatClampNeg (s1))) (((4 * σ.1 6) + 1)).toNatClampNeg (h1))) (((4 * σ.1 6) + 2)).toNatClampNeg (s2))) 6 (upd ((upd ((upd ((upd (σ.2 6) ((4 * σ.1 6)).toNatClampNeg (s1))) (((4 * σ.1 6) + 1)).toNatClampNeg (h1))) (((4 * σ.1 6) + 2)).toNatClampNeg (s2))) (((4 * σ.1 6) + 3)).toNatClampNeg (h2))) := by rw [eS6]; exact hM5.pR 6 _
  have hF6 : FM o S S6 := by rw [eS6]; exact hF5.pR _ (by omega) (by omega)
  clear eS6
  refine x_aload_n 0 dX7_adds_77 rfl ?_
  refine x_dup dX7_adds_78 rfl ?_
  refine gf_X7_92 rfl dX7_adds_79 (mhK hM6.1) ?_
  rw [show gI (S6) 262 (o) = σ.1 6 from (hM6.i 6 (by decide))]
  refine x_iconst 1 dX7_adds_82 (by decide) ?_
  refine x_iadd dX7_adds_83 ?_
  refine pf_X7_92 rfl dX7_adds_84 (mhK hM6.1) ?_
  obtain ⟨S7, eS7⟩ : ∃ s9 : HS, s9 = uI (S6) 262 (o) ((σ.1 6 + 1)) := ⟨_, rfl⟩
  rw [← eS7]
  have hM7 : MI S7 o (fI (fR (fR (fR (fR (fR (fR (σ) 4 (upd (σ.2 4) (σ.1 6).toNatClampNeg (g))) 5 (upd (σ.2 5) (σ.1 6).toNatClampNeg (cst))) 6 (upd (σ.2 6) ((4 * σ.1 6)).toNatClampNeg (s1))) 6 (upd ((upd (σ.2 6) ((4 * σ.1 6)).toNatClampNeg (s1))) (((4 * σ.1 6) + 1)).toNatClampNeg (h1))) 6 (upd ((upd ((upd (σ.2 6) ((4 * σ.1 6)).toNatClampNeg (s1))) (((4 * σ.1 6) + 1)).toNatClampNeg (h1))) (((4 * σ.1 6) + 2)).toNatClampNeg (s2))) 6 (upd ((upd ((upd ((upd (σ.2 6) ((4 * σ.1 6)).toNatClampNeg (s1))) (((4 * σ.1 6) + 1)).toNatClampNeg (h1))) (((4 * σ.1 6) + 2)).toNatClampNeg (s2))) (((4 * σ.1 6) + 3)).toNatClampNeg (h2))) 6 ((σ.1 6 + 1))) := by rw [eS7]; exact hM6.pI 6 _
  have hF7 : FM o S S7 := by rw [eS7]; exact hF6.pI _ (by decide)
  clear eS7
  refine x_aload_n 0 dX7_adds_87 rfl ?_
  refine gf_X7_47 rfl dX7_adds_88 (mhK hM7.1) ?_
  rw [show gP (S7) 275 (o) = some (o + 13) from (mhP_isFresh hM7.1)]
  refine x_iload_n 1 dX7_adds_91 rfl ?_
  refine x_at 92 rfl ?_
  refine x_iconst 1 dX7_adds_92 (by decide) ?_
  refine x_bastore dX7_adds_93 (mhK_isFresh hM7.1) (by rw [show gL (S7) (o + 13) = 24 from (mhL_isFresh hM7.1)]; exact (hg)) (by decide) ?_
  rw [show gR (S7) (o + 13) = σ.2 13 from (hM7.r 13 (by decide))]
  obtain ⟨S8, eS8⟩ : ∃ s9 : HS, s9 = uR (S7) (o + 13) (upd (σ.2 13) (g).toNatClampNeg (1)) := ⟨_, rfl⟩
  rw [← eS8]
  have hM8 : MI S8 o (fR (fI (fR (fR (fR (fR (fR (fR (σ) 4 (upd (σ.2 4) (σ.1 6).toNatClampNeg (g))) 5 (upd (σ.2 5) (σ.1 6).toNatClampNeg (cst))) 6 (upd (σ.2 6) ((4 * σ.1 6)).toNatClampNeg (s1))) 6 (upd ((upd (σ.2 6) ((4 * σ.1 6)).toNatClampNeg (s1))) (((4 * σ.1 6) + 1)).toNatClampNeg (h1))) 6 (upd ((upd ((upd (σ.2 6) ((4 * σ.1 6)).toNatClampNeg (s1))) (((4 * σ.1 6) + 1)).toNatClampNeg (h1))) (((4 * σ.1 6) + 2)).toNatClampNeg (s2))) 6 (upd ((upd ((upd ((upd (σ.2 6) ((4 * σ.1 6)).toNatClampNeg (s1))) (((4 * σ.1 6) + 1)).toNatClampNeg (h1))) (((4 * σ.1 6) + 2)).toNatClampNeg (s2))) (((4 * σ.1 6) + 3)).toNatClampNeg (h2))) 6 ((σ.1 6 + 1))) 13 (upd (σ.2 13) (g).toNatClampNeg (1))) := by rw [eS8]; exact hM7.pR 13 _
  have hF8 : FM o S S8 := by rw [eS8]; exact hF7.pR _ (by omega) (by omega)
  clear eS8
  exact x_return dX7_adds_94 rfl (Nat.le_of_ble_eq_true rfl) (Nat.le_of_ble_eq_true rfl) ⟨rfl, by rw [g_X7_adds]; exact hM8, hF8⟩
def lp_X7_pieces (σ : MS) (g : Int32) : Nat → Nat → Int32 → Int32
  | 0, j, n => n
  | m + 1, j, n => (if ((σ.2 4) (nI j).toNatClampNeg) = g then lp_X7_pieces σ g m (j + 1) ((n + 1)) else lp_X7_pieces σ g m (j + 1) ((n + 0)))
set_option maxRecDepth 100000 in
theorem l_lp_X7_pieces {k : KT} {S : HS} {o : Nat} {σ : MS} {P : Nat} (g : Int32) (hM : MI S o σ) (hP : σ.1 6 = nI P) (hP2 : P ≤ 600) : ∀ (m : Nat) (j : Nat) (n : Int32), j + m = P → X k (mt_X7_pieces (rm 3 0 0)) (Zm k (mt_X7_pieces (rm 3 0 0)) (Pu (lp_X7_pieces σ g m j n) S)) 14 [(0, .ref (o)), (1, .int (g)), (3, .int (nI j)), (2, .int (n))] [] S 0 0 := by
  intro m
  induction m with
  | zero =>
    intro j n hj
    refine x_iload_n 2 dX7_pieces_14 rfl ?_
    refine x_aload_n 0 dX7_pieces_15 rfl ?_
    refine gf_X7_92 rfl dX7_pieces_16 (mhK hM.1) ?_
    rw [show gI (S) 262 (o) = nI P from ((hM.i 6 (by decide)).trans hP)]
    refine x_icmp_ge 46 dX7_pieces_19 (by decide) (fun c1 => ?_) (fun c1 => ?_)
    · refine x_iload_n 3 dX7_pieces_46 rfl ?_
      exact x_ireturn dX7_pieces_47 rfl (Nat.le_of_ble_eq_true rfl) (Nat.le_of_ble_eq_true rfl) ⟨by rw [lp_X7_pieces], rfl⟩
    · exact absurd (nI_le (by omega) (by omega)) c1
  | succ m ih =>
    intro j n hj
    refine x_iload_n 2 dX7_pieces_14 rfl ?_
    refine x_aload_n 0 dX7_pieces_15 rfl ?_
    refine gf_X7_92 rfl dX7_pieces_16 (mhK hM.1) ?_
    rw [show gI (S) 262 (o) = nI P from ((hM.i 6 (by decide)).trans hP)]
    refine x_icmp_ge 46 dX7_pieces_19 (by decide) (fun c1 => ?_) (fun c1 => ?_)
    · exact absurd c1 (nI_ge (by omega) (by omega))
    · refine x_iload_n 3 dX7_pieces_22 rfl ?_
      refine x_aload_n 0 dX7_pieces_23 rfl ?_
      refine gf_X7_19 rfl dX7_pieces_24 (mhK hM.1) ?_
      rw [show gP (S) 263 (o) = some (o + 4) from (mhP_pieceGore hM.1)]
      refine x_iload_n 2 dX7_pieces_27 rfl ?_
      refine x_iaload dX7_pieces_28 (mhK_pieceGore hM.1) (by rw [show gL (S) (o + 4) = 600 from (mhL_pieceGore hM.1)]; exact (vp_in_nI (by omega) (by decide))) ?_
      rw [show gR (S) (o + 4) = σ.2 4 from (hM.r 4 (by decide))]
      refine x_iload_n 1 dX7_pieces_29 rfl ?_
      refine x_icmp_ne 37 dX7_pieces_30 (by decide) (fun c2 => ?_) (fun c2 => ?_)
      · refine x_iconst 0 dX7_pieces_37 (by decide) ?_
        refine x_iadd dX7_pieces_38 ?_
        refine x_istore_n [(2, .int ((n + 0))), (0, .ref (o)), (1, .int (g)), (3, .int (nI j))] dX7_pieces_39 (Nat.le_of_ble_eq_true rfl) rfl ?_
        refine x_iinc 3 (nI j + 1) [(3, .int ((nI j + 1))), (2, .int ((n + 0))), (0, .ref (o)), (1, .int (g))] dX7_pieces_40 rfl rfl (Nat.le_of_ble_eq_true rfl) rfl ?_
        refine x_goto 14 dX7_pieces_43 (by decide) ?_
        refine x_lv [(0, .ref (o)), (1, .int (g)), (3, .int (nI (j + 1))), (2, .int ((n + 0)))] [2, 3, 0, 1] (by rw [← nI_1 j]; rfl) ?_
        rw [show lp_X7_pieces σ g (m + 1) j n = lp_X7_pieces σ g m (j + 1) ((n + 0)) from by rw [lp_X7_pieces, if_neg c2]]
        exact ih (j + 1) ((n + 0)) (by omega)
      · refine x_iconst 1 dX7_pieces_33 (by decide) ?_
        refine x_goto 38 dX7_pieces_34 (by decide) ?_
        refine x_iadd dX7_pieces_38 ?_
        refine x_istore_n [(2, .int ((n + 1))), (0, .ref (o)), (1, .int (g)), (3, .int (nI j))] dX7_pieces_39 (Nat.le_of_ble_eq_true rfl) rfl ?_
        refine x_iinc 3 (nI j + 1) [(3, .int ((nI j + 1))), (2, .int ((n + 1))), (0, .ref (o)), (1, .int (g))] dX7_pieces_40 rfl rfl (Nat.le_of_ble_eq_true rfl) rfl ?_
        refine x_goto 14 dX7_pieces_43 (by decide) ?_
        refine x_lv [(0, .ref (o)), (1, .int (g)), (3, .int (nI (j + 1))), (2, .int ((n + 1)))] [2, 3, 0, 1] (by rw [← nI_1 j]; rfl) ?_
        rw [show lp_X7_pieces σ g (m + 1) j n = lp_X7_pieces σ g m (j + 1) ((n + 1)) from by rw [lp_X7_pieces, if_pos c2]]
        exact ih (j + 1) ((n + 1)) (by omega)
def h_X7_pieces (σ : MS) (g : Int32) : Int32 := (if (f_X7_isGore (σ.1 1) g) = 0 then (-1) else lp_X7_pieces (σ) (g)  ((σ.1 6).toNatClampNeg) 0 (0))
set_option maxRecDepth 100000 in
theorem c_X7_pieces {k : KT} {S : HS} {o : Nat} (σ : MS) (g : Int32) (hM : MI S o σ) (hO : okS σ) : Ct k (mt_X7_pieces (rm 3 0 0)) [.ref o, .int (g)] S (Pu (h_X7_pieces σ g) S) := by
  obtain ⟨P, hP2, hP⟩ := hO.pc
  refine Ct.ofF (by decide +kernel) (Nat.le_of_ble_eq_true rfl) ?_
  refine x_lv [(0, .ref (o)), (1, .int (g))] [0, 1] rfl ?_
  refine x_aload_n 0 dX7_pieces_0 rfl ?_
  refine x_iload_n 1 dX7_pieces_1 rfl ?_
  refine ca_X7_121 [.int (g)] [] (c_X7_isGore (σ.1 1) (g) hM.1 (hM.i 1 (by decide))) (mhK hM.1) rfl dX7_pieces_2 rfl rfl ⟨(Nat.le_of_ble_eq_true rfl), (Nat.le_of_ble_eq_true rfl), (Nat.le_of_ble_eq_true rfl), (Nat.le_of_ble_eq_true rfl), (Nat.le_of_ble_eq_true rfl)⟩ (fun v T hq => ?_)
  obtain ⟨rfl, rfl⟩ := hq
  refine x_if_ne 10 dX7_pieces_5 (by decide) (fun c1 => ?_) (fun c1 => ?_)
  · refine x_iconst 0 dX7_pieces_10 (by decide) ?_
    refine x_istore_n [(2, .int (0)), (0, .ref (o)), (1, .int (g))] dX7_pieces_11 (Nat.le_of_ble_eq_true rfl) rfl ?_
    refine x_iconst 0 dX7_pieces_12 (by decide) ?_
    refine x_istore_n [(3, .int (0)), (2, .int (0)), (0, .ref (o)), (1, .int (g))] dX7_pieces_13 (Nat.le_of_ble_eq_true rfl) rfl ?_
    refine x_lv [(0, .ref (o)), (1, .int (g)), (3, .int (nI 0)), (2, .int (0))] [2, 3, 0, 1] (rfl) ?_
    rw [show h_X7_pieces σ g = lp_X7_pieces (σ) (g)  (P) 0 (0) from by rw [h_X7_pieces, if_neg c1, show (σ.1 6).toNatClampNeg = P from by rw [hP]; exact nI_clamp (by omega)]]
    exact l_lp_X7_pieces (g)  hM hP hP2 (P) 0 (0) (by omega)
  · refine x_iconst (-1) dX7_pieces_8 (by decide) ?_
    exact x_ireturn dX7_pieces_9 rfl (Nat.le_of_ble_eq_true rfl) (Nat.le_of_ble_eq_true rfl) ⟨by rw [h_X7_pieces, if_pos c1], rfl⟩
def lp_X7_piece (σ : MS) (g : Int32) (i : Int32) (wh : Int32) : Nat → Nat → Int32 → Int32
  | 0, j, lf => (if wh = 0 then (-1) else (-2147483648))
  | m + 1, j, lf => (if i < 0 then (if wh = 0 then (-1) else (-2147483648)) else (if ((σ.2 4) (nI j).toNatClampNeg) = g then (if lf = 0 then (if wh = 0 then ((σ.2 5) (nI j).toNatClampNeg) else ((σ.2 6) ((((4 * nI j) + wh) - 1)).toNatClampNeg)) else lp_X7_piece σ g i wh m (j + 1) ((lf + (-1)))) else lp_X7_piece σ g i wh m (j + 1) (lf)))
set_option maxRecDepth 100000 in
theorem l_lp_X7_piece {k : KT} {S : HS} {o : Nat} {σ : MS} {P : Nat} (g : Int32) (i : Int32) (wh : Int32) (hM : MI S o σ) (hP : σ.1 6 = nI P) (hP2 : P ≤ 600) (hw : 0 ≤ wh ∧ wh ≤ 4) : ∀ (m : Nat) (j : Nat) (lf : Int32), j + m = P → X k (mt_X7_piece (rm 2 0 0)) (Zm k (mt_X7_piece (rm 2 0 0)) (Pu (lp_X7_piece σ g i wh m j lf) S)) 17 [(0, .ref (o)), (1, .int (g)), (2, .int (i)), (3, .int (wh)), (5, .int (nI j)), (4, .int (lf))] [] S 0 0 := by
  intro m
  induction m with
  | zero =>
    intro j lf hj
    refine x_iload 4 dX7_piece_17 rfl ?_
    refine x_aload_n 0 dX7_piece_19 rfl ?_
    refine gf_X7_92 rfl dX7_piece_20 (mhK hM.1) ?_
    rw [show gI (S) 262 (o) = nI P from ((hM.i 6 (by decide)).trans hP)]
    refine x_icmp_ge 86 dX7_piece_23 (by decide) (fun c1 => ?_) (fun c1 => ?_)
    · refine x_iload_n 3 dX7_piece_86 rfl ?_
      refine x_if_ne 94 dX7_piece_87 (by decide) (fun c2 => ?_) (fun c2 => ?_)
      · refine x_ldc dX7_piece_94 tw_6_15 ?_
        exact x_ireturn dX7_piece_96 rfl (Nat.le_of_ble_eq_true rfl) (Nat.le_of_ble_eq_true rfl) ⟨by rw [lp_X7_piece, if_neg c2], rfl⟩
      · refine x_iconst (-1) dX7_piece_90 (by decide) ?_
        refine x_goto 96 dX7_piece_91 (by decide) ?_
        exact x_ireturn dX7_piece_96 rfl (Nat.le_of_ble_eq_true rfl) (Nat.le_of_ble_eq_true rfl) ⟨by rw [lp_X7_piece, if_pos c2], rfl⟩
    · exact absurd (nI_le (by omega) (by omega)) c1
  | succ m ih =>
    intro j lf hj
    refine x_iload 4 dX7_piece_17 rfl ?_
    refine x_aload_n 0 dX7_piece_19 rfl ?_
    refine gf_X7_92 rfl dX7_piece_20 (mhK hM.1) ?_
    rw [show gI (S) 262 (o) = nI P from ((hM.i 6 (by decide)).trans hP)]
    refine x_icmp_ge 86 dX7_piece_23 (by decide) (fun c1 => ?_) (fun c1 => ?_)
    · exact absurd c1 (nI_ge (by omega) (by omega))
    · refine x_iload_n 2 dX7_piece_26 rfl ?_
      refine x_if_lt 86 dX7_piece_27 (by decide) (fun c2 => ?_) (fun c2 => ?_)
      · refine x_iload_n 3 dX7_piece_86 rfl ?_
        refine x_if_ne 94 dX7_piece_87 (by decide) (fun c3 => ?_) (fun c3 => ?_)
        · refine x_ldc dX7_piece_94 tw_6_15 ?_
          exact x_ireturn dX7_piece_96 rfl (Nat.le_of_ble_eq_true rfl) (Nat.le_of_ble_eq_true rfl) ⟨by rw [lp_X7_piece, if_pos c2, if_neg c3], rfl⟩
        · refine x_iconst (-1) dX7_piece_90 (by decide) ?_
          refine x_goto 96 dX7_piece_91 (by decide) ?_
          exact x_ireturn dX7_piece_96 rfl (Nat.le_of_ble_eq_true rfl) (Nat.le_of_ble_eq_true rfl) ⟨by rw [lp_X7_piece, if_pos c2, if_pos c3], rfl⟩
      · refine x_aload_n 0 dX7_piece_30 rfl ?_
        refine gf_X7_19 rfl dX7_piece_31 (mhK hM.1) ?_
        rw [show gP (S) 263 (o) = some (o + 4) from (mhP_pieceGore hM.1)]
        refine x_iload 4 dX7_piece_34 rfl ?_
        refine x_iaload dX7_piece_36 (mhK_pieceGore hM.1) (by rw [show gL (S) (o + 4) = 600 from (mhL_pieceGore hM.1)]; exact (vp_in_nI (by omega) (by decide))) ?_
        rw [show gR (S) (o + 4) = σ.2 4 from (hM.r 4 (by decide))]
        refine x_iload_n 1 dX7_piece_37 rfl ?_
        refine x_icmp_eq 44 dX7_piece_38 (by decide) (fun c4 => ?_) (fun c4 => ?_)
        · refine x_iload 5 dX7_piece_44 rfl ?_
          refine x_if_ne 77 dX7_piece_46 (by decide) (fun c5 => ?_) (fun c5 => ?_)
          · refine x_iinc 5 (lf + (-1)) [(4, .int ((lf + (-1)))), (0, .ref (o)), (1, .int (g)), (2, .int (i)), (3, .int (wh)), (5, .int (nI j))] dX7_piece_77 rfl rfl (Nat.le_of_ble_eq_true rfl) rfl ?_
            refine x_iinc 5 (nI j + 1) [(5, .int ((nI j + 1))), (4, .int ((lf + (-1)))), (0, .ref (o)), (1, .int (g)), (2, .int (i)), (3, .int (wh))] dX7_piece_80 rfl rfl (Nat.le_of_ble_eq_true rfl) rfl ?_
            refine x_goto 17 dX7_piece_83 (by decide) ?_
            refine x_lv [(0, .ref (o)), (1, .int (g)), (2, .int (i)), (3, .int (wh)), (5, .int (nI (j + 1))), (4, .int ((lf + (-1))))] [2, 3, 4, 5, 0, 1] (by rw [← nI_1 j]; rfl) ?_
            rw [show lp_X7_piece σ g i wh (m + 1) j lf = lp_X7_piece σ g i wh m (j + 1) ((lf + (-1))) from by rw [lp_X7_piece, if_neg c2, if_pos c4, if_neg c5]]
            exact ih (j + 1) ((lf + (-1))) (by omega)
          · refine x_iload_n 3 dX7_piece_49 rfl ?_
            refine x_if_ne 63 dX7_piece_50 (by decide) (fun c6 => ?_) (fun c6 => ?_)
            · refine x_aload_n 0 dX7_piece_63 rfl ?_
              refine gf_X7_25 rfl dX7_piece_64 (mhK hM.1) ?_
              rw [show gP (S) 265 (o) = some (o + 6) from (mhP_pieceEnds hM.1)]
              refine x_iconst 4 dX7_piece_67 (by decide) ?_
              refine x_iload 4 dX7_piece_68 rfl ?_
              refine x_imul dX7_piece_70 ?_
              refine x_iload_n 3 dX7_piece_71 rfl ?_
              refine x_iadd dX7_piece_72 ?_
              refine x_iconst 1 dX7_piece_73 (by decide) ?_
              refine x_isub dX7_piece_74 ?_
              refine x_iaload dX7_piece_75 (mhK_pieceEnds hM.1) (by rw [show gL (S) (o + 6) = 2400 from (mhL_pieceEnds hM.1)]; exact (pe2_in (by omega) hP2 hw c6)) ?_
              rw [show gR (S) (o + 6) = σ.2 6 from (hM.r 6 (by decide))]
              exact x_ireturn dX7_piece_76 rfl (Nat.le_of_ble_eq_true rfl) (Nat.le_of_ble_eq_true rfl) ⟨by rw [lp_X7_piece, if_neg c2, if_pos c4, if_pos c5, if_neg c6], rfl⟩
            · refine x_at 53 rfl ?_
              refine x_aload_n 0 dX7_piece_53 rfl ?_
              refine gf_X7_22 rfl dX7_piece_54 (mhK hM.1) ?_
              rw [show gP (S) 264 (o) = some (o + 5) from (mhP_pieceCoast hM.1)]
              refine x_iload 4 dX7_piece_57 rfl ?_
              refine x_iaload dX7_piece_59 (mhK_pieceCoast hM.1) (by rw [show gL (S) (o + 5) = 600 from (mhL_pieceCoast hM.1)]; exact (vp_in_nI (by omega) (by decide))) ?_
              rw [show gR (S) (o + 5) = σ.2 5 from (hM.r 5 (by decide))]
              refine x_goto 76 dX7_piece_60 (by decide) ?_
              exact x_ireturn dX7_piece_76 rfl (Nat.le_of_ble_eq_true rfl) (Nat.le_of_ble_eq_true rfl) ⟨by rw [lp_X7_piece, if_neg c2, if_pos c4, if_pos c5, if_pos c6], rfl⟩
        · refine x_goto 80 dX7_piece_41 (by decide) ?_
          refine x_iinc 4 (nI j + 1) [(5, .int ((nI j + 1))), (0, .ref (o)), (1, .int (g)), (2, .int (i)), (3, .int (wh)), (4, .int (lf))] dX7_piece_80 rfl rfl (Nat.le_of_ble_eq_true rfl) rfl ?_
          refine x_goto 17 dX7_piece_83 (by decide) ?_
          refine x_lv [(0, .ref (o)), (1, .int (g)), (2, .int (i)), (3, .int (wh)), (5, .int (nI (j + 1))), (4, .int (lf))] [1, 2, 3, 4, 0, 5] (by rw [← nI_1 j]; rfl) ?_
          rw [show lp_X7_piece σ g i wh (m + 1) j lf = lp_X7_piece σ g i wh m (j + 1) (lf) from by rw [lp_X7_piece, if_neg c2, if_neg c4]]
          exact ih (j + 1) (lf) (by omega)
def h_X7_piece (σ : MS) (g : Int32) (i : Int32) (wh : Int32) : Int32 := (if (f_X7_in wh 0 4) = 0 then (-1) else lp_X7_piece (σ) (g) (i) (wh)  ((σ.1 6).toNatClampNeg) 0 (i))
set_option maxRecDepth 100000 in
theorem c_X7_piece {k : KT} {S : HS} {o : Nat} (σ : MS) (g : Int32) (i : Int32) (wh : Int32) (hM : MI S o σ) (hO : okS σ) : Ct k (mt_X7_piece (rm 2 0 0)) [.ref o, .int (g), .int (i), .int (wh)] S (Pu (h_X7_piece σ g i wh) S) := by
  obtain ⟨P, hP2, hP⟩ := hO.pc
  refine Ct.ofF (by decide +kernel) (Nat.le_of_ble_eq_true rfl) ?_
  refine x_lv [(0, .ref (o)), (1, .int (g)), (2, .int (i)), (3, .int (wh))] [0, 1, 2, 3] rfl ?_
  refine x_iload_n 3 dX7_piece_0 rfl ?_
  refine x_iconst 0 dX7_piece_1 (by decide) ?_
  refine x_iconst 4 dX7_piece_2 (by decide) ?_
  refine ca_X7_69 [.int (wh), .int (0), .int (4)] [] (c_X7_in (wh) (0) (4)) rfl dX7_piece_3 rfl rfl ⟨(Nat.le_of_ble_eq_true rfl), (Nat.le_of_ble_eq_true rfl), (Nat.le_of_ble_eq_true rfl), (Nat.le_of_ble_eq_true rfl), (Nat.le_of_ble_eq_true rfl)⟩ (fun v T hq => ?_)
  obtain ⟨rfl, rfl⟩ := hq
  refine x_if_ne 11 dX7_piece_6 (by decide) (fun c1 => ?_) (fun c1 => ?_)
  · refine x_iload_n 2 dX7_piece_11 rfl ?_
    refine x_istore [(4, .int (i)), (0, .ref (o)), (1, .int (g)), (2, .int (i)), (3, .int (wh))] dX7_piece_12 (Nat.le_of_ble_eq_true rfl) rfl ?_
    refine x_iconst 0 dX7_piece_14 (by decide) ?_
    refine x_istore [(5, .int (0)), (4, .int (i)), (0, .ref (o)), (1, .int (g)), (2, .int (i)), (3, .int (wh))] dX7_piece_15 (Nat.le_of_ble_eq_true rfl) rfl ?_
    refine x_lv [(0, .ref (o)), (1, .int (g)), (2, .int (i)), (3, .int (wh)), (5, .int (nI 0)), (4, .int (i))] [2, 3, 4, 5, 0, 1] (rfl) ?_
    rw [show h_X7_piece σ g i wh = lp_X7_piece (σ) (g) (i) (wh)  (P) 0 (i) from by rw [h_X7_piece, if_neg c1, show (σ.1 6).toNatClampNeg = P from by rw [hP]; exact nI_clamp (by omega)]]
    exact l_lp_X7_piece (g) (i) (wh)  hM hP hP2 (x_in_ok c1) (P) 0 (i) (by omega)
  · refine x_iconst (-1) dX7_piece_9 (by decide) ?_
    exact x_ireturn dX7_piece_10 rfl (Nat.le_of_ble_eq_true rfl) (Nat.le_of_ble_eq_true rfl) ⟨by rw [h_X7_piece, if_pos c1], rfl⟩
def lp_X7_namesIn (σ : MS) (g : Int32) : Nat → Nat → Int32 → Int32
  | 0, j, n => n
  | m + 1, j, n => (if ((σ.2 7) (nI j).toNatClampNeg) = 0 then lp_X7_namesIn σ g m (j + 1) ((n + 0)) else (if ((σ.2 8) (nI j).toNatClampNeg) = g then lp_X7_namesIn σ g m (j + 1) ((n + 1)) else lp_X7_namesIn σ g m (j + 1) ((n + 0))))
set_option maxRecDepth 100000 in
theorem l_lp_X7_namesIn {k : KT} {S : HS} {o : Nat} {σ : MS} {P : Nat} (g : Int32) (hM : MI S o σ) (hP : σ.1 12 = nI P) (hP2 : P ≤ 60) : ∀ (m : Nat) (j : Nat) (n : Int32), j + m = P → X k (mt_X7_namesIn (rm 1 0 0)) (Zm k (mt_X7_namesIn (rm 1 0 0)) (Pu (lp_X7_namesIn σ g m j n) S)) 4 [(0, .ref (o)), (1, .int (g)), (3, .int (nI j)), (2, .int (n))] [] S 0 0 := by
  intro m
  induction m with
  | zero =>
    intro j n hj
    refine x_iload_n 2 dX7_namesIn_4 rfl ?_
    refine x_aload_n 0 dX7_namesIn_5 rfl ?_
    refine gf_X7_133 rfl dX7_namesIn_6 (mhK hM.1) ?_
    rw [show gI (S) 268 (o) = nI P from ((hM.i 12 (by decide)).trans hP)]
    refine x_icmp_ge 45 dX7_namesIn_9 (by decide) (fun c1 => ?_) (fun c1 => ?_)
    · refine x_iload_n 3 dX7_namesIn_45 rfl ?_
      exact x_ireturn dX7_namesIn_46 rfl (Nat.le_of_ble_eq_true rfl) (Nat.le_of_ble_eq_true rfl) ⟨by rw [lp_X7_namesIn], rfl⟩
    · exact absurd (nI_le (by omega) (by omega)) c1
  | succ m ih =>
    intro j n hj
    refine x_iload_n 2 dX7_namesIn_4 rfl ?_
    refine x_aload_n 0 dX7_namesIn_5 rfl ?_
    refine gf_X7_133 rfl dX7_namesIn_6 (mhK hM.1) ?_
    rw [show gI (S) 268 (o) = nI P from ((hM.i 12 (by decide)).trans hP)]
    refine x_icmp_ge 45 dX7_namesIn_9 (by decide) (fun c1 => ?_) (fun c1 => ?_)
    · exact absurd c1 (nI_ge (by omega) (by omega))
    · refine x_iload_n 3 dX7_namesIn_12 rfl ?_
      refine x_aload_n 0 dX7_namesIn_13 rfl ?_
      refine gf_X7_28 rfl dX7_namesIn_14 (mhK hM.1) ?_
      rw [show gP (S) 269 (o) = some (o + 7) from (mhP_isThere hM.1)]
      refine x_iload_n 2 dX7_namesIn_17 rfl ?_
      refine x_baload dX7_namesIn_18 (mhK_isThere hM.1) (by rw [show gL (S) (o + 7) = 60 from (mhL_isThere hM.1)]; exact (vp_in_nI (by omega) (by decide))) ?_
      rw [show gR (S) (o + 7) = σ.2 7 from (hM.r 7 (by decide))]
      refine x_if_eq 36 dX7_namesIn_19 (by decide) (fun c2 => ?_) (fun c2 => ?_)
      · refine x_iconst 0 dX7_namesIn_36 (by decide) ?_
        refine x_iadd dX7_namesIn_37 ?_
        refine x_istore_n [(2, .int ((n + 0))), (0, .ref (o)), (1, .int (g)), (3, .int (nI j))] dX7_namesIn_38 (Nat.le_of_ble_eq_true rfl) rfl ?_
        refine x_iinc 3 (nI j + 1) [(3, .int ((nI j + 1))), (2, .int ((n + 0))), (0, .ref (o)), (1, .int (g))] dX7_namesIn_39 rfl rfl (Nat.le_of_ble_eq_true rfl) rfl ?_
        refine x_goto 4 dX7_namesIn_42 (by decide) ?_
        refine x_lv [(0, .ref (o)), (1, .int (g)), (3, .int (nI (j + 1))), (2, .int ((n + 0)))] [2, 3, 0, 1] (by rw [← nI_1 j]; rfl) ?_
        rw [show lp_X7_namesIn σ g (m + 1) j n = lp_X7_namesIn σ g m (j + 1) ((n + 0)) from by rw [lp_X7_namesIn, if_pos c2]]
        exact ih (j + 1) ((n + 0)) (by omega)
      · refine x_aload_n 0 dX7_namesIn_22 rfl ?_
        refine gf_X7_32 rfl dX7_namesIn_23 (mhK hM.1) ?_
        rw [show gP (S) 270 (o) = some (o + 8) from (mhP_nameGore hM.1)]
        refine x_iload_n 2 dX7_namesIn_26 rfl ?_
        refine x_iaload dX7_namesIn_27 (mhK_nameGore hM.1) (by rw [show gL (S) (o + 8) = 60 from (mhL_nameGore hM.1)]; exact (vp_in_nI (by omega) (by decide))) ?_
        rw [show gR (S) (o + 8) = σ.2 8 from (hM.r 8 (by decide))]
        refine x_iload_n 1 dX7_namesIn_28 rfl ?_
        refine x_icmp_ne 36 dX7_namesIn_29 (by decide) (fun c3 => ?_) (fun c3 => ?_)
        · refine x_iconst 0 dX7_namesIn_36 (by decide) ?_
          refine x_iadd dX7_namesIn_37 ?_
          refine x_istore_n [(2, .int ((n + 0))), (0, .ref (o)), (1, .int (g)), (3, .int (nI j))] dX7_namesIn_38 (Nat.le_of_ble_eq_true rfl) rfl ?_
          refine x_iinc 3 (nI j + 1) [(3, .int ((nI j + 1))), (2, .int ((n + 0))), (0, .ref (o)), (1, .int (g))] dX7_namesIn_39 rfl rfl (Nat.le_of_ble_eq_true rfl) rfl ?_
          refine x_goto 4 dX7_namesIn_42 (by decide) ?_
          refine x_lv [(0, .ref (o)), (1, .int (g)), (3, .int (nI (j + 1))), (2, .int ((n + 0)))] [2, 3, 0, 1] (by rw [← nI_1 j]; rfl) ?_
          rw [show lp_X7_namesIn σ g (m + 1) j n = lp_X7_namesIn σ g m (j + 1) ((n + 0)) from by rw [lp_X7_namesIn, if_neg c2, if_neg c3]]
          exact ih (j + 1) ((n + 0)) (by omega)
        · refine x_iconst 1 dX7_namesIn_32 (by decide) ?_
          refine x_goto 37 dX7_namesIn_33 (by decide) ?_
          refine x_iadd dX7_namesIn_37 ?_
          refine x_istore_n [(2, .int ((n + 1))), (0, .ref (o)), (1, .int (g)), (3, .int (nI j))] dX7_namesIn_38 (Nat.le_of_ble_eq_true rfl) rfl ?_
          refine x_iinc 3 (nI j + 1) [(3, .int ((nI j + 1))), (2, .int ((n + 1))), (0, .ref (o)), (1, .int (g))] dX7_namesIn_39 rfl rfl (Nat.le_of_ble_eq_true rfl) rfl ?_
          refine x_goto 4 dX7_namesIn_42 (by decide) ?_
          refine x_lv [(0, .ref (o)), (1, .int (g)), (3, .int (nI (j + 1))), (2, .int ((n + 1)))] [2, 3, 0, 1] (by rw [← nI_1 j]; rfl) ?_
          rw [show lp_X7_namesIn σ g (m + 1) j n = lp_X7_namesIn σ g m (j + 1) ((n + 1)) from by rw [lp_X7_namesIn, if_neg c2, if_pos c3]]
          exact ih (j + 1) ((n + 1)) (by omega)
def h_X7_namesIn (σ : MS) (g : Int32) : Int32 := lp_X7_namesIn (σ) (g)  ((σ.1 12).toNatClampNeg) 0 (0)
set_option maxRecDepth 100000 in
theorem c_X7_namesIn {k : KT} {S : HS} {o : Nat} (σ : MS) (g : Int32) (hM : MI S o σ) (hO : okS σ) : Ct k (mt_X7_namesIn (rm 1 0 0)) [.ref o, .int (g)] S (Pu (h_X7_namesIn σ g) S) := by
  obtain ⟨P, hP2, hP⟩ := hO.nm
  refine Ct.ofF (by decide +kernel) (Nat.le_of_ble_eq_true rfl) ?_
  refine x_lv [(0, .ref (o)), (1, .int (g))] [0, 1] rfl ?_
  refine x_iconst 0 dX7_namesIn_0 (by decide) ?_
  refine x_istore_n [(2, .int (0)), (0, .ref (o)), (1, .int (g))] dX7_namesIn_1 (Nat.le_of_ble_eq_true rfl) rfl ?_
  refine x_iconst 0 dX7_namesIn_2 (by decide) ?_
  refine x_istore_n [(3, .int (0)), (2, .int (0)), (0, .ref (o)), (1, .int (g))] dX7_namesIn_3 (Nat.le_of_ble_eq_true rfl) rfl ?_
  refine x_lv [(0, .ref (o)), (1, .int (g)), (3, .int (nI 0)), (2, .int (0))] [2, 3, 0, 1] (rfl) ?_
  rw [show h_X7_namesIn σ g = lp_X7_namesIn (σ) (g)  (P) 0 (0) from by rw [h_X7_namesIn, show (σ.1 12).toNatClampNeg = P from by rw [hP]; exact nI_clamp (by omega)]]
  exact l_lp_X7_namesIn (g)  hM hP hP2 (P) 0 (0) (by omega)
def lp1_X7_count (σ : MS) (wh : Int32) : Nat → Nat → Int32 → Int32
  | 0, j, n => n
  | m + 1, j, n => (if ((σ.2 7) (nI j).toNatClampNeg) = 0 then lp1_X7_count σ wh m (j + 1) ((n + 0)) else lp1_X7_count σ wh m (j + 1) ((n + 1)))
set_option maxRecDepth 100000 in
theorem l_lp1_X7_count {k : KT} {S : HS} {o : Nat} {σ : MS} {P : Nat} (wh : Int32) (hM : MI S o σ) (hP : σ.1 12 = nI P) (hP2 : P ≤ 60) : ∀ (m : Nat) (j : Nat) (n : Int32), j + m = P → X k (mt_X7_count (rm 1 0 0)) (Zm k (mt_X7_count (rm 1 0 0)) (Pu (lp1_X7_count σ wh m j n) S)) 57 [(0, .ref (o)), (1, .int (wh)), (3, .int (nI j)), (2, .int (n))] [] S 0 0 := by
  intro m
  induction m with
  | zero =>
    intro j n hj
    refine x_iload_n 2 dX7_count_57 rfl ?_
    refine x_aload_n 0 dX7_count_58 rfl ?_
    refine gf_X7_133 rfl dX7_count_59 (mhK hM.1) ?_
    rw [show gI (S) 268 (o) = nI P from ((hM.i 12 (by decide)).trans hP)]
    refine x_icmp_ge 88 dX7_count_62 (by decide) (fun c1 => ?_) (fun c1 => ?_)
    · refine x_iload_n 3 dX7_count_88 rfl ?_
      exact x_ireturn dX7_count_89 rfl (Nat.le_of_ble_eq_true rfl) (Nat.le_of_ble_eq_true rfl) ⟨by rw [lp1_X7_count], rfl⟩
    · exact absurd (nI_le (by omega) (by omega)) c1
  | succ m ih =>
    intro j n hj
    refine x_iload_n 2 dX7_count_57 rfl ?_
    refine x_aload_n 0 dX7_count_58 rfl ?_
    refine gf_X7_133 rfl dX7_count_59 (mhK hM.1) ?_
    rw [show gI (S) 268 (o) = nI P from ((hM.i 12 (by decide)).trans hP)]
    refine x_icmp_ge 88 dX7_count_62 (by decide) (fun c1 => ?_) (fun c1 => ?_)
    · exact absurd c1 (nI_ge (by omega) (by omega))
    · refine x_iload_n 3 dX7_count_65 rfl ?_
      refine x_aload_n 0 dX7_count_66 rfl ?_
      refine gf_X7_28 rfl dX7_count_67 (mhK hM.1) ?_
      rw [show gP (S) 269 (o) = some (o + 7) from (mhP_isThere hM.1)]
      refine x_iload_n 2 dX7_count_70 rfl ?_
      refine x_baload dX7_count_71 (mhK_isThere hM.1) (by rw [show gL (S) (o + 7) = 60 from (mhL_isThere hM.1)]; exact (vp_in_nI (by omega) (by decide))) ?_
      rw [show gR (S) (o + 7) = σ.2 7 from (hM.r 7 (by decide))]
      refine x_if_eq 79 dX7_count_72 (by decide) (fun c2 => ?_) (fun c2 => ?_)
      · refine x_iconst 0 dX7_count_79 (by decide) ?_
        refine x_iadd dX7_count_80 ?_
        refine x_istore_n [(2, .int ((n + 0))), (0, .ref (o)), (1, .int (wh)), (3, .int (nI j))] dX7_count_81 (Nat.le_of_ble_eq_true rfl) rfl ?_
        refine x_iinc 3 (nI j + 1) [(3, .int ((nI j + 1))), (2, .int ((n + 0))), (0, .ref (o)), (1, .int (wh))] dX7_count_82 rfl rfl (Nat.le_of_ble_eq_true rfl) rfl ?_
        refine x_goto 57 dX7_count_85 (by decide) ?_
        refine x_lv [(0, .ref (o)), (1, .int (wh)), (3, .int (nI (j + 1))), (2, .int ((n + 0)))] [2, 3, 0, 1] (by rw [← nI_1 j]; rfl) ?_
        rw [show lp1_X7_count σ wh (m + 1) j n = lp1_X7_count σ wh m (j + 1) ((n + 0)) from by rw [lp1_X7_count, if_pos c2]]
        exact ih (j + 1) ((n + 0)) (by omega)
      · refine x_iconst 1 dX7_count_75 (by decide) ?_
        refine x_goto 80 dX7_count_76 (by decide) ?_
        refine x_iadd dX7_count_80 ?_
        refine x_istore_n [(2, .int ((n + 1))), (0, .ref (o)), (1, .int (wh)), (3, .int (nI j))] dX7_count_81 (Nat.le_of_ble_eq_true rfl) rfl ?_
        refine x_iinc 3 (nI j + 1) [(3, .int ((nI j + 1))), (2, .int ((n + 1))), (0, .ref (o)), (1, .int (wh))] dX7_count_82 rfl rfl (Nat.le_of_ble_eq_true rfl) rfl ?_
        refine x_goto 57 dX7_count_85 (by decide) ?_
        refine x_lv [(0, .ref (o)), (1, .int (wh)), (3, .int (nI (j + 1))), (2, .int ((n + 1)))] [2, 3, 0, 1] (by rw [← nI_1 j]; rfl) ?_
        rw [show lp1_X7_count σ wh (m + 1) j n = lp1_X7_count σ wh m (j + 1) ((n + 1)) from by rw [lp1_X7_count, if_neg c2]]
        exact ih (j + 1) ((n + 1)) (by omega)
def lp2_X7_count (σ : MS) (wh : Int32) : Nat → Nat → Int32 → Int32
  | 0, j, n => n
  | m + 1, j, n => (if ((σ.2 13) (nI j).toNatClampNeg) = 0 then lp2_X7_count σ wh m (j + 1) ((n + 0)) else lp2_X7_count σ wh m (j + 1) ((n + 1)))
set_option maxRecDepth 100000 in
theorem l_lp2_X7_count {k : KT} {S : HS} {o : Nat} {σ : MS} {P : Nat} (wh : Int32) (hM : MI S o σ) (hP : σ.1 1 = nI P) (hP2 : P ≤ 24) : ∀ (m : Nat) (j : Nat) (n : Int32), j + m = P → X k (mt_X7_count (rm 1 0 0)) (Zm k (mt_X7_count (rm 1 0 0)) (Pu (lp2_X7_count σ wh m j n) S)) 97 [(0, .ref (o)), (1, .int (wh)), (3, .int (nI j)), (2, .int (n))] [] S 0 0 := by
  intro m
  induction m with
  | zero =>
    intro j n hj
    refine x_iload_n 2 dX7_count_97 rfl ?_
    refine x_aload_n 0 dX7_count_98 rfl ?_
    refine gf_X7_62 rfl dX7_count_99 (mhK hM.1) ?_
    rw [show gI (S) 257 (o) = nI P from ((hM.i 1 (by decide)).trans hP)]
    refine x_icmp_ge 128 dX7_count_102 (by decide) (fun c1 => ?_) (fun c1 => ?_)
    · refine x_iload_n 3 dX7_count_128 rfl ?_
      exact x_ireturn dX7_count_129 rfl (Nat.le_of_ble_eq_true rfl) (Nat.le_of_ble_eq_true rfl) ⟨by rw [lp2_X7_count], rfl⟩
    · exact absurd (nI_le (by omega) (by omega)) c1
  | succ m ih =>
    intro j n hj
    refine x_iload_n 2 dX7_count_97 rfl ?_
    refine x_aload_n 0 dX7_count_98 rfl ?_
    refine gf_X7_62 rfl dX7_count_99 (mhK hM.1) ?_
    rw [show gI (S) 257 (o) = nI P from ((hM.i 1 (by decide)).trans hP)]
    refine x_icmp_ge 128 dX7_count_102 (by decide) (fun c1 => ?_) (fun c1 => ?_)
    · exact absurd c1 (nI_ge (by omega) (by omega))
    · refine x_iload_n 3 dX7_count_105 rfl ?_
      refine x_aload_n 0 dX7_count_106 rfl ?_
      refine gf_X7_47 rfl dX7_count_107 (mhK hM.1) ?_
      rw [show gP (S) 275 (o) = some (o + 13) from (mhP_isFresh hM.1)]
      refine x_iload_n 2 dX7_count_110 rfl ?_
      refine x_baload dX7_count_111 (mhK_isFresh hM.1) (by rw [show gL (S) (o + 13) = 24 from (mhL_isFresh hM.1)]; exact (vp_in_nI (by omega) (by decide))) ?_
      rw [show gR (S) (o + 13) = σ.2 13 from (hM.r 13 (by decide))]
      refine x_if_eq 119 dX7_count_112 (by decide) (fun c2 => ?_) (fun c2 => ?_)
      · refine x_iconst 0 dX7_count_119 (by decide) ?_
        refine x_iadd dX7_count_120 ?_
        refine x_istore_n [(2, .int ((n + 0))), (0, .ref (o)), (1, .int (wh)), (3, .int (nI j))] dX7_count_121 (Nat.le_of_ble_eq_true rfl) rfl ?_
        refine x_iinc 3 (nI j + 1) [(3, .int ((nI j + 1))), (2, .int ((n + 0))), (0, .ref (o)), (1, .int (wh))] dX7_count_122 rfl rfl (Nat.le_of_ble_eq_true rfl) rfl ?_
        refine x_goto 97 dX7_count_125 (by decide) ?_
        refine x_lv [(0, .ref (o)), (1, .int (wh)), (3, .int (nI (j + 1))), (2, .int ((n + 0)))] [2, 3, 0, 1] (by rw [← nI_1 j]; rfl) ?_
        rw [show lp2_X7_count σ wh (m + 1) j n = lp2_X7_count σ wh m (j + 1) ((n + 0)) from by rw [lp2_X7_count, if_pos c2]]
        exact ih (j + 1) ((n + 0)) (by omega)
      · refine x_iconst 1 dX7_count_115 (by decide) ?_
        refine x_goto 120 dX7_count_116 (by decide) ?_
        refine x_iadd dX7_count_120 ?_
        refine x_istore_n [(2, .int ((n + 1))), (0, .ref (o)), (1, .int (wh)), (3, .int (nI j))] dX7_count_121 (Nat.le_of_ble_eq_true rfl) rfl ?_
        refine x_iinc 3 (nI j + 1) [(3, .int ((nI j + 1))), (2, .int ((n + 1))), (0, .ref (o)), (1, .int (wh))] dX7_count_122 rfl rfl (Nat.le_of_ble_eq_true rfl) rfl ?_
        refine x_goto 97 dX7_count_125 (by decide) ?_
        refine x_lv [(0, .ref (o)), (1, .int (wh)), (3, .int (nI (j + 1))), (2, .int ((n + 1)))] [2, 3, 0, 1] (by rw [← nI_1 j]; rfl) ?_
        rw [show lp2_X7_count σ wh (m + 1) j n = lp2_X7_count σ wh m (j + 1) ((n + 1)) from by rw [lp2_X7_count, if_neg c2]]
        exact ih (j + 1) ((n + 1)) (by omega)
theorem okS.gP {σ : MS} (h : okS σ) : ∃ P : Nat, (P ≤ 24 ∧ 6 ≤ P) ∧ σ.1 1 = nI P := by
  obtain ⟨n, h1, h2, -⟩ := h.gn
  refine ⟨n, ?_, h2⟩
  simp only [List.mem_cons, List.not_mem_nil, or_false] at h1
  omega
def h_X7_count (σ : MS) (wh : Int32) : Int32 := (if wh = 0 then σ.1 1 else (if wh = 1 then σ.1 3 else (if wh = 2 then σ.1 6 else (if wh = 3 then lp1_X7_count (σ) (wh)  ((σ.1 12).toNatClampNeg) 0 (0) else (if wh = 4 then σ.1 21 else (if wh = 5 then lp2_X7_count (σ) (wh)  ((σ.1 1).toNatClampNeg) 0 (0) else (-1)))))))
set_option maxRecDepth 100000 in
theorem c_X7_count {k : KT} {S : HS} {o : Nat} (σ : MS) (wh : Int32) (hM : MI S o σ) (hO : okS σ) : Ct k (mt_X7_count (rm 1 0 0)) [.ref o, .int (wh)] S (Pu (h_X7_count σ wh) S) := by
  obtain ⟨P, hP2, hP⟩ := hO.nm
  obtain ⟨P2, hQ2, hQ⟩ := hO.gP
  refine Ct.ofF (by decide +kernel) (Nat.le_of_ble_eq_true rfl) ?_
  refine x_lv [(0, .ref (o)), (1, .int (wh))] [0, 1] rfl ?_
  refine x_iconst 0 dX7_count_0 (by decide) ?_
  refine x_istore_n [(2, .int (0)), (0, .ref (o)), (1, .int (wh))] dX7_count_1 (Nat.le_of_ble_eq_true rfl) rfl ?_
  refine x_iload_n 2 dX7_count_2 rfl ?_
  by_cases c1 : wh = 0
  · refine x_tableIn 37 40 dX7_count_3 (by rw [c1]; decide) (by rw [c1]; decide) (by rw [c1]; rfl) (by decide) ?_
    refine x_aload_n 1 dX7_count_40 rfl ?_
    refine gf_X7_62 rfl dX7_count_41 (mhK hM.1) ?_
    rw [show gI (S) 257 (o) = σ.1 1 from (hM.i 1 (by decide))]
    exact x_ireturn dX7_count_44 rfl (Nat.le_of_ble_eq_true rfl) (Nat.le_of_ble_eq_true rfl) ⟨by rw [h_X7_count, if_pos c1], rfl⟩
  by_cases c2 : wh = 1
  · refine x_tableIn 42 45 dX7_count_3 (by rw [c2]; decide) (by rw [c2]; decide) (by rw [c2]; rfl) (by decide) ?_
    refine x_aload_n 1 dX7_count_45 rfl ?_
    refine gf_X7_86 rfl dX7_count_46 (mhK hM.1) ?_
    rw [show gI (S) 259 (o) = σ.1 3 from (hM.i 3 (by decide))]
    exact x_ireturn dX7_count_49 rfl (Nat.le_of_ble_eq_true rfl) (Nat.le_of_ble_eq_true rfl) ⟨by rw [h_X7_count, if_neg c1, if_pos c2], rfl⟩
  by_cases c3 : wh = 2
  · refine x_tableIn 47 50 dX7_count_3 (by rw [c3]; decide) (by rw [c3]; decide) (by rw [c3]; rfl) (by decide) ?_
    refine x_aload_n 1 dX7_count_50 rfl ?_
    refine gf_X7_92 rfl dX7_count_51 (mhK hM.1) ?_
    rw [show gI (S) 262 (o) = σ.1 6 from (hM.i 6 (by decide))]
    exact x_ireturn dX7_count_54 rfl (Nat.le_of_ble_eq_true rfl) (Nat.le_of_ble_eq_true rfl) ⟨by rw [h_X7_count, if_neg c1, if_neg c2, if_pos c3], rfl⟩
  by_cases c4 : wh = 3
  · refine x_tableIn 52 55 dX7_count_3 (by rw [c4]; decide) (by rw [c4]; decide) (by rw [c4]; rfl) (by decide) ?_
    refine x_iconst 0 dX7_count_55 (by decide) ?_
    refine x_istore_n [(3, .int (0)), (2, .int (0)), (0, .ref (o)), (1, .int (wh))] dX7_count_56 (Nat.le_of_ble_eq_true rfl) rfl ?_
    refine x_lv [(0, .ref (o)), (1, .int (wh)), (3, .int (nI 0)), (2, .int (0))] [2, 3, 0, 1] (rfl) ?_
    rw [show h_X7_count σ wh = lp1_X7_count (σ) (wh)  (P) 0 (0) from by rw [h_X7_count, if_neg c1, if_neg c2, if_neg c3, if_pos c4, show (σ.1 12).toNatClampNeg = P from by rw [hP]; exact nI_clamp (by omega)]]
    exact l_lp1_X7_count (wh)  hM hP hP2 (P) 0 (0) (by omega)
  by_cases c5 : wh = 4
  · refine x_tableIn 87 90 dX7_count_3 (by rw [c5]; decide) (by rw [c5]; decide) (by rw [c5]; rfl) (by decide) ?_
    refine x_aload_n 1 dX7_count_90 rfl ?_
    refine gf_X7_167 rfl dX7_count_91 (mhK hM.1) ?_
    rw [show gI (S) 277 (o) = σ.1 21 from (hM.i 21 (by decide))]
    exact x_ireturn dX7_count_94 rfl (Nat.le_of_ble_eq_true rfl) (Nat.le_of_ble_eq_true rfl) ⟨by rw [h_X7_count, if_neg c1, if_neg c2, if_neg c3, if_neg c4, if_pos c5], rfl⟩
  by_cases c6 : wh = 5
  · refine x_tableIn 92 95 dX7_count_3 (by rw [c6]; decide) (by rw [c6]; decide) (by rw [c6]; rfl) (by decide) ?_
    refine x_iconst 0 dX7_count_95 (by decide) ?_
    refine x_istore_n [(3, .int (0)), (2, .int (0)), (0, .ref (o)), (1, .int (wh))] dX7_count_96 (Nat.le_of_ble_eq_true rfl) rfl ?_
    refine x_lv [(0, .ref (o)), (1, .int (wh)), (3, .int (nI 0)), (2, .int (0))] [2, 3, 0, 1] (rfl) ?_
    rw [show h_X7_count σ wh = lp2_X7_count (σ) (wh)  (P2) 0 (0) from by rw [h_X7_count, if_neg c1, if_neg c2, if_neg c3, if_neg c4, if_neg c5, if_pos c6, show (σ.1 1).toNatClampNeg = P2 from by rw [hQ]; exact nI_clamp (by omega)]]
    exact l_lp2_X7_count (wh)  hM hQ hQ2.1 (P2) 0 (0) (by omega)
  refine x_tableOut 130 dX7_count_3 (tb_out5 c1 c2 c3 c4 c5 c6) (by decide) ?_
  refine x_iconst (-1) dX7_count_130 (by decide) ?_
  exact x_ireturn dX7_count_131 rfl (Nat.le_of_ble_eq_true rfl) (Nat.le_of_ble_eq_true rfl) ⟨by rw [h_X7_count, if_neg c1, if_neg c2, if_neg c3, if_neg c4, if_neg c5, if_neg c6], rfl⟩
def lp_X7_paper  (ac : Int32) (al : Int32) : Nat → Nat → MS → Int32 × MS
  | 0, j, σ => (1, σ)
  | m + 1, j, σ => lp_X7_paper  ac al m (j + 1) (fR (σ) 13 (upd (σ.2 13) (nI j).toNatClampNeg (1)))
set_option maxRecDepth 100000 in
theorem l_lp_X7_paper {k : KT} {S0 : HS} {o : Nat} {P : Nat} (ac : Int32) (al : Int32)  : ∀ (m : Nat) (j : Nat) , j + m = P → ∀ (S : HS) (σ : MS) (hM : MI S o σ) (hF : FM o S0 S) (hP : σ.1 1 = nI P) (hP2 : P ≤ 24), X k (mt_X7_paper (rm 2 0 0)) (Zm k (mt_X7_paper (rm 2 0 0)) (Pm o S0 (lp_X7_paper  ac al m j σ))) 50 [(0, .ref (o)), (1, .int (ac)), (2, .int (al)), (3, .int (nI j))] [] S 0 0 := by
  intro m
  induction m with
  | zero =>
    intro j  hj S σ hM hF hP hP2
    refine x_iload_n 3 dX7_paper_50 rfl ?_
    refine x_aload_n 0 dX7_paper_51 rfl ?_
    refine gf_X7_62 rfl dX7_paper_52 (mhK hM.1) ?_
    rw [show gI (S) 257 (o) = nI P from ((hM.i 1 (by decide)).trans hP)]
    refine x_icmp_ge 71 dX7_paper_55 (by decide) (fun c1 => ?_) (fun c1 => ?_)
    · refine x_iconst 1 dX7_paper_71 (by decide) ?_
      exact x_zreturn dX7_paper_72 rfl (by decide) (Nat.le_of_ble_eq_true rfl) (Nat.le_of_ble_eq_true rfl) ⟨by rw [lp_X7_paper], by rw [lp_X7_paper]; exact hM, hF⟩
    · exact absurd (nI_le (by omega) (by omega)) c1
  | succ m ih =>
    intro j  hj S σ hM hF hP hP2
    refine x_iload_n 3 dX7_paper_50 rfl ?_
    refine x_aload_n 0 dX7_paper_51 rfl ?_
    refine gf_X7_62 rfl dX7_paper_52 (mhK hM.1) ?_
    rw [show gI (S) 257 (o) = nI P from ((hM.i 1 (by decide)).trans hP)]
    refine x_icmp_ge 71 dX7_paper_55 (by decide) (fun c1 => ?_) (fun c1 => ?_)
    · exact absurd c1 (nI_ge (by omega) (by omega))
    · refine x_aload_n 0 dX7_paper_58 rfl ?_
      refine gf_X7_47 rfl dX7_paper_59 (mhK hM.1) ?_
      rw [show gP (S) 275 (o) = some (o + 13) from (mhP_isFresh hM.1)]
      refine x_iload_n 3 dX7_paper_62 rfl ?_
      refine x_iconst 1 dX7_paper_63 (by decide) ?_
      refine x_bastore dX7_paper_64 (mhK_isFresh hM.1) (by rw [show gL (S) (o + 13) = 24 from (mhL_isFresh hM.1)]; exact (vp_in_nI (by omega) (by decide))) (by decide) ?_
      rw [show gR (S) (o + 13) = σ.2 13 from (hM.r 13 (by decide))]
      obtain ⟨S2, eS2⟩ : ∃ s9 : HS, s9 = uR (S) (o + 13) (upd (σ.2 13) (nI j).toNatClampNeg (1)) := ⟨_, rfl⟩
      rw [← eS2]
      have hM2 : MI S2 o (fR (σ) 13 (upd (σ.2 13) (nI j).toNatClampNeg (1))) := by rw [eS2]; exact hM.pR 13 _
      have hF2 : FM o S0 S2 := by rw [eS2]; exact hF.pR _ (by omega) (by omega)
      clear eS2
      refine x_iinc 3 (nI j + 1) [(3, .int ((nI j + 1))), (0, .ref (o)), (1, .int (ac)), (2, .int (al))] dX7_paper_65 rfl rfl (Nat.le_of_ble_eq_true rfl) rfl ?_
      refine x_goto 50 dX7_paper_68 (by decide) ?_
      refine x_lv [(0, .ref (o)), (1, .int (ac)), (2, .int (al)), (3, .int (nI (j + 1)))] [1, 2, 3, 0] (by rw [← nI_1 j]; rfl) ?_
      rw [show lp_X7_paper  ac al (m + 1) j σ = lp_X7_paper  ac al m (j + 1) (fR (σ) 13 (upd (σ.2 13) (nI j).toNatClampNeg (1))) from by rw [lp_X7_paper]]
      exact ih (j + 1)  (by omega) S2 (fR (σ) 13 (upd (σ.2 13) (nI j).toNatClampNeg (1))) hM2 hF2 hP hP2
def h_X7_paper (σ : MS) (ac : Int32) (al : Int32) : Int32 × MS := (if (f_X7_in ac 0 50) = 0 then (0, σ) else (if (f_X7_in al 0 50) = 0 then (0, σ) else (if ac = σ.1 10 then (if al = σ.1 11 then (0, σ) else lp_X7_paper  (ac) (al)  ((σ.1 1).toNatClampNeg) 0 (fI (fI (σ) 10 (ac)) 11 (al)) ) else lp_X7_paper  (ac) (al)  ((σ.1 1).toNatClampNeg) 0 (fI (fI (σ) 10 (ac)) 11 (al)) )))
set_option maxRecDepth 100000 in
theorem c_X7_paper {k : KT} {S : HS} {o : Nat} (σ : MS) (ac : Int32) (al : Int32) (hM : MI S o σ) (hO : okS σ) : Ct k (mt_X7_paper (rm 2 0 0)) [.ref o, .int (ac), .int (al)] S (Pm o S (h_X7_paper σ ac al)) := by
  obtain ⟨P, hP2, hP⟩ := hO.gP
  refine Ct.ofF (by decide +kernel) (Nat.le_of_ble_eq_true rfl) ?_
  refine x_lv [(0, .ref (o)), (1, .int (ac)), (2, .int (al))] [0, 1, 2] rfl ?_
  refine x_iload_n 1 dX7_paper_0 rfl ?_
  refine x_iconst 0 dX7_paper_1 (by decide) ?_
  refine x_bipush 50 dX7_paper_2 (by decide) ?_
  refine ca_X7_69 [.int (ac), .int (0), .int (50)] [] (c_X7_in (ac) (0) (50)) rfl dX7_paper_4 rfl rfl ⟨(Nat.le_of_ble_eq_true rfl), (Nat.le_of_ble_eq_true rfl), (Nat.le_of_ble_eq_true rfl), (Nat.le_of_ble_eq_true rfl), (Nat.le_of_ble_eq_true rfl)⟩ (fun v T hq => ?_)
  obtain ⟨rfl, rfl⟩ := hq
  refine x_if_eq 36 dX7_paper_7 (by decide) (fun c1 => ?_) (fun c1 => ?_)
  · refine x_iconst 0 dX7_paper_36 (by decide) ?_
    exact x_zreturn dX7_paper_37 rfl (by decide) (Nat.le_of_ble_eq_true rfl) (Nat.le_of_ble_eq_true rfl) ⟨by rw [h_X7_paper, if_pos c1], by rw [h_X7_paper, if_pos c1]; exact hM, FM.rf⟩
  · refine x_iload_n 2 dX7_paper_10 rfl ?_
    refine x_iconst 0 dX7_paper_11 (by decide) ?_
    refine x_bipush 50 dX7_paper_12 (by decide) ?_
    refine ca_X7_69 [.int (al), .int (0), .int (50)] [] (c_X7_in (al) (0) (50)) rfl dX7_paper_14 rfl rfl ⟨(Nat.le_of_ble_eq_true rfl), (Nat.le_of_ble_eq_true rfl), (Nat.le_of_ble_eq_true rfl), (Nat.le_of_ble_eq_true rfl), (Nat.le_of_ble_eq_true rfl)⟩ (fun v T hq => ?_)
    obtain ⟨rfl, rfl⟩ := hq
    refine x_if_eq 36 dX7_paper_17 (by decide) (fun c2 => ?_) (fun c2 => ?_)
    · refine x_iconst 0 dX7_paper_36 (by decide) ?_
      exact x_zreturn dX7_paper_37 rfl (by decide) (Nat.le_of_ble_eq_true rfl) (Nat.le_of_ble_eq_true rfl) ⟨by rw [h_X7_paper, if_neg c1, if_pos c2], by rw [h_X7_paper, if_neg c1, if_pos c2]; exact hM, FM.rf⟩
    · refine x_iload_n 1 dX7_paper_20 rfl ?_
      refine x_aload_n 0 dX7_paper_21 rfl ?_
      refine gf_X7_124 rfl dX7_paper_22 (mhK hM.1) ?_
      rw [show gI (S) 266 (o) = σ.1 10 from (hM.i 10 (by decide))]
      refine x_icmp_ne 38 dX7_paper_25 (by decide) (fun c3 => ?_) (fun c3 => ?_)
      · refine x_aload_n 0 dX7_paper_38 rfl ?_
        refine x_iload_n 1 dX7_paper_39 rfl ?_
        refine pf_X7_124 rfl dX7_paper_40 (mhK hM.1) ?_
        obtain ⟨S4, eS4⟩ : ∃ s9 : HS, s9 = uI (S) 266 (o) (ac) := ⟨_, rfl⟩
        rw [← eS4]
        have hM4 : MI S4 o (fI (σ) 10 (ac)) := by rw [eS4]; exact hM.pI 10 _
        have hF4 : FM o S S4 := by rw [eS4]; exact FM.rf.pI _ (by decide)
        clear eS4
        refine x_aload_n 0 dX7_paper_43 rfl ?_
        refine x_iload_n 2 dX7_paper_44 rfl ?_
        refine pf_X7_127 rfl dX7_paper_45 (mhK hM4.1) ?_
        obtain ⟨S5, eS5⟩ : ∃ s9 : HS, s9 = uI (S4) 267 (o) (al) := ⟨_, rfl⟩
        rw [← eS5]
        have hM5 : MI S5 o (fI (fI (σ) 10 (ac)) 11 (al)) := by rw [eS5]; exact hM4.pI 11 _
        have hF5 : FM o S S5 := by rw [eS5]; exact hF4.pI _ (by decide)
        clear eS5
        refine x_iconst 0 dX7_paper_48 (by decide) ?_
        refine x_istore_n [(3, .int (0)), (0, .ref (o)), (1, .int (ac)), (2, .int (al))] dX7_paper_49 (Nat.le_of_ble_eq_true rfl) rfl ?_
        refine x_lv [(0, .ref (o)), (1, .int (ac)), (2, .int (al)), (3, .int (nI 0))] [1, 2, 3, 0] (rfl) ?_
        rw [show h_X7_paper σ ac al = lp_X7_paper  (ac) (al)  (P) 0 (fI (fI (σ) 10 (ac)) 11 (al))  from by rw [h_X7_paper, if_neg c1, if_neg c2, if_neg c3, show (σ.1 1).toNatClampNeg = P from by rw [hP]; exact nI_clamp (by omega)]]
        exact l_lp_X7_paper (ac) (al)   (P) 0  (by omega) S5 (fI (fI (σ) 10 (ac)) 11 (al)) hM5 hF5 hP hP2.1
      · refine x_iload_n 2 dX7_paper_28 rfl ?_
        refine x_aload_n 0 dX7_paper_29 rfl ?_
        refine gf_X7_127 rfl dX7_paper_30 (mhK hM.1) ?_
        rw [show gI (S) 267 (o) = σ.1 11 from (hM.i 11 (by decide))]
        refine x_at 33 rfl ?_
        refine x_icmp_ne 38 dX7_paper_33 (by decide) (fun c6 => ?_) (fun c6 => ?_)
        · refine x_aload_n 0 dX7_paper_38 rfl ?_
          refine x_iload_n 1 dX7_paper_39 rfl ?_
          refine pf_X7_124 rfl dX7_paper_40 (mhK hM.1) ?_
          obtain ⟨S7, eS7⟩ : ∃ s9 : HS, s9 = uI (S) 266 (o) (ac) := ⟨_, rfl⟩
          rw [← eS7]
          have hM7 : MI S7 o (fI (σ) 10 (ac)) := by rw [eS7]; exact hM.pI 10 _
          have hF7 : FM o S S7 := by rw [eS7]; exact FM.rf.pI _ (by decide)
          clear eS7
          refine x_aload_n 0 dX7_paper_43 rfl ?_
          refine x_iload_n 2 dX7_paper_44 rfl ?_
          refine pf_X7_127 rfl dX7_paper_45 (mhK hM7.1) ?_
          obtain ⟨S8, eS8⟩ : ∃ s9 : HS, s9 = uI (S7) 267 (o) (al) := ⟨_, rfl⟩
          rw [← eS8]
          have hM8 : MI S8 o (fI (fI (σ) 10 (ac)) 11 (al)) := by rw [eS8]; exact hM7.pI 11 _
          have hF8 : FM o S S8 := by rw [eS8]; exact hF7.pI _ (by decide)
          clear eS8
          refine x_iconst 0 dX7_paper_48 (by decide) ?_
          refine x_istore_n [(3, .int (0)), (0, .ref (o)), (1, .int (ac)), (2, .int (al))] dX7_paper_49 (Nat.le_of_ble_eq_true rfl) rfl ?_
          refine x_lv [(0, .ref (o)), (1, .int (ac)), (2, .int (al)), (3, .int (nI 0))] [1, 2, 3, 0] (rfl) ?_
          rw [show h_X7_paper σ ac al = lp_X7_paper  (ac) (al)  (P) 0 (fI (fI (σ) 10 (ac)) 11 (al))  from by rw [h_X7_paper, if_neg c1, if_neg c2, if_pos c3, if_neg c6, show (σ.1 1).toNatClampNeg = P from by rw [hP]; exact nI_clamp (by omega)]]
          exact l_lp_X7_paper (ac) (al)   (P) 0  (by omega) S8 (fI (fI (σ) 10 (ac)) 11 (al)) hM8 hF8 hP hP2.1
        · refine x_iconst 0 dX7_paper_36 (by decide) ?_
          exact x_zreturn dX7_paper_37 rfl (by decide) (Nat.le_of_ble_eq_true rfl) (Nat.le_of_ble_eq_true rfl) ⟨by rw [h_X7_paper, if_neg c1, if_neg c2, if_pos c3, if_pos c6], by rw [h_X7_paper, if_neg c1, if_neg c2, if_pos c3, if_pos c6]; exact hM, FM.rf⟩
def lp_X7_edition   : Nat → Nat → MS → Int32 → Int32 × MS
  | 0, j, σ, n => (n, σ)
  | m + 1, j, σ, n => (if ((σ.2 13) (nI j).toNatClampNeg) = 0 then lp_X7_edition   m (j + 1) (σ) (n) else lp_X7_edition   m (j + 1) (fR (fR (σ) 13 (upd (σ.2 13) (nI j).toNatClampNeg (0))) 14 (upd (σ.2 14) (nI j).toNatClampNeg (σ.1 21))) ((n + 1)))
set_option maxRecDepth 100000 in
theorem l_lp_X7_edition {k : KT} {S0 : HS} {o : Nat} {P : Nat}   : ∀ (m : Nat) (j : Nat) (n : Int32), j + m = P → ∀ (S : HS) (σ : MS) (hM : MI S o σ) (hF : FM o S0 S) (hP : σ.1 1 = nI P) (hP2 : P ≤ 24), X k (mt_X7_edition (rm 1 0 0)) (Zm k (mt_X7_edition (rm 1 0 0)) (Pm o S0 (lp_X7_edition   m j σ n))) 14 [(0, .ref (o)), (2, .int (nI j)), (1, .int (n))] [] S 0 0 := by
  intro m
  induction m with
  | zero =>
    intro j n hj S σ hM hF hP hP2
    refine x_iload_n 1 dX7_edition_14 rfl ?_
    refine x_aload_n 0 dX7_edition_15 rfl ?_
    refine gf_X7_62 rfl dX7_edition_16 (mhK hM.1) ?_
    rw [show gI (S) 257 (o) = nI P from ((hM.i 1 (by decide)).trans hP)]
    refine x_icmp_ge 60 dX7_edition_19 (by decide) (fun c1 => ?_) (fun c1 => ?_)
    · refine x_iload_n 2 dX7_edition_60 rfl ?_
      exact x_ireturn dX7_edition_61 rfl (Nat.le_of_ble_eq_true rfl) (Nat.le_of_ble_eq_true rfl) ⟨by rw [lp_X7_edition], by rw [lp_X7_edition]; exact hM, hF⟩
    · exact absurd (nI_le (by omega) (by omega)) c1
  | succ m ih =>
    intro j n hj S σ hM hF hP hP2
    refine x_iload_n 1 dX7_edition_14 rfl ?_
    refine x_aload_n 0 dX7_edition_15 rfl ?_
    refine gf_X7_62 rfl dX7_edition_16 (mhK hM.1) ?_
    rw [show gI (S) 257 (o) = nI P from ((hM.i 1 (by decide)).trans hP)]
    refine x_icmp_ge 60 dX7_edition_19 (by decide) (fun c1 => ?_) (fun c1 => ?_)
    · exact absurd c1 (nI_ge (by omega) (by omega))
    · refine x_aload_n 0 dX7_edition_22 rfl ?_
      refine gf_X7_47 rfl dX7_edition_23 (mhK hM.1) ?_
      rw [show gP (S) 275 (o) = some (o + 13) from (mhP_isFresh hM.1)]
      refine x_iload_n 1 dX7_edition_26 rfl ?_
      refine x_baload dX7_edition_27 (mhK_isFresh hM.1) (by rw [show gL (S) (o + 13) = 24 from (mhL_isFresh hM.1)]; exact (vp_in_nI (by omega) (by decide))) ?_
      rw [show gR (S) (o + 13) = σ.2 13 from (hM.r 13 (by decide))]
      refine x_if_ne 34 dX7_edition_28 (by decide) (fun c2 => ?_) (fun c2 => ?_)
      · refine x_aload_n 0 dX7_edition_34 rfl ?_
        refine gf_X7_47 rfl dX7_edition_35 (mhK hM.1) ?_
        rw [show gP (S) 275 (o) = some (o + 13) from (mhP_isFresh hM.1)]
        refine x_iload_n 1 dX7_edition_38 rfl ?_
        refine x_iconst 0 dX7_edition_39 (by decide) ?_
        refine x_bastore dX7_edition_40 (mhK_isFresh hM.1) (by rw [show gL (S) (o + 13) = 24 from (mhL_isFresh hM.1)]; exact (vp_in_nI (by omega) (by decide))) (by decide) ?_
        rw [show gR (S) (o + 13) = σ.2 13 from (hM.r 13 (by decide))]
        obtain ⟨S3, eS3⟩ : ∃ s9 : HS, s9 = uR (S) (o + 13) (upd (σ.2 13) (nI j).toNatClampNeg (0)) := ⟨_, rfl⟩
        rw [← eS3]
        have hM3 : MI S3 o (fR (σ) 13 (upd (σ.2 13) (nI j).toNatClampNeg (0))) := by rw [eS3]; exact hM.pR 13 _
        have hF3 : FM o S0 S3 := by rw [eS3]; exact hF.pR _ (by omega) (by omega)
        clear eS3
        refine x_aload_n 0 dX7_edition_41 rfl ?_
        refine gf_X7_50 rfl dX7_edition_42 (mhK hM3.1) ?_
        rw [show gP (S3) 276 (o) = some (o + 14) from (mhP_printedIn hM3.1)]
        refine x_iload_n 1 dX7_edition_45 rfl ?_
        refine x_aload_n 0 dX7_edition_46 rfl ?_
        refine gf_X7_167 rfl dX7_edition_47 (mhK hM3.1) ?_
        rw [show gI (S3) 277 (o) = σ.1 21 from (hM3.i 21 (by decide))]
        refine x_iastore dX7_edition_50 (mhK_printedIn hM3.1) (by rw [show gL (S3) (o + 14) = 24 from (mhL_printedIn hM3.1)]; exact (vp_in_nI (by omega) (by decide))) ?_
        rw [show gR (S3) (o + 14) = σ.2 14 from (hM3.r 14 (by decide))]
        obtain ⟨S4, eS4⟩ : ∃ s9 : HS, s9 = uR (S3) (o + 14) (upd (σ.2 14) (nI j).toNatClampNeg (σ.1 21)) := ⟨_, rfl⟩
        rw [← eS4]
        have hM4 : MI S4 o (fR (fR (σ) 13 (upd (σ.2 13) (nI j).toNatClampNeg (0))) 14 (upd (σ.2 14) (nI j).toNatClampNeg (σ.1 21))) := by rw [eS4]; exact hM3.pR 14 _
        have hF4 : FM o S0 S4 := by rw [eS4]; exact hF3.pR _ (by omega) (by omega)
        clear eS4
        refine x_at 51 rfl ?_
        refine x_iinc 2 (n + 1) [(1, .int ((n + 1))), (0, .ref (o)), (2, .int (nI j))] dX7_edition_51 rfl rfl (Nat.le_of_ble_eq_true rfl) rfl ?_
        refine x_iinc 2 (nI j + 1) [(2, .int ((nI j + 1))), (1, .int ((n + 1))), (0, .ref (o))] dX7_edition_54 rfl rfl (Nat.le_of_ble_eq_true rfl) rfl ?_
        refine x_goto 14 dX7_edition_57 (by decide) ?_
        refine x_lv [(0, .ref (o)), (2, .int (nI (j + 1))), (1, .int ((n + 1)))] [2, 0, 1] (by rw [← nI_1 j]; rfl) ?_
        rw [show lp_X7_edition   (m + 1) j σ n = lp_X7_edition   m (j + 1) (fR (fR (σ) 13 (upd (σ.2 13) (nI j).toNatClampNeg (0))) 14 (upd (σ.2 14) (nI j).toNatClampNeg (σ.1 21))) ((n + 1)) from by rw [lp_X7_edition, if_neg c2]]
        exact ih (j + 1) ((n + 1)) (by omega) S4 (fR (fR (σ) 13 (upd (σ.2 13) (nI j).toNatClampNeg (0))) 14 (upd (σ.2 14) (nI j).toNatClampNeg (σ.1 21))) hM4 hF4 hP hP2
      · refine x_goto 54 dX7_edition_31 (by decide) ?_
        refine x_iinc 1 (nI j + 1) [(2, .int ((nI j + 1))), (0, .ref (o)), (1, .int (n))] dX7_edition_54 rfl rfl (Nat.le_of_ble_eq_true rfl) rfl ?_
        refine x_goto 14 dX7_edition_57 (by decide) ?_
        refine x_lv [(0, .ref (o)), (2, .int (nI (j + 1))), (1, .int (n))] [1, 0, 2] (by rw [← nI_1 j]; rfl) ?_
        rw [show lp_X7_edition   (m + 1) j σ n = lp_X7_edition   m (j + 1) (σ) (n) from by rw [lp_X7_edition, if_pos c2]]
        exact ih (j + 1) (n) (by omega) S (σ) hM hF hP hP2
def h_X7_edition (σ : MS)  : Int32 × MS := lp_X7_edition    ((σ.1 1).toNatClampNeg) 0 (fI (σ) 21 ((σ.1 21 + 1))) (0)
set_option maxRecDepth 100000 in
theorem c_X7_edition {k : KT} {S : HS} {o : Nat} (σ : MS)  (hM : MI S o σ) (hO : okS σ) : Ct k (mt_X7_edition (rm 1 0 0)) [.ref o] S (Pm o S (h_X7_edition σ )) := by
  obtain ⟨P, hP2, hP⟩ := hO.gP
  refine Ct.ofF (by decide +kernel) (Nat.le_of_ble_eq_true rfl) ?_
  refine x_lv [(0, .ref (o))] [0] rfl ?_
  refine x_aload_n 0 dX7_edition_0 rfl ?_
  refine x_dup dX7_edition_1 rfl ?_
  refine gf_X7_167 rfl dX7_edition_2 (mhK hM.1) ?_
  rw [show gI (S) 277 (o) = σ.1 21 from (hM.i 21 (by decide))]
  refine x_iconst 1 dX7_edition_5 (by decide) ?_
  refine x_iadd dX7_edition_6 ?_
  refine pf_X7_167 rfl dX7_edition_7 (mhK hM.1) ?_
  obtain ⟨S1, eS1⟩ : ∃ s9 : HS, s9 = uI (S) 277 (o) ((σ.1 21 + 1)) := ⟨_, rfl⟩
  rw [← eS1]
  have hM1 : MI S1 o (fI (σ) 21 ((σ.1 21 + 1))) := by rw [eS1]; exact hM.pI 21 _
  have hF1 : FM o S S1 := by rw [eS1]; exact FM.rf.pI _ (by decide)
  clear eS1
  refine x_iconst 0 dX7_edition_10 (by decide) ?_
  refine x_istore_n [(1, .int (0)), (0, .ref (o))] dX7_edition_11 (Nat.le_of_ble_eq_true rfl) rfl ?_
  refine x_iconst 0 dX7_edition_12 (by decide) ?_
  refine x_istore_n [(2, .int (0)), (1, .int (0)), (0, .ref (o))] dX7_edition_13 (Nat.le_of_ble_eq_true rfl) rfl ?_
  refine x_lv [(0, .ref (o)), (2, .int (nI 0)), (1, .int (0))] [2, 0, 1] (rfl) ?_
  rw [show h_X7_edition σ  = lp_X7_edition    (P) 0 (fI (σ) 21 ((σ.1 21 + 1))) (0) from by rw [h_X7_edition, show (σ.1 1).toNatClampNeg = P from by rw [hP]; exact nI_clamp (by omega)]]
  exact l_lp_X7_edition    (P) 0 (0) (by omega) S1 (fI (σ) 21 ((σ.1 21 + 1))) hM1 hF1 hP hP2.1
def h_X7_strike (σ : MS) (n : Int32) : Int32 × MS := (if (f_X7_isName (σ.1 12) (σ.2 7) n) = 0 then (0, σ) else (1, fR (fR (σ) 7 (upd (σ.2 7) (n).toNatClampNeg (0))) 13 (upd (σ.2 13) (((σ.2 8) (n).toNatClampNeg)).toNatClampNeg (1))))
set_option maxRecDepth 100000 in
theorem c_X7_strike {k : KT} {S : HS} {o : Nat} (σ : MS) (n : Int32) (hM : MI S o σ) (hO : okS σ) : Ct k (mt_X7_strike (rm 3 0 0)) [.ref o, .int (n)] S (Pm o S (h_X7_strike σ n)) := by
  refine Ct.ofF (by decide +kernel) (Nat.le_of_ble_eq_true rfl) ?_
  refine x_lv [(0, .ref (o)), (1, .int (n))] [0, 1] rfl ?_
  refine x_aload_n 0 dX7_strike_0 rfl ?_
  refine x_iload_n 1 dX7_strike_1 rfl ?_
  refine ca_X7_139 [.int (n)] [] (c_X7_isName (σ.1 12) (σ.2 7) (n) hM.1 (hM.i 12 (by decide)) (hM.r 7 (by decide)) hO.nm2.1 hO.nm2.2) (mhK hM.1) rfl dX7_strike_2 rfl rfl ⟨(Nat.le_of_ble_eq_true rfl), (Nat.le_of_ble_eq_true rfl), (Nat.le_of_ble_eq_true rfl), (Nat.le_of_ble_eq_true rfl), (Nat.le_of_ble_eq_true rfl)⟩ (fun v T hq => ?_)
  obtain ⟨rfl, rfl⟩ := hq
  refine x_if_ne 10 dX7_strike_5 (by decide) (fun c1 => ?_) (fun c1 => ?_)
  · refine x_aload_n 0 dX7_strike_10 rfl ?_
    refine gf_X7_28 rfl dX7_strike_11 (mhK hM.1) ?_
    rw [show gP (S) 269 (o) = some (o + 7) from (mhP_isThere hM.1)]
    refine x_iload_n 1 dX7_strike_14 rfl ?_
    refine x_iconst 0 dX7_strike_15 (by decide) ?_
    refine x_bastore dX7_strike_16 (mhK_isThere hM.1) (by rw [show gL (S) (o + 7) = 60 from (mhL_isThere hM.1)]; exact ((isName_in hO.nm2.1 hO.nm2.2 c1))) (by decide) ?_
    rw [show gR (S) (o + 7) = σ.2 7 from (hM.r 7 (by decide))]
    obtain ⟨S2, eS2⟩ : ∃ s9 : HS, s9 = uR (S) (o + 7) (upd (σ.2 7) (n).toNatClampNeg (0)) := ⟨_, rfl⟩
    rw [← eS2]
    have hM2 : MI S2 o (fR (σ) 7 (upd (σ.2 7) (n).toNatClampNeg (0))) := by rw [eS2]; exact hM.pR 7 _
    have hF2 : FM o S S2 := by rw [eS2]; exact FM.rf.pR _ (by omega) (by omega)
    clear eS2
    refine x_aload_n 0 dX7_strike_17 rfl ?_
    refine gf_X7_47 rfl dX7_strike_18 (mhK hM2.1) ?_
    rw [show gP (S2) 275 (o) = some (o + 13) from (mhP_isFresh hM2.1)]
    refine x_aload_n 0 dX7_strike_21 rfl ?_
    refine gf_X7_32 rfl dX7_strike_22 (mhK hM2.1) ?_
    rw [show gP (S2) 270 (o) = some (o + 8) from (mhP_nameGore hM2.1)]
    refine x_iload_n 1 dX7_strike_25 rfl ?_
    refine x_iaload dX7_strike_26 (mhK_nameGore hM2.1) (by rw [show gL (S2) (o + 8) = 60 from (mhL_nameGore hM2.1)]; exact ((isName_in hO.nm2.1 hO.nm2.2 c1))) ?_
    rw [show gR (S2) (o + 8) = σ.2 8 from (hM2.r 8 (by decide))]
    refine x_at 27 rfl ?_
    refine x_iconst 1 dX7_strike_27 (by decide) ?_
    refine x_bastore dX7_strike_28 (mhK_isFresh hM2.1) (by rw [show gL (S2) (o + 13) = 24 from (mhL_isFresh hM2.1)]; exact ((ng_in hO (isName_in hO.nm2.1 hO.nm2.2 c1)))) (by decide) ?_
    rw [show gR (S2) (o + 13) = σ.2 13 from (hM2.r 13 (by decide))]
    obtain ⟨S3, eS3⟩ : ∃ s9 : HS, s9 = uR (S2) (o + 13) (upd (σ.2 13) (((σ.2 8) (n).toNatClampNeg)).toNatClampNeg (1)) := ⟨_, rfl⟩
    rw [← eS3]
    have hM3 : MI S3 o (fR (fR (σ) 7 (upd (σ.2 7) (n).toNatClampNeg (0))) 13 (upd (σ.2 13) (((σ.2 8) (n).toNatClampNeg)).toNatClampNeg (1))) := by rw [eS3]; exact hM2.pR 13 _
    have hF3 : FM o S S3 := by rw [eS3]; exact hF2.pR _ (by omega) (by omega)
    clear eS3
    refine x_iconst 1 dX7_strike_29 (by decide) ?_
    exact x_zreturn dX7_strike_30 rfl (by decide) (Nat.le_of_ble_eq_true rfl) (Nat.le_of_ble_eq_true rfl) ⟨by rw [h_X7_strike, if_neg c1], by rw [h_X7_strike, if_neg c1]; exact hM3, hF3⟩
  · refine x_iconst 0 dX7_strike_8 (by decide) ?_
    exact x_zreturn dX7_strike_9 rfl (by decide) (Nat.le_of_ble_eq_true rfl) (Nat.le_of_ble_eq_true rfl) ⟨by rw [h_X7_strike, if_pos c1], by rw [h_X7_strike, if_pos c1]; exact hM, FM.rf⟩
