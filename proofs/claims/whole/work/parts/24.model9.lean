set_option maxRecDepth 100000 in
theorem l_set {k : KT} {S0 S : HS} {o : Nat} {σ : MS} {n r : Int32} {c j : Nat} {he wa bw : Nat → Int32} {bc : Int32} (hC : SC S0 S o σ he wa bw bc) (hc : c ≤ 6) (hj : j < c) (hj2 : he j = n) (hj3 : ∀ i, i < j → ¬ he i = n) (hr : bw j = r) : ∀ (m i : Nat), i + m = j → X k (mt_X7_set (rm 8 0 0)) (Zm k (mt_X7_set (rm 8 0 0)) (Pm o S0 (r, σ))) 23 [(0, .ref (o)), (1, .int (n)), (2, .int (nI c)), (3, .int (nI i))] [] S 0 0 := by
  intro m
  induction m with
  | zero =>
    intro i hi
    refine x_iload_n 3 dX7_set_23 rfl ?_
    refine x_iload_n 2 dX7_set_24 rfl ?_
    refine x_icmp_ge 44 dX7_set_25 (by decide) (fun c1 => ?_) (fun c1 => ?_)
    · exact absurd c1 (nI_ge (by omega) (by omega))
    · refine x_aload_n 0 dX7_set_28 rfl ?_
      refine gf_X7_53 rfl dX7_set_29 (mhK hC.1.1) ?_
      rw [show gP (S) 278 (o) = some (o + 15) from (mhP_here hC.1.1)]
      refine x_iload_n 3 dX7_set_32 rfl ?_
      refine x_iaload dX7_set_33 (mhK_here hC.1.1) (by rw [show gL (S) (o + 15) = 6 from (mhL_here hC.1.1)]; exact (vp_in_nI (by omega) (by decide))) ?_
      rw [show gR (S) (o + 15) = he from hC.2.2.1]
      refine x_iload_n 1 dX7_set_34 rfl ?_
      refine x_icmp_eq 44 dX7_set_35 (by decide) (fun c2 => ?_) (fun c2 => ?_)
      · refine x_aload_n 0 dX7_set_44 rfl ?_
        refine gf_X7_59 rfl dX7_set_45 (mhK hC.1.1) ?_
        rw [show gP (S) 280 (o) = some (o + 17) from (mhP_bestWays hC.1.1)]
        refine x_iload_n 3 dX7_set_48 rfl ?_
        refine x_iaload dX7_set_49 (mhK_bestWays hC.1.1) (by rw [show gL (S) (o + 17) = 6 from (mhL_bestWays hC.1.1)]; exact (vp_in_nI (by omega) (by decide))) ?_
        rw [show gR (S) (o + 17) = bw from hC.2.2.2.2.1]
        exact x_ireturn dX7_set_50 rfl (Nat.le_of_ble_eq_true rfl) (Nat.le_of_ble_eq_true rfl) ⟨by rw [nI_clamp (by omega), show i = j by omega, hr], hC.1, hC.2.1⟩
      · exact absurd (by rw [nI_clamp (by omega), show i = j by omega]; exact hj2) c2
  | succ m ih =>
    intro i hi
    refine x_iload_n 3 dX7_set_23 rfl ?_
    refine x_iload_n 2 dX7_set_24 rfl ?_
    refine x_icmp_ge 44 dX7_set_25 (by decide) (fun c1 => ?_) (fun c1 => ?_)
    · exact absurd c1 (nI_ge (by omega) (by omega))
    · refine x_aload_n 0 dX7_set_28 rfl ?_
      refine gf_X7_53 rfl dX7_set_29 (mhK hC.1.1) ?_
      rw [show gP (S) 278 (o) = some (o + 15) from (mhP_here hC.1.1)]
      refine x_iload_n 3 dX7_set_32 rfl ?_
      refine x_iaload dX7_set_33 (mhK_here hC.1.1) (by rw [show gL (S) (o + 15) = 6 from (mhL_here hC.1.1)]; exact (vp_in_nI (by omega) (by decide))) ?_
      rw [show gR (S) (o + 15) = he from hC.2.2.1]
      refine x_iload_n 1 dX7_set_34 rfl ?_
      refine x_icmp_eq 44 dX7_set_35 (by decide) (fun c2 => ?_) (fun c2 => ?_)
      · exact absurd (by rw [nI_clamp (by omega)] at c2; exact c2) (hj3 i (by omega))
      · refine x_iinc 3 (nI i + 1) [(3, .int ((nI i + 1))), (0, .ref (o)), (1, .int (n)), (2, .int (nI c))] dX7_set_38 rfl rfl (Nat.le_of_ble_eq_true rfl) rfl ?_
        refine x_goto 23 dX7_set_41 (by decide) ?_
        refine x_lv [(0, .ref (o)), (1, .int (n)), (2, .int (nI c)), (3, .int (nI (i + 1)))] [1, 2, 3, 0] (by rw [← nI_1 i]; rfl) ?_
        exact ih (i + 1) (by omega)
set_option maxRecDepth 100000 in
theorem c_X7_set {k : KT} {S : HS} {o : Nat} {σ : MS} {P : Nat} (n r : Int32) (hM : MI S o σ) (hO : okS σ) (hP : σ.1 12 = nI P) (hP2 : P ≤ 60) (hN : ∀ g, cN σ g P 0 ≤ 6) (hq0 : f_X7_isName (σ.1 12) (σ.2 7) n = 0 → r = -1) (hq1 : ¬ f_X7_isName (σ.1 12) (σ.2 7) n = 0 → ∀ h0 w0 b0 : Nat → Int32, ∃ (c : Nat) (he : Nat → Int32) (j : Nat), st1 σ ((σ.2 8) (n).toNatClampNeg) P 0 0 h0 = (c, he) ∧ j < c ∧ he j = n ∧ (∀ i, i < j → ¬ he i = n) ∧ (st3 σ he c (5 ^ c) 0 w0 b0 (-1)).2.1 j = r) : Ct k (mt_X7_set (rm 8 0 0)) [.ref o, .int n] S (Pm o S (r, σ)) := by
  refine Ct.ofF (by decide +kernel) (Nat.le_of_ble_eq_true rfl) ?_
  refine x_lv [(0, .ref (o)), (1, .int (n))] [0, 1] rfl ?_
  refine x_aload_n 0 dX7_set_0 rfl ?_
  refine x_iload_n 1 dX7_set_1 rfl ?_
  refine ca_X7_139 [.int (n)] [] (c_X7_isName (σ.1 12) (σ.2 7) (n) hM.1 (hM.i 12 (by decide)) (hM.r 7 (by decide)) hO.nm2.1 hO.nm2.2) (mhK hM.1) rfl dX7_set_2 rfl rfl ⟨(Nat.le_of_ble_eq_true rfl), (Nat.le_of_ble_eq_true rfl), (Nat.le_of_ble_eq_true rfl), (Nat.le_of_ble_eq_true rfl), (Nat.le_of_ble_eq_true rfl)⟩ (fun v T hq => ?_)
  obtain ⟨rfl, rfl⟩ := hq
  refine x_if_ne 10 dX7_set_5 (by decide) (fun c1 => ?_) (fun c1 => ?_)
  · refine x_aload_n 0 dX7_set_10 rfl ?_
    refine x_aload_n 0 dX7_set_11 rfl ?_
    refine gf_X7_32 rfl dX7_set_12 (mhK hM.1) ?_
    rw [show gP (S) 270 (o) = some (o + 8) from (mhP_nameGore hM.1)]
    refine x_iload_n 1 dX7_set_15 rfl ?_
    refine x_iaload dX7_set_16 (mhK_nameGore hM.1) (by rw [show gL (S) (o + 8) = 60 from (mhL_nameGore hM.1)]; exact ((isName_in hO.nm2.1 hO.nm2.2 c1))) ?_
    rw [show gR (S) (o + 8) = σ.2 8 from (hM.r 8 (by decide))]
    obtain ⟨c, he, j, hst, hj, hj2, hj3, hr⟩ := hq1 c1 (gR S (o + 15)) (gR S (o + 16)) (gR S (o + 17))
    have hc : c ≤ 6 := by
      have h2 := st1_cnt (σ := σ) (g := (((σ.2 8) (n).toNatClampNeg))) P 0 0 (gR S (o + 15))
      rw [hst] at h2
      have h3 := hN ((((σ.2 8) (n).toNatClampNeg)))
      have h4 : c = 0 + cN σ ((((σ.2 8) (n).toNatClampNeg))) P 0 := h2
      omega
    refine ca_X7_164 [.int ((((σ.2 8) (n).toNatClampNeg)))] [] (c_X7_sets hM hO hP hP2 (hN ((((σ.2 8) (n).toNatClampNeg)))) hst) (mhK hM.1) rfl dX7_set_17 rfl rfl ⟨(Nat.le_of_ble_eq_true rfl), (Nat.le_of_ble_eq_true rfl), (Nat.le_of_ble_eq_true rfl), (Nat.le_of_ble_eq_true rfl), (Nat.le_of_ble_eq_true rfl)⟩ (fun v T hq => ?_)
    obtain ⟨rfl, hC⟩ := hq
    refine x_istore_n [(2, .int (nI c)), (0, .ref (o)), (1, .int (n))] dX7_set_20 (Nat.le_of_ble_eq_true rfl) rfl ?_
    refine x_iconst 0 dX7_set_21 (by decide) ?_
    refine x_istore_n [(3, .int (0)), (2, .int (nI c)), (0, .ref (o)), (1, .int (n))] dX7_set_22 (Nat.le_of_ble_eq_true rfl) rfl ?_
    refine x_lv [(0, .ref (o)), (1, .int (n)), (2, .int (nI c)), (3, .int (nI 0))] [2, 3, 1, 0] rfl ?_
    exact l_set hC hc hj hj2 hj3 hr j 0 (by omega)
  · refine x_iconst (-1) dX7_set_8 (by decide) ?_
    exact x_ireturn dX7_set_9 rfl (Nat.le_of_ble_eq_true rfl) (Nat.le_of_ble_eq_true rfl) ⟨by rw [hq0 c1], hM, FM.rf⟩
set_option maxRecDepth 100000 in
theorem c_X7_cost {k : KT} {S : HS} {o : Nat} {σ : MS} {P : Nat} (n r : Int32) (hM : MI S o σ) (hO : okS σ) (hP : σ.1 12 = nI P) (hP2 : P ≤ 60) (hN : ∀ g, cN σ g P 0 ≤ 6) (hq0 : f_X7_isGore (σ.1 1) n = 0 → r = -1) (hq1 : ¬ f_X7_isGore (σ.1 1) n = 0 → ∀ h0 w0 b0 : Nat → Int32, ∃ (c : Nat) (he : Nat → Int32), st1 σ n P 0 0 h0 = (c, he) ∧ (st3 σ he c (5 ^ c) 0 w0 b0 (-1)).2.2 = r) : Ct k (mt_X7_cost (rm 8 0 0)) [.ref o, .int n] S (Pm o S (r, σ)) := by
  refine Ct.ofF (by decide +kernel) (Nat.le_of_ble_eq_true rfl) ?_
  refine x_lv [(0, .ref (o)), (1, .int (n))] [0, 1] rfl ?_
  refine x_aload_n 0 dX7_cost_0 rfl ?_
  refine x_iload_n 1 dX7_cost_1 rfl ?_
  refine ca_X7_121 [.int (n)] [] (c_X7_isGore (σ.1 1) (n) hM.1 (hM.i 1 (by decide))) (mhK hM.1) rfl dX7_cost_2 rfl rfl ⟨(Nat.le_of_ble_eq_true rfl), (Nat.le_of_ble_eq_true rfl), (Nat.le_of_ble_eq_true rfl), (Nat.le_of_ble_eq_true rfl), (Nat.le_of_ble_eq_true rfl)⟩ (fun v T hq => ?_)
  obtain ⟨rfl, rfl⟩ := hq
  refine x_if_ne 10 dX7_cost_5 (by decide) (fun c1 => ?_) (fun c1 => ?_)
  · refine x_aload_n 0 dX7_cost_10 rfl ?_
    refine x_iload_n 1 dX7_cost_11 rfl ?_
    obtain ⟨c, he, hst, hr⟩ := hq1 c1 (gR S (o + 15)) (gR S (o + 16)) (gR S (o + 17))
    have hc : c ≤ 6 := by
      have h2 := st1_cnt (σ := σ) (g := n) P 0 0 (gR S (o + 15))
      rw [hst] at h2
      have h3 := hN (n)
      have h4 : c = 0 + cN σ (n) P 0 := h2
      omega
    refine ca_X7_164 [.int (n)] [] (c_X7_sets hM hO hP hP2 (hN (n)) hst) (mhK hM.1) rfl dX7_cost_12 rfl rfl ⟨(Nat.le_of_ble_eq_true rfl), (Nat.le_of_ble_eq_true rfl), (Nat.le_of_ble_eq_true rfl), (Nat.le_of_ble_eq_true rfl), (Nat.le_of_ble_eq_true rfl)⟩ (fun v T hq => ?_)
    obtain ⟨rfl, hC⟩ := hq
    refine x_pop dX7_cost_15 rfl ?_
    refine x_aload_n 0 dX7_cost_16 rfl ?_
    refine gf_X7_154 rfl dX7_cost_17 (mhK hC.1.1) ?_
    rw [show gI (T) 281 (o) = (st3 σ he c (5 ^ c) 0 (gR S (o + 16)) (gR S (o + 17)) (-1)).2.2 from hC.2.2.2.2.2]
    exact x_ireturn dX7_cost_20 rfl (Nat.le_of_ble_eq_true rfl) (Nat.le_of_ble_eq_true rfl) ⟨by rw [hr], hC.1, hC.2.1⟩
  · refine x_iconst (-1) dX7_cost_8 (by decide) ?_
    exact x_ireturn dX7_cost_9 rfl (Nat.le_of_ble_eq_true rfl) (Nat.le_of_ble_eq_true rfl) ⟨by rw [hq0 c1], hM, FM.rf⟩
