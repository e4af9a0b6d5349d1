/-- isGood, the inner rounds for the k-th name: i of them left from j on -/
def igI (σ : MS) (he wa : Nat → Int32) (k : Nat) : Nat → Nat → Int32
  | 0, _ => 1
  | m + 1, j => if f_X7_areApart (σ.2 1) (σ.2 9) (σ.2 10) (σ.2 11) (he (nI k).toNatClampNeg) (wa (nI k).toNatClampNeg) (he (nI j).toNatClampNeg) (wa (nI j).toNatClampNeg) = 0 then 0 else igI σ he wa k m (j + 1)
def igO (σ : MS) (he wa : Nat → Int32) : Nat → Nat → Int32
  | 0, _ => 1
  | m + 1, j => if f_X7_canBe (σ.1 2) (σ.2 1) (σ.2 9) (σ.2 10) (σ.2 11) (he (nI j).toNatClampNeg) (wa (nI j).toNatClampNeg) = 0 then 0 else if igI σ he wa j j 0 = 0 then 0 else igO σ he wa m (j + 1)
theorem f01_X7_areApart (c1 c2 c3 c4 : Nat → Int32) (a b c d : Int32) : f_X7_areApart c1 c2 c3 c4 a b c d = 0 ∨ f_X7_areApart c1 c2 c3 c4 a b c d = 1 := by unfold f_X7_areApart; (repeat' split) <;> simp
set_option maxRecDepth 100000 in
theorem l_igI {k : KT} {S : HS} {o : Nat} {σ : MS} {he wa : Nat → Int32} {P k9 : Nat} {r : Int32} (hM : MI S o σ) (hO : okS σ) (hhe : gR S (o + 15) = he) (hwa : gR S (o + 16) = wa) (hP : P ≤ 6) (h60 : ∀ i, i < P → vp_in (he i) 60) (hk9 : k9 < P) : ∀ (m j : Nat), j + m = k9 → (igI σ he wa k9 m j = 0 → r = 0) → (¬ igI σ he wa k9 m j = 0 → X k (mt_X7_isGood (rm 6 0 0)) (Zm k (mt_X7_isGood (rm 6 0 0)) (Pu r S)) 74 [(0, .ref o), (1, .int (nI P)), (2, .int (nI k9))] [] S 0 0) → X k (mt_X7_isGood (rm 6 0 0)) (Zm k (mt_X7_isGood (rm 6 0 0)) (Pu r S)) 30 [(0, .ref (o)), (1, .int (nI P)), (2, .int (nI k9)), (3, .int (nI j))] [] S 0 0 := by
  intro m
  induction m with
  | zero =>
    intro j hj h0 hk
    refine x_iload_n 3 dX7_isGood_30 rfl ?_
    refine x_iload_n 2 dX7_isGood_31 rfl ?_
    refine x_icmp_ge 74 dX7_isGood_32 (by decide) (fun c1 => ?_) (fun c1 => ?_)
    · refine x_lv [(0, .ref (o)), (1, .int (nI P)), (2, .int (nI k9))] [0, 1, 2] rfl ?_
      exact hk (by simp [igI])
    · exact absurd (nI_le (by omega) (by omega)) c1
  | succ m ih =>
    intro j hj h0 hk
    refine x_iload_n 3 dX7_isGood_30 rfl ?_
    refine x_iload_n 2 dX7_isGood_31 rfl ?_
    refine x_icmp_ge 74 dX7_isGood_32 (by decide) (fun c1 => ?_) (fun c1 => ?_)
    · exact absurd c1 (nI_ge (by omega) (by omega))
    · refine x_aload_n 0 dX7_isGood_35 rfl ?_
      refine x_aload_n 0 dX7_isGood_36 rfl ?_
      refine gf_X7_53 rfl dX7_isGood_37 (mhK hM.1) ?_
      rw [show gP (S) 278 (o) = some (o + 15) from (mhP_here hM.1)]
      refine x_iload_n 2 dX7_isGood_40 rfl ?_
      refine x_iaload dX7_isGood_41 (mhK_here hM.1) (by rw [show gL (S) (o + 15) = 6 from (mhL_here hM.1)]; exact (vp_in_nI (by omega) (by decide))) ?_
      rw [show gR (S) (o + 15) = he from hhe]
      refine x_aload_n 0 dX7_isGood_42 rfl ?_
      refine gf_X7_56 rfl dX7_isGood_43 (mhK hM.1) ?_
      rw [show gP (S) 279 (o) = some (o + 16) from (mhP_ways hM.1)]
      refine x_iload_n 2 dX7_isGood_46 rfl ?_
      refine x_iaload dX7_isGood_47 (mhK_ways hM.1) (by rw [show gL (S) (o + 16) = 6 from (mhL_ways hM.1)]; exact (vp_in_nI (by omega) (by decide))) ?_
      rw [show gR (S) (o + 16) = wa from hwa]
      refine x_aload_n 0 dX7_isGood_48 rfl ?_
      refine gf_X7_53 rfl dX7_isGood_49 (mhK hM.1) ?_
      rw [show gP (S) 278 (o) = some (o + 15) from (mhP_here hM.1)]
      refine x_at 52 rfl ?_
      refine x_iload_n 3 dX7_isGood_52 rfl ?_
      refine x_iaload dX7_isGood_53 (mhK_here hM.1) (by rw [show gL (S) (o + 15) = 6 from (mhL_here hM.1)]; exact (vp_in_nI (by omega) (by decide))) ?_
      rw [show gR (S) (o + 15) = he from hhe]
      refine x_aload_n 0 dX7_isGood_54 rfl ?_
      refine gf_X7_56 rfl dX7_isGood_55 (mhK hM.1) ?_
      rw [show gP (S) 279 (o) = some (o + 16) from (mhP_ways hM.1)]
      refine x_iload_n 3 dX7_isGood_58 rfl ?_
      refine x_iaload dX7_isGood_59 (mhK_ways hM.1) (by rw [show gL (S) (o + 16) = 6 from (mhL_ways hM.1)]; exact (vp_in_nI (by omega) (by decide))) ?_
      rw [show gR (S) (o + 16) = wa from hwa]
      refine ca_X7_160 [.int ((he (nI k9).toNatClampNeg)), .int ((wa (nI k9).toNatClampNeg)), .int ((he (nI j).toNatClampNeg)), .int ((wa (nI j).toNatClampNeg))] [] (c_X7_areApart (σ.2 1) (σ.2 9) (σ.2 10) (σ.2 11) ((he (nI k9).toNatClampNeg)) ((wa (nI k9).toNatClampNeg)) ((he (nI j).toNatClampNeg)) ((wa (nI j).toNatClampNeg)) hM.1 (hM.r 1 (by decide)) (hM.r 9 (by decide)) (hM.r 10 (by decide)) (hM.r 11 (by decide)) (h60 _ (by rw [nI_clamp (by omega)]; omega)) (h60 _ (by rw [nI_clamp (by omega)]; omega)) hO.hi) (mhK hM.1) rfl dX7_isGood_60 rfl rfl ⟨(Nat.le_of_ble_eq_true rfl), (Nat.le_of_ble_eq_true rfl), (Nat.le_of_ble_eq_true rfl), (Nat.le_of_ble_eq_true rfl), (Nat.le_of_ble_eq_true rfl)⟩ (fun v T hq => ?_)
      obtain ⟨rfl, rfl⟩ := hq
      refine x_if_ne 68 dX7_isGood_63 (by decide) (fun c2 => ?_) (fun c2 => ?_)
      · refine x_iinc 3 (nI j + 1) [(3, .int ((nI j + 1))), (0, .ref (o)), (1, .int (nI P)), (2, .int (nI k9))] dX7_isGood_68 rfl rfl (Nat.le_of_ble_eq_true rfl) rfl ?_
        refine x_goto 30 dX7_isGood_71 (by decide) ?_
        refine x_lv [(0, .ref (o)), (1, .int (nI P)), (2, .int (nI k9)), (3, .int (nI (j + 1)))] [1, 2, 3, 0] (by rw [← nI_1 j]; rfl) ?_
        exact ih (j + 1) (by omega) (fun q => h0 (by rw [igI, if_neg c2]; exact q)) (fun q => hk (by rw [igI, if_neg c2]; exact q))
      · refine x_iconst 0 dX7_isGood_66 (by decide) ?_
        exact x_zreturn dX7_isGood_67 rfl (by decide) (Nat.le_of_ble_eq_true rfl) (Nat.le_of_ble_eq_true rfl) ⟨by rw [h0 (by rw [igI, if_pos c2])], rfl⟩
set_option maxRecDepth 100000 in
theorem l_igO {k : KT} {S : HS} {o : Nat} {σ : MS} {he wa : Nat → Int32} {P : Nat} (hM : MI S o σ) (hO : okS σ) (hhe : gR S (o + 15) = he) (hwa : gR S (o + 16) = wa) (hP : P ≤ 6) (h60 : ∀ i, i < P → vp_in (he i) 60) : ∀ (m j : Nat), j + m = P → X k (mt_X7_isGood (rm 6 0 0)) (Zm k (mt_X7_isGood (rm 6 0 0)) (Pu (igO σ he wa m j) S)) 2 [(0, .ref (o)), (1, .int (nI P)), (2, .int (nI j))] [] S 0 0 := by
  intro m
  induction m with
  | zero =>
    intro j hj
    refine x_iload_n 2 dX7_isGood_2 rfl ?_
    refine x_iload_n 1 dX7_isGood_3 rfl ?_
    refine x_icmp_ge 80 dX7_isGood_4 (by decide) (fun c1 => ?_) (fun c1 => ?_)
    · refine x_iconst 1 dX7_isGood_80 (by decide) ?_
      exact x_zreturn dX7_isGood_81 rfl (by decide) (Nat.le_of_ble_eq_true rfl) (Nat.le_of_ble_eq_true rfl) ⟨by rw [igO], rfl⟩
    · exact absurd (nI_le (by omega) (by omega)) c1
  | succ m ih =>
    intro j hj
    refine x_iload_n 2 dX7_isGood_2 rfl ?_
    refine x_iload_n 1 dX7_isGood_3 rfl ?_
    refine x_icmp_ge 80 dX7_isGood_4 (by decide) (fun c1 => ?_) (fun c1 => ?_)
    · exact absurd c1 (nI_ge (by omega) (by omega))
    · refine x_aload_n 0 dX7_isGood_7 rfl ?_
      refine x_aload_n 0 dX7_isGood_8 rfl ?_
      refine gf_X7_53 rfl dX7_isGood_9 (mhK hM.1) ?_
      rw [show gP (S) 278 (o) = some (o + 15) from (mhP_here hM.1)]
      refine x_iload_n 2 dX7_isGood_12 rfl ?_
      refine x_iaload dX7_isGood_13 (mhK_here hM.1) (by rw [show gL (S) (o + 15) = 6 from (mhL_here hM.1)]; exact (vp_in_nI (by omega) (by decide))) ?_
      rw [show gR (S) (o + 15) = he from hhe]
      refine x_aload_n 0 dX7_isGood_14 rfl ?_
      refine gf_X7_56 rfl dX7_isGood_15 (mhK hM.1) ?_
      rw [show gP (S) 279 (o) = some (o + 16) from (mhP_ways hM.1)]
      refine x_iload_n 2 dX7_isGood_18 rfl ?_
      refine x_iaload dX7_isGood_19 (mhK_ways hM.1) (by rw [show gL (S) (o + 16) = 6 from (mhL_ways hM.1)]; exact (vp_in_nI (by omega) (by decide))) ?_
      rw [show gR (S) (o + 16) = wa from hwa]
      refine ca_X7_151 [.int ((he (nI j).toNatClampNeg)), .int ((wa (nI j).toNatClampNeg))] [] (c_X7_canBe (σ.1 2) (σ.2 1) (σ.2 9) (σ.2 10) (σ.2 11) ((he (nI j).toNatClampNeg)) ((wa (nI j).toNatClampNeg)) hM.1 (hM.i 2 (by decide)) (hM.r 1 (by decide)) (hM.r 9 (by decide)) (hM.r 10 (by decide)) (hM.r 11 (by decide)) (h60 _ (by rw [nI_clamp (by omega)]; omega)) hO.hi) (mhK hM.1) rfl dX7_isGood_20 rfl rfl ⟨(Nat.le_of_ble_eq_true rfl), (Nat.le_of_ble_eq_true rfl), (Nat.le_of_ble_eq_true rfl), (Nat.le_of_ble_eq_true rfl), (Nat.le_of_ble_eq_true rfl)⟩ (fun v T hq => ?_)
      obtain ⟨rfl, rfl⟩ := hq
      refine x_if_ne 28 dX7_isGood_23 (by decide) (fun c2 => ?_) (fun c2 => ?_)
      · refine x_iconst 0 dX7_isGood_28 (by decide) ?_
        refine x_istore_n [(3, .int (0)), (0, .ref (o)), (1, .int (nI P)), (2, .int (nI j))] dX7_isGood_29 (Nat.le_of_ble_eq_true rfl) rfl ?_
        refine x_lv [(0, .ref (o)), (1, .int (nI P)), (2, .int (nI j)), (3, .int (nI 0))] [1, 2, 3, 0] rfl ?_
        refine l_igI hM hO hhe hwa hP h60 (by omega) j 0 (by omega) (fun q9 => by rw [igO, if_neg c2, if_pos q9]) (fun q9 => ?_)
        refine x_iinc 2 (nI j + 1) [(2, .int ((nI j + 1))), (0, .ref (o)), (1, .int (nI P))] dX7_isGood_74 rfl rfl (Nat.le_of_ble_eq_true rfl) rfl ?_
        refine x_goto 2 dX7_isGood_77 (by decide) ?_
        refine x_lv [(0, .ref (o)), (1, .int (nI P)), (2, .int (nI (j + 1)))] [1, 2, 0] (by rw [← nI_1 j]; rfl) ?_
        rw [show igO σ he wa (m + 1) j = igO σ he wa m (j + 1) from by rw [igO, if_neg c2, if_neg q9]]
        exact ih (j + 1) (by omega)
      · refine x_iconst 0 dX7_isGood_26 (by decide) ?_
        exact x_zreturn dX7_isGood_27 rfl (by decide) (Nat.le_of_ble_eq_true rfl) (Nat.le_of_ble_eq_true rfl) ⟨by rw [igO, if_pos c2], rfl⟩
theorem c_X7_isGood {k : KT} {S : HS} {o : Nat} {σ : MS} {he wa : Nat → Int32} {P : Nat} (hM : MI S o σ) (hO : okS σ) (hhe : gR S (o + 15) = he) (hwa : gR S (o + 16) = wa) (hP : P ≤ 6) (h60 : ∀ i, i < P → vp_in (he i) 60) : Ct k (mt_X7_isGood (rm 6 0 0)) [.ref o, .int (nI P)] S (Pu (igO σ he wa P 0) S) := by
  refine Ct.ofF (by decide +kernel) (Nat.le_of_ble_eq_true rfl) ?_
  refine x_lv [(0, .ref o), (1, .int (nI P))] [0, 1] rfl ?_
  refine x_iconst 0 dX7_isGood_0 (by decide) ?_
  refine x_istore_n [(2, .int 0), (0, .ref o), (1, .int (nI P))] dX7_isGood_1 (Nat.le_of_ble_eq_true rfl) rfl ?_
  refine x_lv [(0, .ref (o)), (1, .int (nI P)), (2, .int (nI 0))] [1, 2, 0] rfl ?_
  exact l_igO hM hO hhe hwa hP h60 P 0 (by omega)
