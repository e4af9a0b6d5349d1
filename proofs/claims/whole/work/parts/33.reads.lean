set_option maxRecDepth 100000 in
theorem c_goreOf {k : KT} {S : HS} {x n c q p : Nat} {ca pa na : Nat → Nat} {σ : MS} (hI : CX k S x n c q p ca pa na σ) {g : Nat} (hg : g < n) : Ct k (mt_X6_goreOf (rm 1 0 0)) [.ref x, .int (nI g)] S (fun v T => v = some (.ref (x + 7 + 3 * g)) ∧ S = T) := by
  have hnb := hI.nb
  refine Ct.ofF (by decide +kernel) (Nat.le_of_ble_eq_true rfl) ?_
  refine x_lv [(0, .ref (x)), (1, .int (nI g))] [0, 1] rfl ?_
  refine x_iload_n 1 dX6_goreOf_0 rfl ?_
  refine x_if_lt 22 dX6_goreOf_1 (by decide) (fun c1 => ?_) (fun c1 => ?_)
  · exact absurd c1 (nI_pos (by omega))
  · refine x_iload_n 1 dX6_goreOf_4 rfl ?_
    refine x_aload_n 0 dX6_goreOf_5 rfl ?_
    refine gf_X6_40 rfl dX6_goreOf_6 hI.l.1 ?_
    rw [show gP (S) 225 (x) = some (x + 6) from hI.l.2.1.1]
    refine x_alen dX6_goreOf_9 (Or.inr (Or.inl hI.l.2.2.2.2.1.1)) ?_
    rw [show gL (S) (x + 6) = n from hI.l.2.2.2.2.1.2]
    refine x_icmp_ge 22 dX6_goreOf_10 (by decide) (fun c2 => ?_) (fun c2 => ?_)
    · exact absurd c2 (nI_ge hg (by omega))
    · refine x_aload_n 0 dX6_goreOf_13 rfl ?_
      refine gf_X6_40 rfl dX6_goreOf_14 hI.l.1 ?_
      rw [show gP (S) 225 (x) = some (x + 6) from hI.l.2.1.1]
      refine x_iload_n 1 dX6_goreOf_17 rfl ?_
      refine x_aaload22 dX6_goreOf_18 hI.l.2.2.2.2.1.1 (by rw [show gL (S) (x + 6) = n from hI.l.2.2.2.2.1.2]; exact (vp_in_nI hg (by omega))) ?_
      rw [nI_clamp (by omega), (hI.l.2.2.2.2.2 g hg).1]
      refine x_goto 23 dX6_goreOf_19 (by decide) ?_
      exact x_areturn dX6_goreOf_23 rfl (Or.inl ⟨_, rfl⟩) (Nat.le_of_ble_eq_true rfl) (Nat.le_of_ble_eq_true rfl) ⟨rfl, rfl⟩
set_option maxRecDepth 100000 in
theorem c_goreOfN {k : KT} {S : HS} {x n c q p : Nat} {ca pa na : Nat → Nat} {σ : MS} (hI : CX k S x n c q p ca pa na σ) {i : Int32} (ho : i < 0 ∨ nI n ≤ i) : Ct k (mt_X6_goreOf (rm 1 0 0)) [.ref x, .int i] S (fun v T => v = some .null ∧ S = T) := by
  refine Ct.ofF (by decide +kernel) (Nat.le_of_ble_eq_true rfl) ?_
  refine x_lv [(0, .ref (x)), (1, .int (i))] [0, 1] rfl ?_
  refine x_iload_n 1 dX6_goreOf_0 rfl ?_
  refine x_if_lt 22 dX6_goreOf_1 (by decide) (fun c1 => ?_) (fun c1 => ?_)
  · refine x_null dX6_goreOf_22 ?_
    exact x_areturnN dX6_goreOf_23 rfl (Or.inl ⟨_, rfl⟩) (Nat.le_of_ble_eq_true rfl) (Nat.le_of_ble_eq_true rfl) ⟨rfl, rfl⟩
  · refine x_iload_n 1 dX6_goreOf_4 rfl ?_
    refine x_aload_n 0 dX6_goreOf_5 rfl ?_
    refine gf_X6_40 rfl dX6_goreOf_6 hI.l.1 ?_
    rw [show gP (S) 225 (x) = some (x + 6) from hI.l.2.1.1]
    refine x_alen dX6_goreOf_9 (Or.inr (Or.inl hI.l.2.2.2.2.1.1)) ?_
    rw [show gL (S) (x + 6) = n from hI.l.2.2.2.2.1.2]
    refine x_icmp_ge 22 dX6_goreOf_10 (by decide) (fun c2 => ?_) (fun c2 => ?_)
    · refine x_null dX6_goreOf_22 ?_
      exact x_areturnN dX6_goreOf_23 rfl (Or.inl ⟨_, rfl⟩) (Nat.le_of_ble_eq_true rfl) (Nat.le_of_ble_eq_true rfl) ⟨rfl, rfl⟩
    · exact absurd (ho.resolve_left c1) c2
set_option maxRecDepth 100000 in
theorem c_coastOf {k : KT} {S : HS} {x n c q p : Nat} {ca pa na : Nat → Nat} {σ : MS} (hI : CX k S x n c q p ca pa na σ) {g : Nat} (hg : g < c) : Ct k (mt_X6_coastOf (rm 4 0 0)) [.ref x, .int (nI g)] S (fun v T => v = some (.ref (ca g)) ∧ S = T) := by
  have hnb := hI.c1
  refine Ct.ofF (by decide +kernel) (Nat.le_of_ble_eq_true rfl) ?_
  refine x_lv [(0, .ref (x)), (1, .int (nI g))] [0, 1] rfl ?_
  refine x_iload_n 1 dX6_coastOf_0 rfl ?_
  refine x_if_lt 29 dX6_coastOf_1 (by decide) (fun c1 => ?_) (fun c1 => ?_)
  · exact absurd c1 (nI_pos (by omega))
  · refine x_iload_n 1 dX6_coastOf_4 rfl ?_
    refine x_aload_n 0 dX6_coastOf_5 rfl ?_
    refine gf_X6_12 rfl dX6_coastOf_6 hI.l.1 ?_
    rw [show gP (S) 226 (x) = some (x + 1) from hI.l.2.1.2.1]
    refine ca_X6_60 [] [.int (nI g)] (c_al_size hI.cp.1.1) hI.cp.1.1 rfl dX6_coastOf_9 rfl rfl ⟨(Nat.le_of_ble_eq_true rfl), (Nat.le_of_ble_eq_true rfl), (Nat.le_of_ble_eq_true rfl), (Nat.le_of_ble_eq_true rfl), (Nat.le_of_ble_eq_true rfl)⟩ (fun v T hq => ?_)
    obtain ⟨rfl, hT⟩ := hq
    obtain rfl := hT.symm
    rw [show gI (S) 2 (x + 1) = nI c from (by rw [hI.cp.1.2.1, List.length_map, List.length_range])]
    refine x_icmp_ge 29 dX6_coastOf_12 (by decide) (fun c2 => ?_) (fun c2 => ?_)
    · exact absurd c2 (nI_ge hg (by omega))
    · refine x_aload_n 0 dX6_coastOf_15 rfl ?_
      refine gf_X6_12 rfl dX6_coastOf_16 hI.l.1 ?_
      rw [show gP (S) 226 (x) = some (x + 1) from hI.l.2.1.2.1]
      refine x_iload_n 1 dX6_coastOf_19 rfl ?_
      refine ca_X6_116 [.int (nI g)] [] (c_al_get (k := k) hI.cp.1 (i := g) (by rw [List.length_map, List.length_range]; exact hg)) hI.cp.1.1 rfl dX6_coastOf_20 rfl rfl ⟨(Nat.le_of_ble_eq_true rfl), (Nat.le_of_ble_eq_true rfl), (Nat.le_of_ble_eq_true rfl), (Nat.le_of_ble_eq_true rfl), (Nat.le_of_ble_eq_true rfl)⟩ (fun v T hq => ?_)
      obtain ⟨rfl, hT⟩ := hq
      obtain rfl := hT.symm
      rw [show ((List.range c).map ca)[g]'(by rw [List.length_map, List.length_range]; exact hg) = ca g from (by rw [List.getElem_map, List.getElem_range])]
      refine cc_X6_64 rfl dX6_coastOf_23 (hI.cp.2.2 g hg).1 ?_
      refine x_goto 30 dX6_coastOf_26 (by decide) ?_
      exact x_areturn dX6_coastOf_30 rfl (Or.inl ⟨_, rfl⟩) (Nat.le_of_ble_eq_true rfl) (Nat.le_of_ble_eq_true rfl) ⟨rfl, rfl⟩
set_option maxRecDepth 100000 in
theorem c_coastOfN {k : KT} {S : HS} {x n c q p : Nat} {ca pa na : Nat → Nat} {σ : MS} (hI : CX k S x n c q p ca pa na σ) {i : Int32} (ho : i < 0 ∨ nI c ≤ i) : Ct k (mt_X6_coastOf (rm 4 0 0)) [.ref x, .int i] S (fun v T => v = some .null ∧ S = T) := by
  refine Ct.ofF (by decide +kernel) (Nat.le_of_ble_eq_true rfl) ?_
  refine x_lv [(0, .ref (x)), (1, .int (i))] [0, 1] rfl ?_
  refine x_iload_n 1 dX6_coastOf_0 rfl ?_
  refine x_if_lt 29 dX6_coastOf_1 (by decide) (fun c1 => ?_) (fun c1 => ?_)
  · refine x_null dX6_coastOf_29 ?_
    exact x_areturnN dX6_coastOf_30 rfl (Or.inl ⟨_, rfl⟩) (Nat.le_of_ble_eq_true rfl) (Nat.le_of_ble_eq_true rfl) ⟨rfl, rfl⟩
  · refine x_iload_n 1 dX6_coastOf_4 rfl ?_
    refine x_aload_n 0 dX6_coastOf_5 rfl ?_
    refine gf_X6_12 rfl dX6_coastOf_6 hI.l.1 ?_
    rw [show gP (S) 226 (x) = some (x + 1) from hI.l.2.1.2.1]
    refine ca_X6_60 [] [.int (i)] (c_al_size hI.cp.1.1) hI.cp.1.1 rfl dX6_coastOf_9 rfl rfl ⟨(Nat.le_of_ble_eq_true rfl), (Nat.le_of_ble_eq_true rfl), (Nat.le_of_ble_eq_true rfl), (Nat.le_of_ble_eq_true rfl), (Nat.le_of_ble_eq_true rfl)⟩ (fun v T hq => ?_)
    obtain ⟨rfl, hT⟩ := hq
    obtain rfl := hT.symm
    rw [show gI (S) 2 (x + 1) = nI c from (by rw [hI.cp.1.2.1, List.length_map, List.length_range])]
    refine x_icmp_ge 29 dX6_coastOf_12 (by decide) (fun c2 => ?_) (fun c2 => ?_)
    · refine x_null dX6_coastOf_29 ?_
      exact x_areturnN dX6_coastOf_30 rfl (Or.inl ⟨_, rfl⟩) (Nat.le_of_ble_eq_true rfl) (Nat.le_of_ble_eq_true rfl) ⟨rfl, rfl⟩
    · exact absurd (ho.resolve_left c1) c2
set_option maxRecDepth 100000 in
theorem c_nameOfS {k : KT} {S : HS} {x n c q p : Nat} {ca pa na : Nat → Nat} {σ : MS} (hI : CX k S x n c q p ca pa na σ) {g : Nat} (hg : g < p) (ht : σ.2 7 g = 0) : Ct k (mt_X6_nameOf (rm 4 0 0)) [.ref x, .int (nI g)] S (fun v T => v = some .null ∧ S = T) := by
  have hnb := hI.p1
  refine Ct.ofF (by decide +kernel) (Nat.le_of_ble_eq_true rfl) ?_
  refine x_lv [(0, .ref (x)), (1, .int (nI g))] [0, 1] rfl ?_
  refine x_iload_n 1 dX6_nameOf_0 rfl ?_
  refine x_if_lt 15 dX6_nameOf_1 (by decide) (fun c1 => ?_) (fun c1 => ?_)
  · exact absurd c1 (nI_pos (by omega))
  · refine x_iload_n 1 dX6_nameOf_4 rfl ?_
    refine x_aload_n 0 dX6_nameOf_5 rfl ?_
    refine gf_X6_16 rfl dX6_nameOf_6 hI.l.1 ?_
    rw [show gP (S) 227 (x) = some (x + 2) from hI.l.2.1.2.2.1]
    refine ca_X6_60 [] [.int (nI g)] (c_al_size hI.w.1.1) hI.w.1.1 rfl dX6_nameOf_9 rfl rfl ⟨(Nat.le_of_ble_eq_true rfl), (Nat.le_of_ble_eq_true rfl), (Nat.le_of_ble_eq_true rfl), (Nat.le_of_ble_eq_true rfl), (Nat.le_of_ble_eq_true rfl)⟩ (fun v T hq => ?_)
    obtain ⟨rfl, hT⟩ := hq
    obtain rfl := hT.symm
    rw [show gI (S) 2 (x + 2) = nI p from (by rw [hI.w.1.2.1, List.length_map, List.length_range])]
    refine x_icmp_lt 17 dX6_nameOf_12 (by decide) (fun c2 => ?_) (fun c2 => ?_)
    · refine x_aload_n 0 dX6_nameOf_17 rfl ?_
      refine gf_X6_16 rfl dX6_nameOf_18 hI.l.1 ?_
      rw [show gP (S) 227 (x) = some (x + 2) from hI.l.2.1.2.2.1]
      refine x_iload_n 1 dX6_nameOf_21 rfl ?_
      refine ca_X6_116 [.int (nI g)] [] (c_al_get (k := k) hI.w.1 (i := g) (by rw [List.length_map, List.length_range]; exact hg)) hI.w.1.1 rfl dX6_nameOf_22 rfl rfl ⟨(Nat.le_of_ble_eq_true rfl), (Nat.le_of_ble_eq_true rfl), (Nat.le_of_ble_eq_true rfl), (Nat.le_of_ble_eq_true rfl), (Nat.le_of_ble_eq_true rfl)⟩ (fun v T hq => ?_)
      obtain ⟨rfl, hT⟩ := hq
      obtain rfl := hT.symm
      rw [show ((List.range p).map na)[g]'(by rw [List.length_map, List.length_range]; exact hg) = na g from (by rw [List.getElem_map, List.getElem_range])]
      refine cc_X6_163 rfl dX6_nameOf_25 (hI.w.2.2.1 g hg).1 ?_
      refine x_astore_n [(2, .ref (na g)), (0, .ref (x)), (1, .int (nI g))] dX6_nameOf_28 (Nat.le_of_ble_eq_true rfl) rfl ?_
      refine x_aload_n 0 dX6_nameOf_29 rfl ?_
      refine gf_X6_183 rfl dX6_nameOf_30 (hI.w.2.2.1 g hg).1 ?_
      rw [show gI (S) 104 (na g) = if σ.2 7 g = 0 then 1 else 0 from (hI.w.2.2.1 g hg).2.2.2.1]
      refine x_if_eq 40 dX6_nameOf_33 (by decide) (fun c3 => ?_) (fun c3 => ?_)
      · rw [if_pos ht] at c3
        exact absurd c3 (by decide)
      · refine x_null dX6_nameOf_36 ?_
        refine x_goto 41 dX6_nameOf_37 (by decide) ?_
        exact x_areturnN dX6_nameOf_41 rfl (Or.inl ⟨_, rfl⟩) (Nat.le_of_ble_eq_true rfl) (Nat.le_of_ble_eq_true rfl) ⟨rfl, rfl⟩
    · exact absurd (nI_lt hg (by omega)) c2
set_option maxRecDepth 100000 in
theorem c_nameOf {k : KT} {S : HS} {x n c q p : Nat} {ca pa na : Nat → Nat} {σ : MS} (hI : CX k S x n c q p ca pa na σ) {g : Nat} (hg : g < p) (ht : ¬ σ.2 7 g = 0) : Ct k (mt_X6_nameOf (rm 4 0 0)) [.ref x, .int (nI g)] S (fun v T => v = some (.ref (na g)) ∧ S = T) := by
  have hnb := hI.p1
  refine Ct.ofF (by decide +kernel) (Nat.le_of_ble_eq_true rfl) ?_
  refine x_lv [(0, .ref (x)), (1, .int (nI g))] [0, 1] rfl ?_
  refine x_iload_n 1 dX6_nameOf_0 rfl ?_
  refine x_if_lt 15 dX6_nameOf_1 (by decide) (fun c1 => ?_) (fun c1 => ?_)
  · exact absurd c1 (nI_pos (by omega))
  · refine x_iload_n 1 dX6_nameOf_4 rfl ?_
    refine x_aload_n 0 dX6_nameOf_5 rfl ?_
    refine gf_X6_16 rfl dX6_nameOf_6 hI.l.1 ?_
    rw [show gP (S) 227 (x) = some (x + 2) from hI.l.2.1.2.2.1]
    refine ca_X6_60 [] [.int (nI g)] (c_al_size hI.w.1.1) hI.w.1.1 rfl dX6_nameOf_9 rfl rfl ⟨(Nat.le_of_ble_eq_true rfl), (Nat.le_of_ble_eq_true rfl), (Nat.le_of_ble_eq_true rfl), (Nat.le_of_ble_eq_true rfl), (Nat.le_of_ble_eq_true rfl)⟩ (fun v T hq => ?_)
    obtain ⟨rfl, hT⟩ := hq
    obtain rfl := hT.symm
    rw [show gI (S) 2 (x + 2) = nI p from (by rw [hI.w.1.2.1, List.length_map, List.length_range])]
    refine x_icmp_lt 17 dX6_nameOf_12 (by decide) (fun c2 => ?_) (fun c2 => ?_)
    · refine x_aload_n 0 dX6_nameOf_17 rfl ?_
      refine gf_X6_16 rfl dX6_nameOf_18 hI.l.1 ?_
      rw [show gP (S) 227 (x) = some (x + 2) from hI.l.2.1.2.2.1]
      refine x_iload_n 1 dX6_nameOf_21 rfl ?_
      refine ca_X6_116 [.int (nI g)] [] (c_al_get (k := k) hI.w.1 (i := g) (by rw [List.length_map, List.length_range]; exact hg)) hI.w.1.1 rfl dX6_nameOf_22 rfl rfl ⟨(Nat.le_of_ble_eq_true rfl), (Nat.le_of_ble_eq_true rfl), (Nat.le_of_ble_eq_true rfl), (Nat.le_of_ble_eq_true rfl), (Nat.le_of_ble_eq_true rfl)⟩ (fun v T hq => ?_)
      obtain ⟨rfl, hT⟩ := hq
      obtain rfl := hT.symm
      rw [show ((List.range p).map na)[g]'(by rw [List.length_map, List.length_range]; exact hg) = na g from (by rw [List.getElem_map, List.getElem_range])]
      refine cc_X6_163 rfl dX6_nameOf_25 (hI.w.2.2.1 g hg).1 ?_
      refine x_astore_n [(2, .ref (na g)), (0, .ref (x)), (1, .int (nI g))] dX6_nameOf_28 (Nat.le_of_ble_eq_true rfl) rfl ?_
      refine x_aload_n 0 dX6_nameOf_29 rfl ?_
      refine gf_X6_183 rfl dX6_nameOf_30 (hI.w.2.2.1 g hg).1 ?_
      rw [show gI (S) 104 (na g) = if σ.2 7 g = 0 then 1 else 0 from (hI.w.2.2.1 g hg).2.2.2.1]
      refine x_if_eq 40 dX6_nameOf_33 (by decide) (fun c3 => ?_) (fun c3 => ?_)
      · refine x_aload_n 0 dX6_nameOf_40 rfl ?_
        exact x_areturn dX6_nameOf_41 rfl (Or.inl ⟨_, rfl⟩) (Nat.le_of_ble_eq_true rfl) (Nat.le_of_ble_eq_true rfl) ⟨rfl, rfl⟩
      · rw [if_neg ht] at c3
        exact absurd rfl c3
    · exact absurd (nI_lt hg (by omega)) c2
set_option maxRecDepth 100000 in
theorem c_nameOfN {k : KT} {S : HS} {x n c q p : Nat} {ca pa na : Nat → Nat} {σ : MS} (hI : CX k S x n c q p ca pa na σ) {i : Int32} (ho : i < 0 ∨ nI p ≤ i) : Ct k (mt_X6_nameOf (rm 4 0 0)) [.ref x, .int i] S (fun v T => v = some .null ∧ S = T) := by
  refine Ct.ofF (by decide +kernel) (Nat.le_of_ble_eq_true rfl) ?_
  refine x_lv [(0, .ref (x)), (1, .int (i))] [0, 1] rfl ?_
  refine x_iload_n 1 dX6_nameOf_0 rfl ?_
  refine x_if_lt 15 dX6_nameOf_1 (by decide) (fun c1 => ?_) (fun c1 => ?_)
  · refine x_null dX6_nameOf_15 ?_
    exact x_areturnN dX6_nameOf_16 rfl (Or.inl ⟨_, rfl⟩) (Nat.le_of_ble_eq_true rfl) (Nat.le_of_ble_eq_true rfl) ⟨rfl, rfl⟩
  · refine x_iload_n 1 dX6_nameOf_4 rfl ?_
    refine x_aload_n 0 dX6_nameOf_5 rfl ?_
    refine gf_X6_16 rfl dX6_nameOf_6 hI.l.1 ?_
    rw [show gP (S) 227 (x) = some (x + 2) from hI.l.2.1.2.2.1]
    refine ca_X6_60 [] [.int (i)] (c_al_size hI.w.1.1) hI.w.1.1 rfl dX6_nameOf_9 rfl rfl ⟨(Nat.le_of_ble_eq_true rfl), (Nat.le_of_ble_eq_true rfl), (Nat.le_of_ble_eq_true rfl), (Nat.le_of_ble_eq_true rfl), (Nat.le_of_ble_eq_true rfl)⟩ (fun v T hq => ?_)
    obtain ⟨rfl, hT⟩ := hq
    obtain rfl := hT.symm
    rw [show gI (S) 2 (x + 2) = nI p from (by rw [hI.w.1.2.1, List.length_map, List.length_range])]
    refine x_icmp_lt 17 dX6_nameOf_12 (by decide) (fun c2 => ?_) (fun c2 => ?_)
    · exact absurd c2 (Int32.not_lt.mpr (ho.resolve_left c1))
    · refine x_null dX6_nameOf_15 ?_
      exact x_areturnN dX6_nameOf_16 rfl (Or.inl ⟨_, rfl⟩) (Nat.le_of_ble_eq_true rfl) (Nat.le_of_ble_eq_true rfl) ⟨rfl, rfl⟩
