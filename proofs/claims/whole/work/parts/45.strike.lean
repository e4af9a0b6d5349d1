/-! THE RANGES are kept -/
theorem okS.row {σ : MS} (h : okS σ) {a : Nat} {r : Nat → Int32} (h1 : a ≠ 1) (h10 : a = 10 → ∀ j, j < 60 → (-5400) ≤ r j ∧ r j ≤ 5400) (h7 : a = 7 → ∀ j, j < 60 → r j = 0 ∨ r j = 1) (h13 : a = 13 → ∀ j, j < 24 → r j = 0 ∨ r j = 1) (h8 : a = 8 → ∀ j, j < 60 → 0 ≤ (r j).toInt ∧ (r j).toInt < 24) (h2 : a = 2 → ∀ j, j < 30 → 0 ≤ (r j).toInt ∧ (r j).toInt ≤ 359) (h3 : a = 3 → ∀ j, j < 30 → -5400 ≤ (r j).toInt ∧ (r j).toInt ≤ 5400) : okS (fR σ a r) := by
  obtain ⟨⟨a1, a2⟩, b, c, d10, d7, d13, d8, d2, d3⟩ := h
  refine ⟨⟨a1, ?_⟩, b, c, ?_, ?_, ?_, ?_, ?_, ?_⟩
  · show ∀ j, j < 92 → (if 1 = a then r else σ.2 1) j = _
    rw [if_neg (Ne.symm h1)]; exact a2
  · show ∀ j, j < 60 → (-5400) ≤ (if 10 = a then r else σ.2 10) j ∧ (if 10 = a then r else σ.2 10) j ≤ 5400
    by_cases e : 10 = a
    · rw [if_pos e]; exact h10 e.symm
    · rw [if_neg e]; exact d10
  · show ∀ j, j < 60 → (if 7 = a then r else σ.2 7) j = 0 ∨ (if 7 = a then r else σ.2 7) j = 1
    by_cases e : 7 = a
    · rw [if_pos e]; exact h7 e.symm
    · rw [if_neg e]; exact d7
  · show ∀ j, j < 24 → (if 13 = a then r else σ.2 13) j = 0 ∨ (if 13 = a then r else σ.2 13) j = 1
    by_cases e : 13 = a
    · rw [if_pos e]; exact h13 e.symm
    · rw [if_neg e]; exact d13
  · show ∀ j, j < 60 → 0 ≤ ((if 8 = a then r else σ.2 8) j).toInt ∧ ((if 8 = a then r else σ.2 8) j).toInt < 24
    by_cases e : 8 = a
    · rw [if_pos e]; exact h8 e.symm
    · rw [if_neg e]; exact d8
  · show ∀ j, j < 30 → 0 ≤ ((if 2 = a then r else σ.2 2) j).toInt ∧ ((if 2 = a then r else σ.2 2) j).toInt ≤ 359
    by_cases e : 2 = a
    · rw [if_pos e]; exact h2 e.symm
    · rw [if_neg e]; exact d2
  · show ∀ j, j < 30 → -5400 ≤ ((if 3 = a then r else σ.2 3) j).toInt ∧ ((if 3 = a then r else σ.2 3) j).toInt ≤ 5400
    by_cases e : 3 = a
    · rw [if_pos e]; exact h3 e.symm
    · rw [if_neg e]; exact d3
theorem okS.free {σ : MS} (h : okS σ) {a : Nat} {r : Nat → Int32} (hf : a ≠ 1 ∧ a ≠ 2 ∧ a ≠ 3 ∧ a ≠ 7 ∧ a ≠ 8 ∧ a ≠ 10 ∧ a ≠ 13) : okS (fR σ a r) :=
  h.row hf.1 (fun e => absurd e hf.2.2.2.2.2.1) (fun e => absurd e hf.2.2.2.1) (fun e => absurd e hf.2.2.2.2.2.2) (fun e => absurd e hf.2.2.2.2.1) (fun e => absurd e hf.2.1) (fun e => absurd e hf.2.2.1)
theorem upd_all {r : Nat → Int32} {i n : Nat} {v : Int32} {P : Int32 → Prop} (h : ∀ j, j < n → P (r j)) (hv : P v) : ∀ j, j < n → P (upd r i v j) := fun j hj => by
  by_cases e : j = i
  · subst e; rw [pk_us]; exact hv
  · rw [pk_un e]; exact h j hj
theorem okS.u7 {σ : MS} (h : okS σ) {i : Nat} {v : Int32} (hv : v = 0 ∨ v = 1) : okS (fR σ 7 (upd (σ.2 7) i v)) :=
  h.row (by decide) (fun e => absurd e (by decide)) (fun _ => upd_all (P := fun z => z = 0 ∨ z = 1) h.2.2.2.2.1 hv) (fun e => absurd e (by decide)) (fun e => absurd e (by decide)) (fun e => absurd e (by decide)) (fun e => absurd e (by decide))
theorem okS.u13 {σ : MS} (h : okS σ) {i : Nat} {v : Int32} (hv : v = 0 ∨ v = 1) : okS (fR σ 13 (upd (σ.2 13) i v)) :=
  h.row (by decide) (fun e => absurd e (by decide)) (fun e => absurd e (by decide)) (fun _ => upd_all (P := fun z => z = 0 ∨ z = 1) h.2.2.2.2.2.1 hv) (fun e => absurd e (by decide)) (fun e => absurd e (by decide)) (fun e => absurd e (by decide))
theorem okS.u8 {σ : MS} (h : okS σ) {i : Nat} {v : Int32} (hv : 0 ≤ v.toInt ∧ v.toInt < 24) : okS (fR σ 8 (upd (σ.2 8) i v)) :=
  h.row (by decide) (fun e => absurd e (by decide)) (fun e => absurd e (by decide)) (fun e => absurd e (by decide)) (fun _ => upd_all (P := fun z => 0 ≤ z.toInt ∧ z.toInt < 24) h.2.2.2.2.2.2.1 hv) (fun e => absurd e (by decide)) (fun e => absurd e (by decide))
theorem okS.u10 {σ : MS} (h : okS σ) {i : Nat} {v : Int32} (hv : (-5400) ≤ v ∧ v ≤ 5400) : okS (fR σ 10 (upd (σ.2 10) i v)) :=
  h.row (by decide) (fun _ => upd_all (P := fun z => (-5400) ≤ z ∧ z ≤ 5400) h.2.2.2.1 hv) (fun e => absurd e (by decide)) (fun e => absurd e (by decide)) (fun e => absurd e (by decide)) (fun e => absurd e (by decide)) (fun e => absurd e (by decide))
theorem okS.u2 {σ : MS} (h : okS σ) {i : Nat} {v : Int32} (hv : 0 ≤ v.toInt ∧ v.toInt ≤ 359) : okS (fR σ 2 (upd (σ.2 2) i v)) :=
  h.row (by decide) (fun e => absurd e (by decide)) (fun e => absurd e (by decide)) (fun e => absurd e (by decide)) (fun e => absurd e (by decide)) (fun _ => upd_all (P := fun z => 0 ≤ z.toInt ∧ z.toInt ≤ 359) h.2.2.2.2.2.2.2.1 hv) (fun e => absurd e (by decide))
theorem okS.u3 {σ : MS} (h : okS σ) {i : Nat} {v : Int32} (hv : -5400 ≤ v.toInt ∧ v.toInt ≤ 5400) : okS (fR σ 3 (upd (σ.2 3) i v)) :=
  h.row (by decide) (fun e => absurd e (by decide)) (fun e => absurd e (by decide)) (fun e => absurd e (by decide)) (fun e => absurd e (by decide)) (fun e => absurd e (by decide)) (fun _ => upd_all (P := fun z => -5400 ≤ z.toInt ∧ z.toInt ≤ 5400) h.2.2.2.2.2.2.2.2 hv)
theorem okS.fld {σ : MS} (h : okS σ) {j : Nat} {v : Int32} (h1 : j ≠ 1 ∧ j ≠ 2) (h3 : j = 3 → ∃ c : Nat, c ≤ 30 ∧ v = nI c) (h6 : j = 6 → ∃ c : Nat, c ≤ 600 ∧ v = nI c) (h12 : j = 12 → ∃ c : Nat, c ≤ 60 ∧ v = nI c) (h10 : j = 10 → 0 ≤ v ∧ v ≤ 50) (h11 : j = 11 → 0 ≤ v ∧ v ≤ 50) : okS (fI σ j v) := by
  obtain ⟨⟨⟨n, a0, a1, a2⟩, a3⟩, ⟨b3, b6, b12⟩, ⟨c10, c11⟩, d⟩ := h
  refine ⟨⟨⟨n, a0, ?_, ?_⟩, a3⟩, ⟨?_, ?_, ?_⟩, ⟨?_, ?_⟩, d⟩
  · show (if 1 = j then v else σ.1 1) = _
    rw [if_neg (Ne.symm h1.1)]; exact a1
  · show (if 2 = j then v else σ.1 2) = _
    rw [if_neg (Ne.symm h1.2)]; exact a2
  · show ∃ c : Nat, c ≤ 30 ∧ (if 3 = j then v else σ.1 3) = nI c
    by_cases e : 3 = j
    · rw [if_pos e]; exact h3 e.symm
    · rw [if_neg e]; exact b3
  · show ∃ c : Nat, c ≤ 600 ∧ (if 6 = j then v else σ.1 6) = nI c
    by_cases e : 6 = j
    · rw [if_pos e]; exact h6 e.symm
    · rw [if_neg e]; exact b6
  · show ∃ c : Nat, c ≤ 60 ∧ (if 12 = j then v else σ.1 12) = nI c
    by_cases e : 12 = j
    · rw [if_pos e]; exact h12 e.symm
    · rw [if_neg e]; exact b12
  · show 0 ≤ (if 10 = j then v else σ.1 10) ∧ (if 10 = j then v else σ.1 10) ≤ 50
    by_cases e : 10 = j
    · rw [if_pos e]; exact h10 e.symm
    · rw [if_neg e]; exact c10
  · show 0 ≤ (if 11 = j then v else σ.1 11) ∧ (if 11 = j then v else σ.1 11) ≤ 50
    by_cases e : 11 = j
    · rw [if_pos e]; exact h11 e.symm
    · rw [if_neg e]; exact c11
theorem okS_strike {σ : MS} (h : okS σ) (i : Int32) : okS (h_X7_strike σ i).2 := by
  unfold h_X7_strike
  by_cases e : f_X7_isName (σ.1 12) (σ.2 7) i = 0
  · rw [if_pos e]; exact h
  · rw [if_neg e]; exact (h.u7 (Or.inl rfl)).u13 (Or.inr rfl)
/-! STRIKE -/
theorem map_er {f : Nat → Nat} {l : List Nat} {i : Nat} : (l.map f).eraseIdx i = (l.eraseIdx i).map f := by
  rw [List.eraseIdx_eq_take_drop_succ, List.eraseIdx_eq_take_drop_succ, List.map_append, List.map_take, List.map_drop]
theorem hl_st {σ : MS} {p i g2 : Nat} : hl (fR σ 7 (upd (σ.2 7) i 0)) p g2 = (hl σ p g2).filter (fun j => j != i) := by
  unfold hl
  rw [List.filter_filter]
  refine List.filter_congr (fun j _ => ?_)
  show decide (¬ upd (σ.2 7) i 0 j = 0 ∧ σ.2 8 j = nI g2) = ((j != i) && decide (¬ σ.2 7 j = 0 ∧ σ.2 8 j = nI g2))
  by_cases e : j = i
  · subst e; rw [pk_us]; simp
  · rw [pk_un e]; simp [e]
theorem bstH_cg {σ τ : MS} {H : List Nat} (h0 : τ.1 2 = σ.1 2) (h1 : τ.2 1 = σ.2 1) (h9 : τ.2 9 = σ.2 9) (h10 : τ.2 10 = σ.2 10) (h11 : τ.2 11 = σ.2 11) (h12 : τ.2 12 = σ.2 12) : bstH τ H = bstH σ H := by
  have e1 : bOk τ = bOk σ := by unfold bOk; rw [h0, h1, h9, h10, h11]
  have e2 : bAp τ = bAp σ := by unfold bAp; rw [h1, h9, h10, h11]
  have e3 : bCs τ = bCs σ := by unfold bCs; rw [h12]
  unfold bstH
  rw [e1, e2, e3]
section
variable {k : KT} {S T : HS} {x n c q p : Nat} {ca pa na : Nat → Nat} {σ : MS}
theorem CX.strike {i g : Nat} (h : CX k S x n c q p ca pa na σ) (hi : i < p) (hg : g < n) (h8 : σ.2 8 i = nI g) (hA : AL k T (x + 9 + 3 * g) (((hl σ p g).map na).eraseIdx ((hl σ p g).idxOf i))) (hW : LW k T) (hF : LF (x + 9 + 3 * g) (uI S 104 (na i) 1) T) : CX0 k T x n c q p ca pa na (fR σ 7 (upd (σ.2 7) i 0)) ∧ ∀ g2, g2 < n → g2 ≠ g → CBg T x p na (fR σ 7 (upd (σ.2 7) i 0)) g2 := by
  have hn := h.nb
  have hW1 : LW k (uI S 104 (na i) 1) := h.lw
  have hb : gK (uI S 104 (na i) 1) (x + 9 + 3 * g) = 1 := (h.w.2.2.2 g hg).1.1
  have hL1 : CL (uI S 104 (na i) 1) x n := h.l
  have hoth : ∀ g2, g2 < n → g2 ≠ g → hl (fR σ 7 (upd (σ.2 7) i 0)) p g2 = hl σ p g2 := fun g2 h2 ne => by
    rw [hl_st, List.filter_eq_self]
    intro j hj
    have hm := hl_mem.mp hj
    rw [bne_iff_ne]
    intro e
    subst e
    exact ne ((nI_eq (by omega) (by omega)).mp (hm.2.2.symm.trans h8))
  have hown : hl (fR σ 7 (upd (σ.2 7) i 0)) p g = (hl σ p g).eraseIdx ((hl σ p g).idxOf i) := by
    rw [hl_st, ← hl_nodup.erase_eq_filter, List.erase_eq_eraseIdx_of_idxOf rfl]
  have e : ∀ f a, f ≠ 104 → gI (uI S 104 (na i) 1) f a = gI S f a := fun f a hf => by rw [gI_uI, if_neg (fun z => hf z.1)]
  have hM1 : CM (uI S 104 (na i) 1) x n σ := by
    refine ⟨?_, fun g2 h2 => ?_⟩
    · rw [e _ _ (by decide), e _ _ (by decide), e _ _ (by decide), e _ _ (by decide), e _ _ (by decide)]; exact h.m.1
    · rw [e _ _ (by decide), e _ _ (by decide)]; exact h.m.2 g2 h2
  have hN1 : ∀ j, j < p → NMi (uI S 104 (na i) 1) (na j) (fR σ 7 (upd (σ.2 7) i 0)) j n := fun j hj => by
    have hN := h.w.2.2.1 j hj
    unfold NMi
    rw [e 96 _ (by decide), e 97 _ (by decide), e 98 _ (by decide), e 99 _ (by decide), e 100 _ (by decide), e 101 _ (by decide), e 102 _ (by decide)]
    refine ⟨hN.1, hN.2.1, hN.2.2.1, ?_, hN.2.2.2.2⟩
    show gI (uI S 104 (na i) 1) 104 (na j) = if upd (σ.2 7) i 0 j = 0 then 1 else 0
    by_cases ej : j = i
    · subst ej; rw [gI_uI, if_pos ⟨rfl, rfl⟩, pk_us, if_pos rfl]
    · rw [gI_uI, if_neg (fun z => ej (h.w.2.1 j i hj hi z.2)), pk_un ej]; exact hN.2.2.2.1
  refine ⟨⟨h.1, hW, hL1.lf hW1 hF, hM1.lf hF, CP.cg (σ := σ) rfl rfl ⟨(h.cp.1.pI (by decide)).keep hW1 hb hF (by omega), h.cp.2.1, CPe.lf (S := uI S 104 (na i) 1) (CPe.pI (S := S) h.cp.2.2 (by decide) (by decide)) hW1 hF⟩, CQ.cg (σ := σ) rfl rfl rfl ⟨fun j hj => ((h.qq.1 j hj).pI (by decide)).lf hW1 hF, fun g2 h2 => ((h.qq.2 g2 h2).pI (by decide)).keep hW1 hb hF (by omega)⟩, ⟨(h.w.1.pI (by decide)).keep hW1 hb hF (by omega), h.w.2.1, fun j hj => (hN1 j hj).lf hW1 hF, fun g2 h2 => ?_⟩⟩, fun g2 h2 ne => ?_⟩
  · by_cases eg : g2 = g
    · subst eg
      rw [hown, ← map_er]
      exact ⟨hA, Nat.le_trans (List.length_eraseIdx_le _ _) (h.w.2.2.2 g2 h2).2⟩
    · rw [hoth g2 h2 eg]
      exact ⟨((h.w.2.2.2 g2 h2).1.pI (by decide)).keep hW1 hb hF (by omega), (h.w.2.2.2 g2 h2).2⟩
  · have hbst : bst (fR σ 7 (upd (σ.2 7) i 0)) p g2 = bst σ p g2 := by
      unfold bst
      rw [hoth g2 h2 ne]
      exact bstH_cg rfl rfl rfl rfl rfl rfl
    have hB := h.b g2 h2
    unfold CBg
    rw [hbst, hoth g2 h2 ne]
    refine ⟨by rw [hF.2.2.2.1 66 _ (Or.inl (by decide)), e _ _ (by decide)]; exact hB.1, fun j hj => by rw [hF.2.2.2.1 103 _ (Or.inl (by decide)), e _ _ (by decide)]; exact hB.2 j hj⟩
end
set_option maxRecDepth 100000 in
theorem c_takeOut {k : KT} {S : HS} {a b y i : Nat} {l : List Nat} (hK : gK S a = 3) (hP : gP S 65 a = some b) (hA : AL k S b l) (hW : LW k S) (hE : ∀ z ∈ l, okE S z) (hi : i < l.length) (h9 : l.length ≤ 600) (hy : l[i] = y) (hne : ∀ j (h : j < l.length), j < i → l[j] ≠ y) : Ct k (mt_X1_takeOut (rm 4 0 0)) [.ref a, .ref y] S (fun v T => v = none ∧ AL k T b (l.eraseIdx i) ∧ LW k T ∧ LF b S T) := by
  have hloop : ∀ (m j : Nat), j + m = i → X k (mt_X1_takeOut (rm 4 0 0)) (Zm k (mt_X1_takeOut (rm 4 0 0)) (fun v T => v = none ∧ AL k T b (l.eraseIdx i) ∧ LW k T ∧ LF b S T)) 2 [(0, .ref a), (1, .ref y), (2, .int (nI j))] [] S 0 0 := by
    intro m
    induction m with
    | zero =>
      intro j hj
      have hji : j = i := by omega
      subst hji
      refine x_iload_n 2 dX1_takeOut_2 rfl ?_
      refine x_aload_n 0 dX1_takeOut_3 rfl ?_
      refine gf_X1_16 rfl dX1_takeOut_4 hK ?_
      rw [hP]
      refine ca_X1_23 [] [.int (nI j)] (c_al_size hA.1) hA.1 rfl dX1_takeOut_7 rfl rfl ⟨(Nat.le_of_ble_eq_true rfl), (Nat.le_of_ble_eq_true rfl), (Nat.le_of_ble_eq_true rfl), (Nat.le_of_ble_eq_true rfl), (Nat.le_of_ble_eq_true rfl)⟩ (fun v T hq => ?_)
      obtain ⟨rfl, hz9⟩ := hq
      obtain rfl := hz9.symm
      rw [hA.2.1]
      refine x_icmp_ge 41 dX1_takeOut_10 (by decide) (fun c => absurd c (nI_ge (by omega) (by omega))) (fun _ => ?_)
      refine x_aload_n 0 dX1_takeOut_13 rfl ?_
      refine gf_X1_16 rfl dX1_takeOut_14 hK ?_
      rw [hP]
      refine x_iload_n 2 dX1_takeOut_17 rfl ?_
      refine ca_X1_27 [.int (nI j)] [] (c_al_get (k := k) hA (i := j) (by omega)) hA.1 rfl dX1_takeOut_18 rfl rfl ⟨(Nat.le_of_ble_eq_true rfl), (Nat.le_of_ble_eq_true rfl), (Nat.le_of_ble_eq_true rfl), (Nat.le_of_ble_eq_true rfl), (Nat.le_of_ble_eq_true rfl)⟩ (fun v T hq => ?_)
      obtain ⟨rfl, hz9⟩ := hq
      obtain rfl := hz9.symm
      refine x_aload_n 1 dX1_takeOut_21 rfl ?_
      refine x_acmp_ne 35 dX1_takeOut_22 (by decide) (fun c => absurd hy c) (fun _ => ?_)
      refine x_aload_n 0 dX1_takeOut_25 rfl ?_
      refine gf_X1_16 rfl dX1_takeOut_26 hK ?_
      rw [hP]
      refine x_iload_n 2 dX1_takeOut_29 rfl ?_
      refine ca_X1_31 [.int (nI j)] [] (c_al_remove (k := k) hA hW hE (i := j) hi) hA.1 rfl dX1_takeOut_30 rfl rfl ⟨(Nat.le_of_ble_eq_true rfl), (Nat.le_of_ble_eq_true rfl), (Nat.le_of_ble_eq_true rfl), (Nat.le_of_ble_eq_true rfl), (Nat.le_of_ble_eq_true rfl)⟩ (fun v T hq => ?_)
      obtain ⟨rfl, q1, q2, q3⟩ := hq
      refine x_pop dX1_takeOut_33 rfl ?_
      exact x_return dX1_takeOut_34 rfl (Nat.le_of_ble_eq_true rfl) (Nat.le_of_ble_eq_true rfl) ⟨rfl, q1, q2, q3⟩
    | succ m ih =>
      intro j hj
      refine x_iload_n 2 dX1_takeOut_2 rfl ?_
      refine x_aload_n 0 dX1_takeOut_3 rfl ?_
      refine gf_X1_16 rfl dX1_takeOut_4 hK ?_
      rw [hP]
      refine ca_X1_23 [] [.int (nI j)] (c_al_size hA.1) hA.1 rfl dX1_takeOut_7 rfl rfl ⟨(Nat.le_of_ble_eq_true rfl), (Nat.le_of_ble_eq_true rfl), (Nat.le_of_ble_eq_true rfl), (Nat.le_of_ble_eq_true rfl), (Nat.le_of_ble_eq_true rfl)⟩ (fun v T hq => ?_)
      obtain ⟨rfl, hz9⟩ := hq
      obtain rfl := hz9.symm
      rw [hA.2.1]
      refine x_icmp_ge 41 dX1_takeOut_10 (by decide) (fun c => absurd c (nI_ge (by omega) (by omega))) (fun _ => ?_)
      refine x_aload_n 0 dX1_takeOut_13 rfl ?_
      refine gf_X1_16 rfl dX1_takeOut_14 hK ?_
      rw [hP]
      refine x_iload_n 2 dX1_takeOut_17 rfl ?_
      refine ca_X1_27 [.int (nI j)] [] (c_al_get (k := k) hA (i := j) (by omega)) hA.1 rfl dX1_takeOut_18 rfl rfl ⟨(Nat.le_of_ble_eq_true rfl), (Nat.le_of_ble_eq_true rfl), (Nat.le_of_ble_eq_true rfl), (Nat.le_of_ble_eq_true rfl), (Nat.le_of_ble_eq_true rfl)⟩ (fun v T hq => ?_)
      obtain ⟨rfl, hz9⟩ := hq
      obtain rfl := hz9.symm
      refine x_aload_n 1 dX1_takeOut_21 rfl ?_
      refine x_acmp_ne 35 dX1_takeOut_22 (by decide) (fun _ => ?_) (fun c => absurd c (hne j (by omega) (by omega)))
      refine x_iinc 2 (nI j + 1) [(2, .int (nI j + 1)), (0, .ref a), (1, .ref y)] dX1_takeOut_35 rfl rfl (Nat.le_of_ble_eq_true rfl) rfl ?_
      refine x_goto 2 dX1_takeOut_38 (by decide) ?_
      refine x_lv [(0, .ref a), (1, .ref y), (2, .int (nI (j + 1)))] [1, 2, 0] (by rw [← nI_1 j]; rfl) ?_
      exact ih (j + 1) (by omega)
  refine Ct.ofF (by decide +kernel) (Nat.le_of_ble_eq_true rfl) ?_
  refine x_lv [(0, .ref a), (1, .ref y)] [0, 1] rfl ?_
  refine x_iconst 0 dX1_takeOut_0 (by decide) ?_
  refine x_istore_n [(2, .int 0), (0, .ref a), (1, .ref y)] dX1_takeOut_1 (Nat.le_of_ble_eq_true rfl) rfl ?_
  refine x_lv [(0, .ref a), (1, .ref y), (2, .int (nI 0))] [1, 2, 0] rfl ?_
  exact hloop i 0 (by omega)
set_option maxRecDepth 100000 in
theorem c_goreOf2 {k : KT} {S : HS} {x n g y : Nat} (h0 : gK S x = 8) (h1 : gP S 225 x = some (x + 6)) (h2 : gK S (x + 6) = 22) (h3 : gL S (x + 6) = n) (h4 : gQ S (x + 6) g = some y) (hg : g < n) (hnb : n ≤ 24) : Ct k (mt_X6_goreOf (rm 1 0 0)) [.ref x, .int (nI g)] S (fun v T => v = some (.ref y) ∧ S = T) := by
  refine Ct.ofF (by decide +kernel) (Nat.le_of_ble_eq_true rfl) ?_
  refine x_lv [(0, .ref (x)), (1, .int (nI g))] [0, 1] rfl ?_
  refine x_iload_n 1 dX6_goreOf_0 rfl ?_
  refine x_if_lt 22 dX6_goreOf_1 (by decide) (fun c1 => ?_) (fun c1 => ?_)
  · exact absurd c1 (nI_pos (by omega))
  · refine x_iload_n 1 dX6_goreOf_4 rfl ?_
    refine x_aload_n 0 dX6_goreOf_5 rfl ?_
    refine gf_X6_40 rfl dX6_goreOf_6 h0 ?_
    rw [show gP (S) 225 (x) = some (x + 6) from h1]
    refine x_alen dX6_goreOf_9 (Or.inr (Or.inl h2)) ?_
    rw [show gL (S) (x + 6) = n from h3]
    refine x_icmp_ge 22 dX6_goreOf_10 (by decide) (fun c2 => ?_) (fun c2 => ?_)
    · exact absurd c2 (nI_ge hg (by omega))
    · refine x_aload_n 0 dX6_goreOf_13 rfl ?_
      refine gf_X6_40 rfl dX6_goreOf_14 h0 ?_
      rw [show gP (S) 225 (x) = some (x + 6) from h1]
      refine x_iload_n 1 dX6_goreOf_17 rfl ?_
      refine x_aaload22 dX6_goreOf_18 h2 (by rw [show gL (S) (x + 6) = n from h3]; exact (vp_in_nI hg (by omega))) ?_
      rw [nI_clamp (by omega), h4]
      refine x_goto 23 dX6_goreOf_19 (by decide) ?_
      exact x_areturn dX6_goreOf_23 rfl (Or.inl ⟨_, rfl⟩) (Nat.le_of_ble_eq_true rfl) (Nat.le_of_ble_eq_true rfl) ⟨rfl, rfl⟩
set_option maxRecDepth 100000 in
theorem c_X6_strike {k : KT} {S : HS} {x n c q p : Nat} {ca pa na : Nat → Nat} {σ : MS} (hI : CX k S x n c q p ca pa na σ) (hO : okS σ) (i : Int32) : Ct k (mt_X6_strike (rm 14 0 0)) [.ref x, .int i] S (fun v T => v = some (.int (h_X7_strike σ i).1) ∧ CI k T x (h_X7_strike σ i).2 ∧ FX x S T) := by
  have hp := hI.p1
  have hnb := hI.nb
  rcases name_cases hp.1 (σ.2 7) i with ⟨e0, ho⟩ | ⟨g, hg, rfl, ei⟩
  · rw [← hp.2] at e0
    refine Ct.ofF (by decide +kernel) (Nat.le_of_ble_eq_true rfl) ?_
    refine x_lv [(0, .ref (x)), (1, .int (i))] [0, 1] rfl ?_
    refine x_aload_n 0 dX6_strike_0 rfl ?_
    refine x_iload_n 1 dX6_strike_1 rfl ?_
    refine ca_X6_179 [.int (i)] [] (c_nameOfN hI ho) hI.l.1 rfl dX6_strike_2 rfl rfl ⟨(Nat.le_of_ble_eq_true rfl), (Nat.le_of_ble_eq_true rfl), (Nat.le_of_ble_eq_true rfl), (Nat.le_of_ble_eq_true rfl), (Nat.le_of_ble_eq_true rfl)⟩ (fun v T hq => ?_)
    obtain ⟨rfl, rfl⟩ := hq
    refine x_astore_nN [(2, .null), (0, .ref (x)), (1, .int (i))] dX6_strike_5 (Nat.le_of_ble_eq_true rfl) rfl ?_
    refine x_aload_nN 0 dX6_strike_6 rfl ?_
    refine x_ifnonnullN dX6_strike_7 ?_
    refine x_iconst 0 dX6_strike_10 (by decide) ?_
    exact x_zreturn dX6_strike_11 rfl (by decide) (Nat.le_of_ble_eq_true rfl) (Nat.le_of_ble_eq_true rfl) ⟨by rw [h_X7_strike, if_pos e0], by rw [h_X7_strike, if_pos e0]; exact ⟨n, c, q, p, ca, pa, na, hI⟩, FX.rf⟩
  · rw [← hp.2] at ei
    by_cases ht : σ.2 7 g = 0
    · have e0 := ei.mpr ht
      refine Ct.ofF (by decide +kernel) (Nat.le_of_ble_eq_true rfl) ?_
      refine x_lv [(0, .ref (x)), (1, .int (nI g))] [0, 1] rfl ?_
      refine x_aload_n 0 dX6_strike_0 rfl ?_
      refine x_iload_n 1 dX6_strike_1 rfl ?_
      refine ca_X6_179 [.int (nI g)] [] (c_nameOfS hI hg ht) hI.l.1 rfl dX6_strike_2 rfl rfl ⟨(Nat.le_of_ble_eq_true rfl), (Nat.le_of_ble_eq_true rfl), (Nat.le_of_ble_eq_true rfl), (Nat.le_of_ble_eq_true rfl), (Nat.le_of_ble_eq_true rfl)⟩ (fun v T hq => ?_)
      obtain ⟨rfl, rfl⟩ := hq
      refine x_astore_nN [(2, .null), (0, .ref (x)), (1, .int (nI g))] dX6_strike_5 (Nat.le_of_ble_eq_true rfl) rfl ?_
      refine x_aload_nN 0 dX6_strike_6 rfl ?_
      refine x_ifnonnullN dX6_strike_7 ?_
      refine x_iconst 0 dX6_strike_10 (by decide) ?_
      exact x_zreturn dX6_strike_11 rfl (by decide) (Nat.le_of_ble_eq_true rfl) (Nat.le_of_ble_eq_true rfl) ⟨by rw [h_X7_strike, if_pos e0], by rw [h_X7_strike, if_pos e0]; exact ⟨n, c, q, p, ca, pa, na, hI⟩, FX.rf⟩
    · have e0 : ¬ f_X7_isName (σ.1 12) (σ.2 7) (nI g) = 0 := fun z => ht (ei.mp z)
      obtain ⟨r, hr, er⟩ := (hI.w.2.2.1 g hg).2.2.2.2.1
      refine Ct.ofF (by decide +kernel) (Nat.le_of_ble_eq_true rfl) ?_
      refine x_lv [(0, .ref (x)), (1, .int (nI g))] [0, 1] rfl ?_
      refine x_aload_n 0 dX6_strike_0 rfl ?_
      refine x_iload_n 1 dX6_strike_1 rfl ?_
      refine ca_X6_179 [.int (nI g)] [] (c_nameOf hI hg ht) hI.l.1 rfl dX6_strike_2 rfl rfl ⟨(Nat.le_of_ble_eq_true rfl), (Nat.le_of_ble_eq_true rfl), (Nat.le_of_ble_eq_true rfl), (Nat.le_of_ble_eq_true rfl), (Nat.le_of_ble_eq_true rfl)⟩ (fun v T hq => ?_)
      obtain ⟨rfl, rfl⟩ := hq
      refine x_astore_n [(2, .ref (na g)), (0, .ref (x)), (1, .int (nI g))] dX6_strike_5 (Nat.le_of_ble_eq_true rfl) rfl ?_
      refine x_aload_n 0 dX6_strike_6 rfl ?_
      refine x_ifnonnull 12 dX6_strike_7 (by decide) ?_
      refine x_aload_n 0 dX6_strike_12 rfl ?_
      refine x_iconst 1 dX6_strike_13 (by decide) ?_
      refine pf_X6_183 rfl dX6_strike_14 (by decide) (hI.w.2.2.1 g hg).1 ?_
      obtain ⟨S1, eS1⟩ : ∃ s9 : HS, s9 = uI S 104 (na g) 1 := ⟨_, rfl⟩
      rw [← eS1]
      have hF1 : FX x S S1 := by rw [eS1]; exact FX.pI (by decide)
      have hK1 : gK S1 (na g) = 4 := by rw [eS1]; exact (hI.w.2.2.1 g hg).1
      have h96 : gI S1 96 (na g) = nI r := by rw [eS1, gI_uI, if_neg (fun z => absurd z.1 (by decide)), (hI.w.2.2.1 g hg).2.1.1]; exact er
      have hx8 : gK S1 x = 8 := by rw [eS1]; exact hI.l.1
      have hx6 : gP S1 225 x = some (x + 6) ∧ gK S1 (x + 6) = 22 ∧ gL S1 (x + 6) = n ∧ gQ S1 (x + 6) r = some (x + 7 + 3 * r) := by rw [eS1]; exact ⟨hI.l.2.1.1, hI.l.2.2.2.2.1.1, hI.l.2.2.2.2.1.2, (hI.l.2.2.2.2.2 r hr).1⟩
      have hgr : gK S1 (x + 7 + 3 * r) = 3 ∧ gP S1 65 (x + 7 + 3 * r) = some (x + 9 + 3 * r) := by rw [eS1]; exact ⟨(hI.l.2.2.2.2.2 r hr).2.1, (hI.l.2.2.2.2.2 r hr).2.2.2⟩
      have hA1 : AL k S1 (x + 9 + 3 * r) ((hl σ p r).map na) := by rw [eS1]; exact (hI.w.2.2.2 r hr).1.pI (by decide)
      have hW1 : LW k S1 := by rw [eS1]; exact hI.lw
      have hE1 : ∀ z ∈ (hl σ p r).map na, okE S1 z := fun z hz => by
        obtain ⟨t, ht2, rfl⟩ := List.mem_map.mp hz
        rw [eS1]
        exact Or.inr (Or.inl (hI.w.2.2.1 t (hl_mem.mp ht2).1).1)
      refine x_aload_n 1 dX6_strike_17 rfl ?_
      refine x_aload_n 0 dX6_strike_18 rfl ?_
      refine gf_X6_186 rfl dX6_strike_19 hK1 ?_
      rw [show gI (S1) 96 (na g) = nI r from h96]
      refine ca_X6_109 [.int (nI r)] [] (c_goreOf2 hx8 hx6.1 hx6.2.1 hx6.2.2.1 hx6.2.2.2 hr hnb.2) hx8 rfl dX6_strike_22 rfl rfl ⟨(Nat.le_of_ble_eq_true rfl), (Nat.le_of_ble_eq_true rfl), (Nat.le_of_ble_eq_true rfl), (Nat.le_of_ble_eq_true rfl), (Nat.le_of_ble_eq_true rfl)⟩ (fun v T hq => ?_)
      obtain ⟨rfl, rfl⟩ := hq
      refine x_astore_n [(3, .ref (x + 7 + 3 * r)), (2, .ref (na g)), (0, .ref (x)), (1, .int (nI g))] dX6_strike_25 (Nat.le_of_ble_eq_true rfl) rfl ?_
      refine x_aload_n 0 dX6_strike_26 rfl ?_
      refine x_ifnull dX6_strike_27 ?_
      refine x_aload_n 0 dX6_strike_30 rfl ?_
      refine x_at 31 rfl ?_
      refine x_aload_n 1 dX6_strike_31 rfl ?_
      have hlen := (hI.w.2.2.2 r hr).2
      have hmem : g ∈ hl σ p r := hl_mem.mpr ⟨hg, ht, er⟩
      have hix := List.idxOf_lt_length_of_mem hmem
      refine ca_X6_189 [.ref (na g)] [] (c_takeOut (k := k) hgr.1 hgr.2 hA1 hW1 hE1 (i := (hl σ p r).idxOf g) (by rw [List.length_map]; exact hix) (by rw [List.length_map]; omega) (by rw [List.getElem_map, List.getElem_idxOf]) (fun j h hj => ?_)) hgr.1 rfl dX6_strike_32 rfl rfl ⟨(Nat.le_of_ble_eq_true rfl), (Nat.le_of_ble_eq_true rfl), (Nat.le_of_ble_eq_true rfl), (Nat.le_of_ble_eq_true rfl), (Nat.le_of_ble_eq_true rfl)⟩ (fun v T hq => ?_)
      · rw [List.length_map] at h
        rw [List.getElem_map]
        intro z
        have e1 := hI.w.2.1 _ _ (hl_mem.mp (List.getElem_mem h)).1 hg z
        have e2 := getD_inj (hl_nodup (σ := σ) (p := p) (g := r)) h hix (by rw [List.getD_eq_getElem?_getD, List.getD_eq_getElem?_getD, List.getElem?_eq_getElem h, List.getElem?_eq_getElem hix, List.getElem_idxOf, e1])
        omega
      obtain ⟨rfl, q1, q2, q3⟩ := hq
      rw [eS1] at q3
      obtain ⟨hC0, hCB⟩ := hI.strike hg hr er q1 q2 q3
      rw [← eS1] at q3
      refine x_aload_n 2 dX6_strike_35 rfl ?_
      refine x_aload_n 0 dX6_strike_36 rfl ?_
      have hO2 := okS_strike hO (nI g)
      have hst : h_X7_strike σ (nI g) = (1, fR (fR σ 7 (upd (σ.2 7) g 0)) 13 (upd (σ.2 13) r 1)) := by rw [h_X7_strike, if_neg e0, nI_clamp (by omega), er, nI_clamp (by omega)]
      rw [hst] at hO2 ⊢
      refine ca_X6_175 [.ref (x + 7 + 3 * r)] [] (c_changeNames hC0 hr hO2 hCB) hC0.2.2.1.1 rfl dX6_strike_37 rfl rfl ⟨(Nat.le_of_ble_eq_true rfl), (Nat.le_of_ble_eq_true rfl), (Nat.le_of_ble_eq_true rfl), (Nat.le_of_ble_eq_true rfl), (Nat.le_of_ble_eq_true rfl)⟩ (fun v U hq => ?_)
      obtain ⟨rfl, u1, u2⟩ := hq
      refine x_iconst 1 dX6_strike_40 (by decide) ?_
      exact x_zreturn dX6_strike_41 rfl (by decide) (Nat.le_of_ble_eq_true rfl) (Nat.le_of_ble_eq_true rfl) ⟨rfl, ⟨n, c, q, p, ca, pa, na, u1⟩, FX.tr hF1 (FX.tr (FX.lf q3) u2)⟩
