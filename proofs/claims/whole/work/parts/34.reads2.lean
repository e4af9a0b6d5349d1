theorem cnt_pieces {σ : MS} {g : Nat} : ∀ (m j : Nat) (n : Int32), j + m < 2 ^ 31 → lp_X7_pieces σ (nI g) m j n = n + nI ((List.range' j m).filter (fun i => decide (σ.2 4 i = nI g))).length := by
  intro m
  induction m with
  | zero => intro j n _; rw [lp_X7_pieces]; simp [nI_0]
  | succ m ih =>
    intro j n h
    rw [lp_X7_pieces, List.range'_succ, List.filter_cons, nI_clamp (by omega)]
    by_cases c : σ.2 4 j = nI g
    · rw [if_pos c, ih (j + 1) _ (by omega), if_pos (by simpa using c), List.length_cons, ← nI_1, Int32.add_assoc, Int32.add_comm 1]
    · rw [if_neg c, ih (j + 1) _ (by omega), if_neg (by simpa using c), Int32.add_zero]
theorem pieces_eq {σ : MS} {q g : Nat} (hq : q ≤ 600) (h6 : σ.1 6 = nI q) (hg : ¬ f_X7_isGore (σ.1 1) (nI g) = 0) : h_X7_pieces σ (nI g) = nI (pl σ q g).length := by
  rw [h_X7_pieces, if_neg hg, h6, nI_clamp (by omega), cnt_pieces _ _ _ (by omega), pl, List.range_eq_range', Int32.zero_add]
theorem piece_in {σ : MS} {g i : Nat} {wh : Int32} (hi : i < 2 ^ 31) : ∀ (m j lf : Nat), j + m < 2 ^ 31 → lf < 2 ^ 31 → lp_X7_piece σ (nI g) (nI i) wh m j (nI lf) = (((List.range' j m).filter (fun i => decide (σ.2 4 i = nI g)))[lf]?.elim (if wh = 0 then (-1) else (-2147483648)) (fun t => if wh = 0 then σ.2 5 t else σ.2 6 (4 * nI t + wh - 1).toNatClampNeg)) := by
  intro m
  induction m with
  | zero => intro j lf _ _; rw [lp_X7_piece]; simp
  | succ m ih =>
    intro j lf h hl
    rw [lp_X7_piece, List.range'_succ, List.filter_cons, if_neg (nI_pos hi), nI_clamp (by omega)]
    by_cases c : σ.2 4 j = nI g
    · rw [if_pos c, if_pos (show decide (σ.2 4 j = nI g) = true from decide_eq_true c)]
      cases lf with
      | zero => rw [if_pos (show nI 0 = 0 from rfl)]; simp
      | succ lf =>
        rw [if_neg (nI_ne0 (by omega) hl), List.getElem?_cons_succ]
        rw [show nI (lf + 1) + -1 = nI lf by rw [← Int32.sub_eq_add_neg, nI_pred]]
        exact ih (j + 1) lf (by omega) (by omega)
    · rw [if_neg c, if_neg (show ¬ decide (σ.2 4 j = nI g) = true from fun z => c (of_decide_eq_true z))]
      exact ih (j + 1) lf (by omega) hl
theorem piece_no {σ : MS} {i g wh : Int32} : ∀ (m j : Nat) (lf : Int32), j + m < 2 ^ 31 → (∀ t, j ≤ t → t < j + m → ¬ σ.2 4 t = g) → lp_X7_piece σ g i wh m j lf = if wh = 0 then (-1) else (-2147483648) := by
  intro m
  induction m with
  | zero => intro j lf _ _; rw [lp_X7_piece]
  | succ m ih =>
    intro j lf h hn
    rw [lp_X7_piece, nI_clamp (by omega), if_neg (hn j (by omega) (by omega))]
    by_cases c : i < 0
    · rw [if_pos c]
    · rw [if_neg c]; exact ih (j + 1) lf (by omega) (fun t h1 h2 => hn t (by omega) (by omega))
theorem piece_neg {σ : MS} {i g wh : Int32} (hi : i < 0) : ∀ (m j : Nat) (lf : Int32), lp_X7_piece σ g i wh m j lf = if wh = 0 then (-1) else (-2147483648) := by
  intro m
  cases m with
  | zero => intro j lf; rw [lp_X7_piece]
  | succ m => intro j lf; rw [lp_X7_piece, if_pos hi]
set_option maxRecDepth 100000 in
theorem c_X6_pieces {k : KT} {S : HS} {x n c q p : Nat} {ca pa na : Nat → Nat} {σ : MS} (hI : CX k S x n c q p ca pa na σ) (i : Int32) : Ct k (mt_X6_pieces (rm 2 0 0)) [.ref x, .int i] S (Pu (h_X7_pieces σ i) S) := by
  have hnb := hI.nb
  rcases gore_cases hnb.2 (by omega) i with ⟨e0, ho⟩ | ⟨g, hg, rfl, e1⟩
  · refine Ct.ofF (by decide +kernel) (Nat.le_of_ble_eq_true rfl) ?_
    refine x_lv [(0, .ref (x)), (1, .int (i))] [0, 1] rfl ?_
    refine x_aload_n 0 dX6_pieces_0 rfl ?_
    refine x_iload_n 1 dX6_pieces_1 rfl ?_
    refine ca_X6_109 [.int (i)] [] (c_goreOfN hI ho) hI.l.1 rfl dX6_pieces_2 rfl rfl ⟨(Nat.le_of_ble_eq_true rfl), (Nat.le_of_ble_eq_true rfl), (Nat.le_of_ble_eq_true rfl), (Nat.le_of_ble_eq_true rfl), (Nat.le_of_ble_eq_true rfl)⟩ (fun v T hq => ?_)
    obtain ⟨rfl, rfl⟩ := hq
    refine x_astore_nN [(2, .null), (0, .ref (x)), (1, .int (i))] dX6_pieces_5 (Nat.le_of_ble_eq_true rfl) rfl ?_
    refine x_aload_nN 0 dX6_pieces_6 rfl ?_
    refine x_ifnonnullN dX6_pieces_7 ?_
    refine x_iconst (-1) dX6_pieces_10 (by decide) ?_
    refine x_goto 21 dX6_pieces_11 (by decide) ?_
    exact x_ireturn dX6_pieces_21 rfl (Nat.le_of_ble_eq_true rfl) (Nat.le_of_ble_eq_true rfl) ⟨by rw [h_X7_pieces, hI.n1, if_pos e0], rfl⟩
  · refine Ct.ofF (by decide +kernel) (Nat.le_of_ble_eq_true rfl) ?_
    refine x_lv [(0, .ref (x)), (1, .int (nI g))] [0, 1] rfl ?_
    refine x_aload_n 0 dX6_pieces_0 rfl ?_
    refine x_iload_n 1 dX6_pieces_1 rfl ?_
    refine ca_X6_109 [.int (nI g)] [] (c_goreOf hI hg) hI.l.1 rfl dX6_pieces_2 rfl rfl ⟨(Nat.le_of_ble_eq_true rfl), (Nat.le_of_ble_eq_true rfl), (Nat.le_of_ble_eq_true rfl), (Nat.le_of_ble_eq_true rfl), (Nat.le_of_ble_eq_true rfl)⟩ (fun v T hq => ?_)
    obtain ⟨rfl, rfl⟩ := hq
    refine x_astore_n [(2, .ref (x + 7 + 3 * g)), (0, .ref (x)), (1, .int (nI g))] dX6_pieces_5 (Nat.le_of_ble_eq_true rfl) rfl ?_
    refine x_aload_n 0 dX6_pieces_6 rfl ?_
    refine x_ifnonnull 14 dX6_pieces_7 (by decide) ?_
    refine x_aload_n 0 dX6_pieces_14 rfl ?_
    refine gf_X6_113 rfl dX6_pieces_15 (hI.l.2.2.2.2.2 g hg).2.1 ?_
    rw [show gP (S) 64 (x + 7 + 3 * g) = some (x + 8 + 3 * g) from (hI.l.2.2.2.2.2 g hg).2.2.1]
    refine ca_X6_60 [] [] (c_al_size (hI.qq.2 g hg).1) (hI.qq.2 g hg).1 rfl dX6_pieces_18 rfl rfl ⟨(Nat.le_of_ble_eq_true rfl), (Nat.le_of_ble_eq_true rfl), (Nat.le_of_ble_eq_true rfl), (Nat.le_of_ble_eq_true rfl), (Nat.le_of_ble_eq_true rfl)⟩ (fun v T hq => ?_)
    obtain ⟨rfl, hT⟩ := hq
    obtain rfl := hT.symm
    rw [show gI (S) 2 (x + 8 + 3 * g) = nI (pl σ q g).length from (by rw [(hI.qq.2 g hg).2.1, List.length_map])]
    exact x_ireturn dX6_pieces_21 rfl (Nat.le_of_ble_eq_true rfl) (Nat.le_of_ble_eq_true rfl) ⟨by rw [pieces_eq hI.q1.1 hI.q1.2 (by rw [hI.n1]; exact e1)], rfl⟩
set_option maxRecDepth 100000 in
theorem c_X6_fresh {k : KT} {S : HS} {x n c q p : Nat} {ca pa na : Nat → Nat} {σ : MS} (hI : CX k S x n c q p ca pa na σ) (i : Int32) : Ct k (mt_X6_fresh (rm 2 0 0)) [.ref x, .int i] S (Pu (f_X7_fresh (σ.1 1) (σ.2 13) i) S) := by
  have hnb := hI.nb
  rcases gore_cases hnb.2 (by omega) i with ⟨e0, ho⟩ | ⟨g, hg, rfl, e1⟩
  · refine Ct.ofF (by decide +kernel) (Nat.le_of_ble_eq_true rfl) ?_
    refine x_lv [(0, .ref (x)), (1, .int (i))] [0, 1] rfl ?_
    refine x_aload_n 0 dX6_fresh_0 rfl ?_
    refine x_iload_n 1 dX6_fresh_1 rfl ?_
    refine ca_X6_109 [.int (i)] [] (c_goreOfN hI ho) hI.l.1 rfl dX6_fresh_2 rfl rfl ⟨(Nat.le_of_ble_eq_true rfl), (Nat.le_of_ble_eq_true rfl), (Nat.le_of_ble_eq_true rfl), (Nat.le_of_ble_eq_true rfl), (Nat.le_of_ble_eq_true rfl)⟩ (fun v T hq => ?_)
    obtain ⟨rfl, rfl⟩ := hq
    refine x_astore_nN [(2, .null), (0, .ref (x)), (1, .int (i))] dX6_fresh_5 (Nat.le_of_ble_eq_true rfl) rfl ?_
    refine x_aload_nN 0 dX6_fresh_6 rfl ?_
    refine x_ifnullN 21 dX6_fresh_7 (by decide) ?_
    refine x_iconst 0 dX6_fresh_21 (by decide) ?_
    exact x_zreturn dX6_fresh_22 rfl (by decide) (Nat.le_of_ble_eq_true rfl) (Nat.le_of_ble_eq_true rfl) ⟨by rw [f_X7_fresh, hI.n1, if_pos e0], rfl⟩
  · refine Ct.ofF (by decide +kernel) (Nat.le_of_ble_eq_true rfl) ?_
    refine x_lv [(0, .ref (x)), (1, .int (nI g))] [0, 1] rfl ?_
    refine x_aload_n 0 dX6_fresh_0 rfl ?_
    refine x_iload_n 1 dX6_fresh_1 rfl ?_
    refine ca_X6_109 [.int (nI g)] [] (c_goreOf hI hg) hI.l.1 rfl dX6_fresh_2 rfl rfl ⟨(Nat.le_of_ble_eq_true rfl), (Nat.le_of_ble_eq_true rfl), (Nat.le_of_ble_eq_true rfl), (Nat.le_of_ble_eq_true rfl), (Nat.le_of_ble_eq_true rfl)⟩ (fun v T hq => ?_)
    obtain ⟨rfl, rfl⟩ := hq
    refine x_astore_n [(2, .ref (x + 7 + 3 * g)), (0, .ref (x)), (1, .int (nI g))] dX6_fresh_5 (Nat.le_of_ble_eq_true rfl) rfl ?_
    refine x_aload_n 0 dX6_fresh_6 rfl ?_
    refine x_ifnull dX6_fresh_7 ?_
    refine x_aload_n 0 dX6_fresh_10 rfl ?_
    refine gf_X6_146 rfl dX6_fresh_11 (hI.l.2.2.2.2.2 g hg).2.1 ?_
    rw [show gI (S) 67 (x + 7 + 3 * g) = σ.2 13 g from (hI.m.2 g hg).1]
    refine x_if_eq 21 dX6_fresh_14 (by decide) (fun c1 => ?_) (fun c1 => ?_)
    · refine x_iconst 0 dX6_fresh_21 (by decide) ?_
      exact x_zreturn dX6_fresh_22 rfl (by decide) (Nat.le_of_ble_eq_true rfl) (Nat.le_of_ble_eq_true rfl) ⟨by rw [f_X7_fresh, hI.n1, if_neg e1, nI_clamp (by omega), if_pos c1], rfl⟩
    · refine x_iconst 1 dX6_fresh_17 (by decide) ?_
      refine x_goto 22 dX6_fresh_18 (by decide) ?_
      exact x_zreturn dX6_fresh_22 rfl (by decide) (Nat.le_of_ble_eq_true rfl) (Nat.le_of_ble_eq_true rfl) ⟨by rw [f_X7_fresh, hI.n1, if_neg e1, nI_clamp (by omega), if_neg c1], rfl⟩
set_option maxRecDepth 100000 in
theorem c_X6_printed {k : KT} {S : HS} {x n c q p : Nat} {ca pa na : Nat → Nat} {σ : MS} (hI : CX k S x n c q p ca pa na σ) (i : Int32) : Ct k (mt_X6_printed (rm 2 0 0)) [.ref x, .int i] S (Pu (f_X7_printed (σ.1 1) (σ.2 14) i) S) := by
  have hnb := hI.nb
  rcases gore_cases hnb.2 (by omega) i with ⟨e0, ho⟩ | ⟨g, hg, rfl, e1⟩
  · refine Ct.ofF (by decide +kernel) (Nat.le_of_ble_eq_true rfl) ?_
    refine x_lv [(0, .ref (x)), (1, .int (i))] [0, 1] rfl ?_
    refine x_aload_n 0 dX6_printed_0 rfl ?_
    refine x_iload_n 1 dX6_printed_1 rfl ?_
    refine ca_X6_109 [.int (i)] [] (c_goreOfN hI ho) hI.l.1 rfl dX6_printed_2 rfl rfl ⟨(Nat.le_of_ble_eq_true rfl), (Nat.le_of_ble_eq_true rfl), (Nat.le_of_ble_eq_true rfl), (Nat.le_of_ble_eq_true rfl), (Nat.le_of_ble_eq_true rfl)⟩ (fun v T hq => ?_)
    obtain ⟨rfl, rfl⟩ := hq
    refine x_astore_nN [(2, .null), (0, .ref (x)), (1, .int (i))] dX6_printed_5 (Nat.le_of_ble_eq_true rfl) rfl ?_
    refine x_aload_nN 0 dX6_printed_6 rfl ?_
    refine x_ifnonnullN dX6_printed_7 ?_
    refine x_iconst (-1) dX6_printed_10 (by decide) ?_
    refine x_goto 18 dX6_printed_11 (by decide) ?_
    exact x_ireturn dX6_printed_18 rfl (Nat.le_of_ble_eq_true rfl) (Nat.le_of_ble_eq_true rfl) ⟨by rw [f_X7_printed, hI.n1, if_pos e0], rfl⟩
  · refine Ct.ofF (by decide +kernel) (Nat.le_of_ble_eq_true rfl) ?_
    refine x_lv [(0, .ref (x)), (1, .int (nI g))] [0, 1] rfl ?_
    refine x_aload_n 0 dX6_printed_0 rfl ?_
    refine x_iload_n 1 dX6_printed_1 rfl ?_
    refine ca_X6_109 [.int (nI g)] [] (c_goreOf hI hg) hI.l.1 rfl dX6_printed_2 rfl rfl ⟨(Nat.le_of_ble_eq_true rfl), (Nat.le_of_ble_eq_true rfl), (Nat.le_of_ble_eq_true rfl), (Nat.le_of_ble_eq_true rfl), (Nat.le_of_ble_eq_true rfl)⟩ (fun v T hq => ?_)
    obtain ⟨rfl, rfl⟩ := hq
    refine x_astore_n [(2, .ref (x + 7 + 3 * g)), (0, .ref (x)), (1, .int (nI g))] dX6_printed_5 (Nat.le_of_ble_eq_true rfl) rfl ?_
    refine x_aload_n 0 dX6_printed_6 rfl ?_
    refine x_ifnonnull 14 dX6_printed_7 (by decide) ?_
    refine x_aload_n 0 dX6_printed_14 rfl ?_
    refine gf_X6_217 rfl dX6_printed_15 (hI.l.2.2.2.2.2 g hg).2.1 ?_
    rw [show gI (S) 68 (x + 7 + 3 * g) = σ.2 14 g from (hI.m.2 g hg).2]
    exact x_ireturn dX6_printed_18 rfl (Nat.le_of_ble_eq_true rfl) (Nat.le_of_ble_eq_true rfl) ⟨by rw [f_X7_printed, hI.n1, if_neg e1, nI_clamp (by omega)], rfl⟩
def costR (σ : MS) (p : Nat) (g : Int32) : Int32 := if f_X7_isGore (σ.1 1) g = 0 then (-1) else nI (bst σ p g.toNatClampNeg).1
set_option maxRecDepth 100000 in
theorem c_X6_cost {k : KT} {S : HS} {x n c q p : Nat} {ca pa na : Nat → Nat} {σ : MS} (hI : CX k S x n c q p ca pa na σ) (i : Int32) : Ct k (mt_X6_cost (rm 2 0 0)) [.ref x, .int i] S (Pu (costR σ p i) S) := by
  have hnb := hI.nb
  rcases gore_cases hnb.2 (by omega) i with ⟨e0, ho⟩ | ⟨g, hg, rfl, e1⟩
  · refine Ct.ofF (by decide +kernel) (Nat.le_of_ble_eq_true rfl) ?_
    refine x_lv [(0, .ref (x)), (1, .int (i))] [0, 1] rfl ?_
    refine x_aload_n 0 dX6_cost_0 rfl ?_
    refine x_iload_n 1 dX6_cost_1 rfl ?_
    refine ca_X6_109 [.int (i)] [] (c_goreOfN hI ho) hI.l.1 rfl dX6_cost_2 rfl rfl ⟨(Nat.le_of_ble_eq_true rfl), (Nat.le_of_ble_eq_true rfl), (Nat.le_of_ble_eq_true rfl), (Nat.le_of_ble_eq_true rfl), (Nat.le_of_ble_eq_true rfl)⟩ (fun v T hq => ?_)
    obtain ⟨rfl, rfl⟩ := hq
    refine x_astore_nN [(2, .null), (0, .ref (x)), (1, .int (i))] dX6_cost_5 (Nat.le_of_ble_eq_true rfl) rfl ?_
    refine x_aload_nN 0 dX6_cost_6 rfl ?_
    refine x_ifnonnullN dX6_cost_7 ?_
    refine x_iconst (-1) dX6_cost_10 (by decide) ?_
    refine x_goto 18 dX6_cost_11 (by decide) ?_
    exact x_ireturn dX6_cost_18 rfl (Nat.le_of_ble_eq_true rfl) (Nat.le_of_ble_eq_true rfl) ⟨by rw [costR, hI.n1, if_pos e0], rfl⟩
  · refine Ct.ofF (by decide +kernel) (Nat.le_of_ble_eq_true rfl) ?_
    refine x_lv [(0, .ref (x)), (1, .int (nI g))] [0, 1] rfl ?_
    refine x_aload_n 0 dX6_cost_0 rfl ?_
    refine x_iload_n 1 dX6_cost_1 rfl ?_
    refine ca_X6_109 [.int (nI g)] [] (c_goreOf hI hg) hI.l.1 rfl dX6_cost_2 rfl rfl ⟨(Nat.le_of_ble_eq_true rfl), (Nat.le_of_ble_eq_true rfl), (Nat.le_of_ble_eq_true rfl), (Nat.le_of_ble_eq_true rfl), (Nat.le_of_ble_eq_true rfl)⟩ (fun v T hq => ?_)
    obtain ⟨rfl, rfl⟩ := hq
    refine x_astore_n [(2, .ref (x + 7 + 3 * g)), (0, .ref (x)), (1, .int (nI g))] dX6_cost_5 (Nat.le_of_ble_eq_true rfl) rfl ?_
    refine x_aload_n 0 dX6_cost_6 rfl ?_
    refine x_ifnonnull 14 dX6_cost_7 (by decide) ?_
    refine x_aload_n 0 dX6_cost_14 rfl ?_
    refine gf_X6_199 rfl dX6_cost_15 (hI.l.2.2.2.2.2 g hg).2.1 ?_
    rw [show gI (S) 66 (x + 7 + 3 * g) = nI (bst σ p g).1 from (hI.b g hg).1]
    exact x_ireturn dX6_cost_18 rfl (Nat.le_of_ble_eq_true rfl) (Nat.le_of_ble_eq_true rfl) ⟨by rw [costR, hI.n1, if_neg e1, nI_clamp (by omega)], rfl⟩
set_option maxRecDepth 100000 in
theorem c_X6_told {k : KT} {S : HS} {x n c q p : Nat} {ca pa na : Nat → Nat} {σ : MS} (hI : CX k S x n c q p ca pa na σ) (i wh : Int32) : Ct k (mt_X6_told (rm 5 0 0)) [.ref x, .int i, .int wh] S (Pu (f_X7_told (σ.1 12) (σ.2 7) (σ.2 8) (σ.2 9) (σ.2 10) (σ.2 11) (σ.2 12) i wh) S) := by
  have hp := hI.p1
  rcases name_cases hp.1 (σ.2 7) i with ⟨e0, ho⟩ | ⟨g, hg, rfl, e1⟩
  rotate_left
  by_cases ht : σ.2 7 g = 0
  · refine Ct.ofF (by decide +kernel) (Nat.le_of_ble_eq_true rfl) ?_
    refine x_lv [(0, .ref (x)), (1, .int (nI g)), (2, .int (wh))] [0, 1, 2] rfl ?_
    refine x_aload_n 0 dX6_told_0 rfl ?_
    refine x_iload_n 1 dX6_told_1 rfl ?_
    refine ca_X6_179 [.int (nI g)] [] (c_nameOfS hI hg ht) hI.l.1 rfl dX6_told_2 rfl rfl ⟨(Nat.le_of_ble_eq_true rfl), (Nat.le_of_ble_eq_true rfl), (Nat.le_of_ble_eq_true rfl), (Nat.le_of_ble_eq_true rfl), (Nat.le_of_ble_eq_true rfl)⟩ (fun v T hq => ?_)
    obtain ⟨rfl, rfl⟩ := hq
    refine x_astore_nN [(3, .null), (0, .ref (x)), (1, .int (nI g)), (2, .int (wh))] dX6_told_5 (Nat.le_of_ble_eq_true rfl) rfl ?_
    refine x_aload_nN 0 dX6_told_6 rfl ?_
    refine x_ifnonnullN dX6_told_7 ?_
    refine x_ldc dX6_told_10 tw_6_7 ?_
    exact x_ireturn dX6_told_12 rfl (Nat.le_of_ble_eq_true rfl) (Nat.le_of_ble_eq_true rfl) ⟨by rw [f_X7_told, hp.2, if_pos (e1.mpr ht)], rfl⟩
  · refine Ct.ofF (by decide +kernel) (Nat.le_of_ble_eq_true rfl) ?_
    refine x_lv [(0, .ref (x)), (1, .int (nI g)), (2, .int (wh))] [0, 1, 2] rfl ?_
    refine x_aload_n 0 dX6_told_0 rfl ?_
    refine x_iload_n 1 dX6_told_1 rfl ?_
    refine ca_X6_179 [.int (nI g)] [] (c_nameOf hI hg ht) hI.l.1 rfl dX6_told_2 rfl rfl ⟨(Nat.le_of_ble_eq_true rfl), (Nat.le_of_ble_eq_true rfl), (Nat.le_of_ble_eq_true rfl), (Nat.le_of_ble_eq_true rfl), (Nat.le_of_ble_eq_true rfl)⟩ (fun v T hq => ?_)
    obtain ⟨rfl, rfl⟩ := hq
    refine x_astore_n [(3, .ref (na g)), (0, .ref (x)), (1, .int (nI g)), (2, .int (wh))] dX6_told_5 (Nat.le_of_ble_eq_true rfl) rfl ?_
    refine x_aload_n 0 dX6_told_6 rfl ?_
    refine x_ifnonnull 13 dX6_told_7 (by decide) ?_
    refine x_iload_n 3 dX6_told_13 rfl ?_
    by_cases c1 : wh = 0
    · refine x_tableIn 34 48 dX6_told_14 (by rw [c1]; decide) (by rw [c1]; decide) (by rw [c1]; rfl) (by decide) ?_
      refine x_aload_n 0 dX6_told_48 rfl ?_
      refine gf_X6_186 rfl dX6_told_49 (hI.w.2.2.1 g hg).1 ?_
      rw [show gI (S) 96 (na g) = σ.2 8 g from (hI.w.2.2.1 g hg).2.1.1]
      exact x_ireturn dX6_told_52 rfl (Nat.le_of_ble_eq_true rfl) (Nat.le_of_ble_eq_true rfl) ⟨by rw [f_X7_told, hp.2, if_neg (fun z => ht (e1.mp z)), if_pos c1]; rw [nI_clamp (by omega)], rfl⟩
    by_cases c2 : wh = 1
    · refine x_tableIn 39 53 dX6_told_14 (by rw [c2]; decide) (by rw [c2]; decide) (by rw [c2]; rfl) (by decide) ?_
      refine x_aload_n 0 dX6_told_53 rfl ?_
      refine gf_X6_202 rfl dX6_told_54 (hI.w.2.2.1 g hg).1 ?_
      rw [show gI (S) 97 (na g) = σ.2 9 g from (hI.w.2.2.1 g hg).2.1.2.1]
      exact x_ireturn dX6_told_57 rfl (Nat.le_of_ble_eq_true rfl) (Nat.le_of_ble_eq_true rfl) ⟨by rw [f_X7_told, hp.2, if_neg (fun z => ht (e1.mp z)), if_neg c1, if_pos c2]; rw [nI_clamp (by omega)], rfl⟩
    by_cases c3 : wh = 2
    · refine x_tableIn 44 58 dX6_told_14 (by rw [c3]; decide) (by rw [c3]; decide) (by rw [c3]; rfl) (by decide) ?_
      refine x_aload_n 0 dX6_told_58 rfl ?_
      refine gf_X6_205 rfl dX6_told_59 (hI.w.2.2.1 g hg).1 ?_
      rw [show gI (S) 98 (na g) = σ.2 10 g from (hI.w.2.2.1 g hg).2.1.2.2.1]
      exact x_ireturn dX6_told_62 rfl (Nat.le_of_ble_eq_true rfl) (Nat.le_of_ble_eq_true rfl) ⟨by rw [f_X7_told, hp.2, if_neg (fun z => ht (e1.mp z)), if_neg c1, if_neg c2, if_pos c3]; rw [nI_clamp (by omega)], rfl⟩
    by_cases c4 : wh = 3
    · refine x_tableIn 49 63 dX6_told_14 (by rw [c4]; decide) (by rw [c4]; decide) (by rw [c4]; rfl) (by decide) ?_
      refine x_aload_n 0 dX6_told_63 rfl ?_
      refine gf_X6_208 rfl dX6_told_64 (hI.w.2.2.1 g hg).1 ?_
      rw [show gI (S) 100 (na g) = σ.2 11 g from (hI.w.2.2.1 g hg).2.1.2.2.2.2.1]
      exact x_ireturn dX6_told_67 rfl (Nat.le_of_ble_eq_true rfl) (Nat.le_of_ble_eq_true rfl) ⟨by rw [f_X7_told, hp.2, if_neg (fun z => ht (e1.mp z)), if_neg c1, if_neg c2, if_neg c3, if_pos c4]; rw [nI_clamp (by omega)], rfl⟩
    by_cases c5 : wh = 4
    · refine x_tableIn 54 68 dX6_told_14 (by rw [c5]; decide) (by rw [c5]; decide) (by rw [c5]; rfl) (by decide) ?_
      refine x_aload_n 0 dX6_told_68 rfl ?_
      refine gf_X6_211 rfl dX6_told_69 (hI.w.2.2.1 g hg).1 ?_
      rw [show gI (S) 101 (na g) = σ.2 12 g from (hI.w.2.2.1 g hg).2.1.2.2.2.2.2]
      exact x_ireturn dX6_told_72 rfl (Nat.le_of_ble_eq_true rfl) (Nat.le_of_ble_eq_true rfl) ⟨by rw [f_X7_told, hp.2, if_neg (fun z => ht (e1.mp z)), if_neg c1, if_neg c2, if_neg c3, if_neg c4, if_pos c5]; rw [nI_clamp (by omega)], rfl⟩
    refine x_tableOut 73 dX6_told_14 (tb_out4 c1 c2 c3 c4 c5) (by decide) ?_
    refine x_ldc dX6_told_73 tw_6_7 ?_
    exact x_ireturn dX6_told_75 rfl (Nat.le_of_ble_eq_true rfl) (Nat.le_of_ble_eq_true rfl) ⟨by rw [f_X7_told, hp.2, if_neg (fun z => ht (e1.mp z)), if_neg c1, if_neg c2, if_neg c3, if_neg c4, if_neg c5], rfl⟩
  · refine Ct.ofF (by decide +kernel) (Nat.le_of_ble_eq_true rfl) ?_
    refine x_lv [(0, .ref (x)), (1, .int (i)), (2, .int (wh))] [0, 1, 2] rfl ?_
    refine x_aload_n 0 dX6_told_0 rfl ?_
    refine x_iload_n 1 dX6_told_1 rfl ?_
    refine ca_X6_179 [.int (i)] [] (c_nameOfN hI ho) hI.l.1 rfl dX6_told_2 rfl rfl ⟨(Nat.le_of_ble_eq_true rfl), (Nat.le_of_ble_eq_true rfl), (Nat.le_of_ble_eq_true rfl), (Nat.le_of_ble_eq_true rfl), (Nat.le_of_ble_eq_true rfl)⟩ (fun v T hq => ?_)
    obtain ⟨rfl, rfl⟩ := hq
    refine x_astore_nN [(3, .null), (0, .ref (x)), (1, .int (i)), (2, .int (wh))] dX6_told_5 (Nat.le_of_ble_eq_true rfl) rfl ?_
    refine x_aload_nN 0 dX6_told_6 rfl ?_
    refine x_ifnonnullN dX6_told_7 ?_
    refine x_ldc dX6_told_10 tw_6_7 ?_
    exact x_ireturn dX6_told_12 rfl (Nat.le_of_ble_eq_true rfl) (Nat.le_of_ble_eq_true rfl) ⟨by rw [f_X7_told, hp.2, if_pos e0], rfl⟩
theorem w_cases (w : Int32) : (f_X7_in w 0 4 = 0 ∧ (w < 0 ∨ 4 < w)) ∨ ∃ v : Nat, v ≤ 4 ∧ w = nI v ∧ ¬ f_X7_in w 0 4 = 0 := by
  by_cases c1 : w < 0
  · exact Or.inl ⟨by unfold f_X7_in; rw [if_pos c1], Or.inl c1⟩
  · by_cases c2 : 4 < w
    · exact Or.inl ⟨by unfold f_X7_in; rw [if_neg c1, if_pos c2], Or.inr c2⟩
    · obtain ⟨j, hj, ej⟩ := nI_of c1
      refine Or.inr ⟨j, ?_, ej, by unfold f_X7_in; rw [if_neg c1, if_neg c2]; decide⟩
      rw [ej, t_lt, nI_toInt hj, show (4 : Int32).toInt = 4 from rfl] at c2
      omega
theorem allows_out {ws w : Int32} (h : w < 0 ∨ 4 < w) : f_X2_allows ws w = 0 := by
  unfold f_X2_allows
  rcases h with h | h
  · rw [if_pos h]
  · by_cases c : w < 0
    · rw [if_pos c]
    · rw [if_neg c, if_pos h]
theorem may_eq {S : HS} {a g n : Nat} {σ : MS} {w : Int32} (h : NMi S a σ g n) : f_X2_allows (gI S 102 a) w = 0 ↔ (f_X7_in w 0 4 = 0 ∨ f_X7_canBe (σ.1 2) (σ.2 1) (σ.2 9) (σ.2 10) (σ.2 11) (nI g) w = 0) := by
  rcases w_cases w with ⟨c, d⟩ | ⟨v, hv, rfl, c⟩
  · exact ⟨fun _ => Or.inl c, fun _ => allows_out d⟩
  · exact ⟨fun q => Or.inr ((h.2.2.1 v hv).mp q), fun q => (h.2.2.1 v hv).mpr (q.resolve_left c)⟩
set_option maxRecDepth 100000 in
theorem c_X6_may {k : KT} {S : HS} {x n c q p : Nat} {ca pa na : Nat → Nat} {σ : MS} (hI : CX k S x n c q p ca pa na σ) (i w : Int32) : Ct k (mt_X6_may (rm 5 0 0)) [.ref x, .int i, .int w] S (Pu (f_X7_may (σ.1 12) (σ.1 2) (σ.2 1) (σ.2 9) (σ.2 10) (σ.2 11) (σ.2 7) i w) S) := by
  have hp := hI.p1
  rcases name_cases hp.1 (σ.2 7) i with ⟨e0, ho⟩ | ⟨g, hg, rfl, e1⟩
  rotate_left
  by_cases ht : σ.2 7 g = 0
  · refine Ct.ofF (by decide +kernel) (Nat.le_of_ble_eq_true rfl) ?_
    refine x_lv [(0, .ref (x)), (1, .int (nI g)), (2, .int (w))] [0, 1, 2] rfl ?_
    refine x_aload_n 0 dX6_may_0 rfl ?_
    refine x_iload_n 1 dX6_may_1 rfl ?_
    refine ca_X6_179 [.int (nI g)] [] (c_nameOfS hI hg ht) hI.l.1 rfl dX6_may_2 rfl rfl ⟨(Nat.le_of_ble_eq_true rfl), (Nat.le_of_ble_eq_true rfl), (Nat.le_of_ble_eq_true rfl), (Nat.le_of_ble_eq_true rfl), (Nat.le_of_ble_eq_true rfl)⟩ (fun v T hq => ?_)
    obtain ⟨rfl, rfl⟩ := hq
    refine x_astore_nN [(3, .null), (0, .ref (x)), (1, .int (nI g)), (2, .int (w))] dX6_may_5 (Nat.le_of_ble_eq_true rfl) rfl ?_
    refine x_aload_nN 0 dX6_may_6 rfl ?_
    refine x_ifnullN 22 dX6_may_7 (by decide) ?_
    refine x_iconst 0 dX6_may_22 (by decide) ?_
    exact x_zreturn dX6_may_23 rfl (by decide) (Nat.le_of_ble_eq_true rfl) (Nat.le_of_ble_eq_true rfl) ⟨by rw [f_X7_may, hp.2, if_pos (e1.mpr ht)], rfl⟩
  · refine Ct.ofF (by decide +kernel) (Nat.le_of_ble_eq_true rfl) ?_
    refine x_lv [(0, .ref (x)), (1, .int (nI g)), (2, .int (w))] [0, 1, 2] rfl ?_
    refine x_aload_n 0 dX6_may_0 rfl ?_
    refine x_iload_n 1 dX6_may_1 rfl ?_
    refine ca_X6_179 [.int (nI g)] [] (c_nameOf hI hg ht) hI.l.1 rfl dX6_may_2 rfl rfl ⟨(Nat.le_of_ble_eq_true rfl), (Nat.le_of_ble_eq_true rfl), (Nat.le_of_ble_eq_true rfl), (Nat.le_of_ble_eq_true rfl), (Nat.le_of_ble_eq_true rfl)⟩ (fun v T hq => ?_)
    obtain ⟨rfl, rfl⟩ := hq
    refine x_astore_n [(3, .ref (na g)), (0, .ref (x)), (1, .int (nI g)), (2, .int (w))] dX6_may_5 (Nat.le_of_ble_eq_true rfl) rfl ?_
    refine x_aload_n 0 dX6_may_6 rfl ?_
    refine x_ifnull dX6_may_7 ?_
    refine x_aload_n 0 dX6_may_10 rfl ?_
    refine x_iload_n 3 dX6_may_11 rfl ?_
    refine ca_X6_193 [.int (w)] [] (c_X2_allows ((gI (S) 102 (na g))) (w) (hI.w.2.2.1 g hg).1 rfl) (hI.w.2.2.1 g hg).1 rfl dX6_may_12 rfl rfl ⟨(Nat.le_of_ble_eq_true rfl), (Nat.le_of_ble_eq_true rfl), (Nat.le_of_ble_eq_true rfl), (Nat.le_of_ble_eq_true rfl), (Nat.le_of_ble_eq_true rfl)⟩ (fun v T hq => ?_)
    obtain ⟨rfl, rfl⟩ := hq
    refine x_if_eq 22 dX6_may_15 (by decide) (fun c1 => ?_) (fun c1 => ?_)
    · refine x_iconst 0 dX6_may_22 (by decide) ?_
      refine x_zreturn dX6_may_23 rfl (by decide) (Nat.le_of_ble_eq_true rfl) (Nat.le_of_ble_eq_true rfl) ⟨?_, rfl⟩
      rw [f_X7_may, hp.2, if_neg (fun z => ht (e1.mp z))]
      rcases (may_eq (hI.w.2.2.1 g hg)).mp c1 with z | z
      · rw [if_pos z]
      · rw [if_pos z, ite_self]
    · refine x_iconst 1 dX6_may_18 (by decide) ?_
      refine x_goto 23 dX6_may_19 (by decide) ?_
      exact x_zreturn dX6_may_23 rfl (by decide) (Nat.le_of_ble_eq_true rfl) (Nat.le_of_ble_eq_true rfl) ⟨by rw [f_X7_may, hp.2, if_neg (fun z => ht (e1.mp z)), if_neg (fun z => c1 ((may_eq (hI.w.2.2.1 g hg)).mpr (Or.inl z))), if_neg (fun z => c1 ((may_eq (hI.w.2.2.1 g hg)).mpr (Or.inr z)))], rfl⟩
  · refine Ct.ofF (by decide +kernel) (Nat.le_of_ble_eq_true rfl) ?_
    refine x_lv [(0, .ref (x)), (1, .int (i)), (2, .int (w))] [0, 1, 2] rfl ?_
    refine x_aload_n 0 dX6_may_0 rfl ?_
    refine x_iload_n 1 dX6_may_1 rfl ?_
    refine ca_X6_179 [.int (i)] [] (c_nameOfN hI ho) hI.l.1 rfl dX6_may_2 rfl rfl ⟨(Nat.le_of_ble_eq_true rfl), (Nat.le_of_ble_eq_true rfl), (Nat.le_of_ble_eq_true rfl), (Nat.le_of_ble_eq_true rfl), (Nat.le_of_ble_eq_true rfl)⟩ (fun v T hq => ?_)
    obtain ⟨rfl, rfl⟩ := hq
    refine x_astore_nN [(3, .null), (0, .ref (x)), (1, .int (i)), (2, .int (w))] dX6_may_5 (Nat.le_of_ble_eq_true rfl) rfl ?_
    refine x_aload_nN 0 dX6_may_6 rfl ?_
    refine x_ifnullN 22 dX6_may_7 (by decide) ?_
    refine x_iconst 0 dX6_may_22 (by decide) ?_
    exact x_zreturn dX6_may_23 rfl (by decide) (Nat.le_of_ble_eq_true rfl) (Nat.le_of_ble_eq_true rfl) ⟨by rw [f_X7_may, hp.2, if_pos e0], rfl⟩
def setR (σ : MS) (p : Nat) (i : Int32) : Int32 := if f_X7_isName (σ.1 12) (σ.2 7) i = 0 then (-1) else nI ((bst σ p (σ.2 8 i.toNatClampNeg).toNatClampNeg).2 ((hl σ p (σ.2 8 i.toNatClampNeg).toNatClampNeg).idxOf i.toNatClampNeg))
theorem hl_mem {σ : MS} {p g i : Nat} : i ∈ hl σ p g ↔ i < p ∧ ¬ σ.2 7 i = 0 ∧ σ.2 8 i = nI g := by
  unfold hl
  rw [List.mem_filter, List.mem_range]
  simp
theorem getD_idxOf {l : List Nat} {a : Nat} (h : a ∈ l) : l.idxOf a < l.length ∧ l.getD (l.idxOf a) 0 = a := by
  have h1 : l.idxOf a < l.length := List.idxOf_lt_length_iff.mpr h
  exact ⟨h1, by rw [List.getD_eq_getElem?_getD, List.getElem?_eq_getElem h1, List.getElem_idxOf h1]; rfl⟩
theorem set_way {S : HS} {x n p g : Nat} {na : Nat → Nat} {σ : MS} {k : KT} (hB : CB S x n p na σ) (hW : CW k S x n p na σ) (hn : n ≤ 24) (hg : g < p) (ht : ¬ σ.2 7 g = 0) (hp : p ≤ 60) : gI S 103 (na g) = nI ((bst σ p (σ.2 8 (nI g).toNatClampNeg).toNatClampNeg).2 ((hl σ p (σ.2 8 (nI g).toNatClampNeg).toNatClampNeg).idxOf (nI g).toNatClampNeg)) := by
  obtain ⟨t, ht1, ht2⟩ := (hW.2.2.1 g hg).2.2.2.2.1
  rw [nI_clamp (by omega), ht2, nI_clamp (by omega)]
  have hm : g ∈ hl σ p t := hl_mem.mpr ⟨hg, ht, ht2⟩
  have h1 := getD_idxOf hm
  have h2 := (hB t ht1).2 _ h1.1
  rw [h1.2] at h2
  exact h2
set_option maxRecDepth 100000 in
theorem c_X6_set {k : KT} {S : HS} {x n c q p : Nat} {ca pa na : Nat → Nat} {σ : MS} (hI : CX k S x n c q p ca pa na σ) (i : Int32) : Ct k (mt_X6_set (rm 5 0 0)) [.ref x, .int i] S (Pu (setR σ p i) S) := by
  have hp := hI.p1
  rcases name_cases hp.1 (σ.2 7) i with ⟨e0, ho⟩ | ⟨g, hg, rfl, e1⟩
  rotate_left
  by_cases ht : σ.2 7 g = 0
  · refine Ct.ofF (by decide +kernel) (Nat.le_of_ble_eq_true rfl) ?_
    refine x_lv [(0, .ref (x)), (1, .int (nI g))] [0, 1] rfl ?_
    refine x_aload_n 0 dX6_set_0 rfl ?_
    refine x_iload_n 1 dX6_set_1 rfl ?_
    refine ca_X6_179 [.int (nI g)] [] (c_nameOfS hI hg ht) hI.l.1 rfl dX6_set_2 rfl rfl ⟨(Nat.le_of_ble_eq_true rfl), (Nat.le_of_ble_eq_true rfl), (Nat.le_of_ble_eq_true rfl), (Nat.le_of_ble_eq_true rfl), (Nat.le_of_ble_eq_true rfl)⟩ (fun v T hq => ?_)
    obtain ⟨rfl, rfl⟩ := hq
    refine x_astore_nN [(2, .null), (0, .ref (x)), (1, .int (nI g))] dX6_set_5 (Nat.le_of_ble_eq_true rfl) rfl ?_
    refine x_aload_nN 0 dX6_set_6 rfl ?_
    refine x_ifnonnullN dX6_set_7 ?_
    refine x_iconst (-1) dX6_set_10 (by decide) ?_
    refine x_goto 18 dX6_set_11 (by decide) ?_
    exact x_ireturn dX6_set_18 rfl (Nat.le_of_ble_eq_true rfl) (Nat.le_of_ble_eq_true rfl) ⟨by rw [setR, hp.2, if_pos (e1.mpr ht)], rfl⟩
  · refine Ct.ofF (by decide +kernel) (Nat.le_of_ble_eq_true rfl) ?_
    refine x_lv [(0, .ref (x)), (1, .int (nI g))] [0, 1] rfl ?_
    refine x_aload_n 0 dX6_set_0 rfl ?_
    refine x_iload_n 1 dX6_set_1 rfl ?_
    refine ca_X6_179 [.int (nI g)] [] (c_nameOf hI hg ht) hI.l.1 rfl dX6_set_2 rfl rfl ⟨(Nat.le_of_ble_eq_true rfl), (Nat.le_of_ble_eq_true rfl), (Nat.le_of_ble_eq_true rfl), (Nat.le_of_ble_eq_true rfl), (Nat.le_of_ble_eq_true rfl)⟩ (fun v T hq => ?_)
    obtain ⟨rfl, rfl⟩ := hq
    refine x_astore_n [(2, .ref (na g)), (0, .ref (x)), (1, .int (nI g))] dX6_set_5 (Nat.le_of_ble_eq_true rfl) rfl ?_
    refine x_aload_n 0 dX6_set_6 rfl ?_
    refine x_ifnonnull 14 dX6_set_7 (by decide) ?_
    refine x_aload_n 0 dX6_set_14 rfl ?_
    refine gf_X6_196 rfl dX6_set_15 (hI.w.2.2.1 g hg).1 ?_
    exact x_ireturn dX6_set_18 rfl (Nat.le_of_ble_eq_true rfl) (Nat.le_of_ble_eq_true rfl) ⟨by rw [setR, hp.2, if_neg (fun z => ht (e1.mp z)), set_way hI.b hI.w hI.nb.2 hg ht hp.1], rfl⟩
  · refine Ct.ofF (by decide +kernel) (Nat.le_of_ble_eq_true rfl) ?_
    refine x_lv [(0, .ref (x)), (1, .int (i))] [0, 1] rfl ?_
    refine x_aload_n 0 dX6_set_0 rfl ?_
    refine x_iload_n 1 dX6_set_1 rfl ?_
    refine ca_X6_179 [.int (i)] [] (c_nameOfN hI ho) hI.l.1 rfl dX6_set_2 rfl rfl ⟨(Nat.le_of_ble_eq_true rfl), (Nat.le_of_ble_eq_true rfl), (Nat.le_of_ble_eq_true rfl), (Nat.le_of_ble_eq_true rfl), (Nat.le_of_ble_eq_true rfl)⟩ (fun v T hq => ?_)
    obtain ⟨rfl, rfl⟩ := hq
    refine x_astore_nN [(2, .null), (0, .ref (x)), (1, .int (i))] dX6_set_5 (Nat.le_of_ble_eq_true rfl) rfl ?_
    refine x_aload_nN 0 dX6_set_6 rfl ?_
    refine x_ifnonnullN dX6_set_7 ?_
    refine x_iconst (-1) dX6_set_10 (by decide) ?_
    refine x_goto 18 dX6_set_11 (by decide) ?_
    exact x_ireturn dX6_set_18 rfl (Nat.le_of_ble_eq_true rfl) (Nat.le_of_ble_eq_true rfl) ⟨by rw [setR, hp.2, if_pos e0], rfl⟩
