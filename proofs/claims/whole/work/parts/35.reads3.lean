set_option maxRecDepth 100000 in
theorem c_pieceA {k : KT} {S : HS} {x n c q p : Nat} {ca pa na : Nat → Nat} {σ : MS} (hI : CX k S x n c q p ca pa na σ) {i j wh : Int32} (e0 : f_X7_in wh 0 4 = 0) (ho : wh < 0 ∨ 4 < wh) : Ct k (mt_X6_piece (rm 4 0 0)) [.ref x, .int i, .int j, .int wh] S (Pu (h_X7_piece σ i j wh) S) := by
  refine Ct.ofF (by decide +kernel) (Nat.le_of_ble_eq_true rfl) ?_
  refine x_lv [(0, .ref (x)), (1, .int (i)), (2, .int (j)), (3, .int (wh))] [0, 1, 2, 3] rfl ?_
  refine x_iload_n 3 dX6_piece_0 rfl ?_
  refine x_if_lt 9 dX6_piece_1 (by decide) (fun c1 => ?_) (fun c1 => ?_)
  · refine x_iconst (-1) dX6_piece_9 (by decide) ?_
    exact x_ireturn dX6_piece_10 rfl (Nat.le_of_ble_eq_true rfl) (Nat.le_of_ble_eq_true rfl) ⟨by rw [h_X7_piece, if_pos e0], rfl⟩
  · refine x_iload_n 3 dX6_piece_4 rfl ?_
    refine x_iconst 4 dX6_piece_5 (by decide) ?_
    refine x_icmp_le 11 dX6_piece_6 (by decide) (fun c2 => ?_) (fun c2 => ?_)
    · exact absurd (ho.resolve_left c1) (Int32.not_lt.mpr c2)
    · refine x_iconst (-1) dX6_piece_9 (by decide) ?_
      exact x_ireturn dX6_piece_10 rfl (Nat.le_of_ble_eq_true rfl) (Nat.le_of_ble_eq_true rfl) ⟨by rw [h_X7_piece, if_pos e0], rfl⟩
set_option maxRecDepth 100000 in
theorem c_pieceB {k : KT} {S : HS} {x n c q p : Nat} {ca pa na : Nat → Nat} {σ : MS} (hI : CX k S x n c q p ca pa na σ) {i j wh : Int32} (w0 : ¬ wh < 0) (w4 : wh ≤ 4) {r : Int32} (hr : r = if wh = 0 then (-1) else (-2147483648)) (ho : i < 0 ∨ nI n ≤ i) : Ct k (mt_X6_piece (rm 4 0 0)) [.ref x, .int i, .int j, .int wh] S (Pu r S) := by
  refine Ct.ofF (by decide +kernel) (Nat.le_of_ble_eq_true rfl) ?_
  refine x_lv [(0, .ref (x)), (1, .int (i)), (2, .int (j)), (3, .int (wh))] [0, 1, 2, 3] rfl ?_
  refine x_iload_n 3 dX6_piece_0 rfl ?_
  refine x_if_lt 9 dX6_piece_1 (by decide) (fun c1 => ?_) (fun c1 => ?_)
  · exact absurd c1 w0
  · refine x_iload_n 3 dX6_piece_4 rfl ?_
    refine x_iconst 4 dX6_piece_5 (by decide) ?_
    refine x_icmp_le 11 dX6_piece_6 (by decide) (fun c2 => ?_) (fun c2 => ?_)
    · refine x_aload_n 0 dX6_piece_11 rfl ?_
      refine x_iload_n 1 dX6_piece_12 rfl ?_
      refine ca_X6_109 [.int (i)] [] (c_goreOfN hI ho) hI.l.1 rfl dX6_piece_13 rfl rfl ⟨(Nat.le_of_ble_eq_true rfl), (Nat.le_of_ble_eq_true rfl), (Nat.le_of_ble_eq_true rfl), (Nat.le_of_ble_eq_true rfl), (Nat.le_of_ble_eq_true rfl)⟩ (fun v T hq => ?_)
      obtain ⟨rfl, rfl⟩ := hq
      refine x_astoreN [(4, .null), (0, .ref (x)), (1, .int (i)), (2, .int (j)), (3, .int (wh))] dX6_piece_16 (Nat.le_of_ble_eq_true rfl) rfl ?_
      refine x_aloadN 0 dX6_piece_18 rfl ?_
      refine x_ifnullN 39 dX6_piece_20 (by decide) ?_
      refine x_iload_n 4 dX6_piece_39 rfl ?_
      refine x_if_ne 47 dX6_piece_40 (by decide) (fun c3 => ?_) (fun c3 => ?_)
      · refine x_ldc dX6_piece_47 tw_6_7 ?_
        exact x_ireturn dX6_piece_49 rfl (Nat.le_of_ble_eq_true rfl) (Nat.le_of_ble_eq_true rfl) ⟨by rw [hr, if_neg c3], rfl⟩
      · refine x_iconst (-1) dX6_piece_43 (by decide) ?_
        refine x_goto 49 dX6_piece_44 (by decide) ?_
        exact x_ireturn dX6_piece_49 rfl (Nat.le_of_ble_eq_true rfl) (Nat.le_of_ble_eq_true rfl) ⟨by rw [hr, if_pos c3], rfl⟩
    · exact absurd w4 c2
set_option maxRecDepth 100000 in
theorem c_pieceC {k : KT} {S : HS} {x n c q p : Nat} {ca pa na : Nat → Nat} {σ : MS} (hI : CX k S x n c q p ca pa na σ) {g : Nat} {j wh : Int32} (w0 : ¬ wh < 0) (w4 : wh ≤ 4) {r : Int32} (hr : r = if wh = 0 then (-1) else (-2147483648)) (hg : g < n) (hj : j < 0) : Ct k (mt_X6_piece (rm 4 0 0)) [.ref x, .int (nI g), .int j, .int wh] S (Pu r S) := by
  refine Ct.ofF (by decide +kernel) (Nat.le_of_ble_eq_true rfl) ?_
  refine x_lv [(0, .ref (x)), (1, .int (nI g)), (2, .int (j)), (3, .int (wh))] [0, 1, 2, 3] rfl ?_
  refine x_iload_n 3 dX6_piece_0 rfl ?_
  refine x_if_lt 9 dX6_piece_1 (by decide) (fun c1 => ?_) (fun c1 => ?_)
  · exact absurd c1 w0
  · refine x_iload_n 3 dX6_piece_4 rfl ?_
    refine x_iconst 4 dX6_piece_5 (by decide) ?_
    refine x_icmp_le 11 dX6_piece_6 (by decide) (fun c2 => ?_) (fun c2 => ?_)
    · refine x_aload_n 0 dX6_piece_11 rfl ?_
      refine x_iload_n 1 dX6_piece_12 rfl ?_
      refine ca_X6_109 [.int (nI g)] [] (c_goreOf hI hg) hI.l.1 rfl dX6_piece_13 rfl rfl ⟨(Nat.le_of_ble_eq_true rfl), (Nat.le_of_ble_eq_true rfl), (Nat.le_of_ble_eq_true rfl), (Nat.le_of_ble_eq_true rfl), (Nat.le_of_ble_eq_true rfl)⟩ (fun v T hq => ?_)
      obtain ⟨rfl, rfl⟩ := hq
      refine x_astore [(4, .ref (x + 7 + 3 * g)), (0, .ref (x)), (1, .int (nI g)), (2, .int (j)), (3, .int (wh))] dX6_piece_16 (Nat.le_of_ble_eq_true rfl) rfl ?_
      refine x_aload 0 dX6_piece_18 rfl ?_
      refine x_ifnull dX6_piece_20 ?_
      refine x_iload_n 3 dX6_piece_23 rfl ?_
      refine x_if_lt 39 dX6_piece_24 (by decide) (fun c3 => ?_) (fun c3 => ?_)
      · refine x_iload_n 4 dX6_piece_39 rfl ?_
        refine x_if_ne 47 dX6_piece_40 (by decide) (fun c4 => ?_) (fun c4 => ?_)
        · refine x_ldc dX6_piece_47 tw_6_7 ?_
          exact x_ireturn dX6_piece_49 rfl (Nat.le_of_ble_eq_true rfl) (Nat.le_of_ble_eq_true rfl) ⟨by rw [hr, if_neg c4], rfl⟩
        · refine x_iconst (-1) dX6_piece_43 (by decide) ?_
          refine x_goto 49 dX6_piece_44 (by decide) ?_
          exact x_ireturn dX6_piece_49 rfl (Nat.le_of_ble_eq_true rfl) (Nat.le_of_ble_eq_true rfl) ⟨by rw [hr, if_pos c4], rfl⟩
      · exact absurd hj c3
    · exact absurd w4 c2
set_option maxRecDepth 100000 in
theorem c_pieceE {k : KT} {S : HS} {x n c q p : Nat} {ca pa na : Nat → Nat} {σ : MS} (hI : CX k S x n c q p ca pa na σ) {g t : Nat} {wh : Int32} (w0 : ¬ wh < 0) (w4 : wh ≤ 4) {r : Int32} (hr : r = if wh = 0 then (-1) else (-2147483648)) (hg : g < n) (ht : t < 2 ^ 31) (hl : (pl σ q g).length ≤ t) : Ct k (mt_X6_piece (rm 4 0 0)) [.ref x, .int (nI g), .int (nI t), .int wh] S (Pu r S) := by
  refine Ct.ofF (by decide +kernel) (Nat.le_of_ble_eq_true rfl) ?_
  refine x_lv [(0, .ref (x)), (1, .int (nI g)), (2, .int (nI t)), (3, .int (wh))] [0, 1, 2, 3] rfl ?_
  refine x_iload_n 3 dX6_piece_0 rfl ?_
  refine x_if_lt 9 dX6_piece_1 (by decide) (fun c1 => ?_) (fun c1 => ?_)
  · exact absurd c1 w0
  · refine x_iload_n 3 dX6_piece_4 rfl ?_
    refine x_iconst 4 dX6_piece_5 (by decide) ?_
    refine x_icmp_le 11 dX6_piece_6 (by decide) (fun c2 => ?_) (fun c2 => ?_)
    · refine x_aload_n 0 dX6_piece_11 rfl ?_
      refine x_iload_n 1 dX6_piece_12 rfl ?_
      refine ca_X6_109 [.int (nI g)] [] (c_goreOf hI hg) hI.l.1 rfl dX6_piece_13 rfl rfl ⟨(Nat.le_of_ble_eq_true rfl), (Nat.le_of_ble_eq_true rfl), (Nat.le_of_ble_eq_true rfl), (Nat.le_of_ble_eq_true rfl), (Nat.le_of_ble_eq_true rfl)⟩ (fun v T hq => ?_)
      obtain ⟨rfl, rfl⟩ := hq
      refine x_astore [(4, .ref (x + 7 + 3 * g)), (0, .ref (x)), (1, .int (nI g)), (2, .int (nI t)), (3, .int (wh))] dX6_piece_16 (Nat.le_of_ble_eq_true rfl) rfl ?_
      refine x_aload 0 dX6_piece_18 rfl ?_
      refine x_ifnull dX6_piece_20 ?_
      refine x_iload_n 3 dX6_piece_23 rfl ?_
      refine x_if_lt 39 dX6_piece_24 (by decide) (fun c3 => ?_) (fun c3 => ?_)
      · exact absurd c3 (nI_pos ht)
      · refine x_iload_n 3 dX6_piece_27 rfl ?_
        refine x_aload 0 dX6_piece_28 rfl ?_
        refine gf_X6_113 rfl dX6_piece_30 (hI.l.2.2.2.2.2 g hg).2.1 ?_
        rw [show gP (S) 64 (x + 7 + 3 * g) = some (x + 8 + 3 * g) from (hI.l.2.2.2.2.2 g hg).2.2.1]
        refine ca_X6_60 [] [.int (nI t)] (c_al_size (hI.qq.2 g hg).1) (hI.qq.2 g hg).1 rfl dX6_piece_33 rfl rfl ⟨(Nat.le_of_ble_eq_true rfl), (Nat.le_of_ble_eq_true rfl), (Nat.le_of_ble_eq_true rfl), (Nat.le_of_ble_eq_true rfl), (Nat.le_of_ble_eq_true rfl)⟩ (fun v T hq => ?_)
        obtain ⟨rfl, hT⟩ := hq
        obtain rfl := hT.symm
        rw [show gI (S) 2 (x + 8 + 3 * g) = nI (pl σ q g).length from (by rw [(hI.qq.2 g hg).2.1, List.length_map])]
        refine x_icmp_lt 50 dX6_piece_36 (by decide) (fun c4 => ?_) (fun c4 => ?_)
        · exact absurd c4 (nI_nlt hl ht)
        · refine x_iload_n 4 dX6_piece_39 rfl ?_
          refine x_if_ne 47 dX6_piece_40 (by decide) (fun c5 => ?_) (fun c5 => ?_)
          · refine x_ldc dX6_piece_47 tw_6_7 ?_
            exact x_ireturn dX6_piece_49 rfl (Nat.le_of_ble_eq_true rfl) (Nat.le_of_ble_eq_true rfl) ⟨by rw [hr, if_neg c5], rfl⟩
          · refine x_iconst (-1) dX6_piece_43 (by decide) ?_
            refine x_goto 49 dX6_piece_44 (by decide) ?_
            exact x_ireturn dX6_piece_49 rfl (Nat.le_of_ble_eq_true rfl) (Nat.le_of_ble_eq_true rfl) ⟨by rw [hr, if_pos c5], rfl⟩
    · exact absurd w4 c2
theorem pl_mem {σ : MS} {q g i : Nat} : i ∈ pl σ q g ↔ i < q ∧ σ.2 4 i = nI g := by
  unfold pl
  rw [List.mem_filter, List.mem_range]
  simp
theorem clamp4 {t j : Nat} (h : t ≤ 600) (hj : j ≤ 3) : (4 * nI t + nI (j + 1) - 1).toNatClampNeg = 4 * t + j := by
  rw [show (4 : Int32) * nI t = nI (4 * t) from pk_mul 4 t, nI_add, show 4 * t + (j + 1) = (4 * t + j) + 1 by omega, nI_pred, nI_clamp (by omega)]
set_option maxRecDepth 100000 in
theorem c_pieceD {k : KT} {S : HS} {x n c q p : Nat} {ca pa na : Nat → Nat} {σ : MS} (hI : CX k S x n c q p ca pa na σ) {g t : Nat} {wh : Int32} (w0 : ¬ wh < 0) (w4 : wh ≤ 4) {r : Int32} (hg : g < n) (ht : t < 2 ^ 31) (hl : t < (pl σ q g).length) (hr : r = if wh = 0 then σ.2 5 ((pl σ q g)[t]) else σ.2 6 (4 * nI ((pl σ q g)[t]) + wh - 1).toNatClampNeg) : Ct k (mt_X6_piece (rm 4 0 0)) [.ref x, .int (nI g), .int (nI t), .int wh] S (Pu r S) := by
  have hm : (pl σ q g)[t] < q := (pl_mem.mp (List.getElem_mem hl)).1
  have hq6 := hI.q1.1
  have hlq : (pl σ q g).length ≤ q := by unfold pl; exact Nat.le_trans (List.length_filter_le _ _) (by rw [List.length_range]; omega)
  have wh4 : ¬ wh = 0 → ¬ wh = 1 → ¬ wh = 2 → ¬ wh = 3 → wh = 4 := fun a1 a2 a3 a4 => by
    have b1 : wh.toInt ≠ 0 := fun z => a1 (t_ext z)
    have b2 : wh.toInt ≠ 1 := fun z => a2 (t_ext z)
    have b3 : wh.toInt ≠ 2 := fun z => a3 (t_ext z)
    have b4 : wh.toInt ≠ 3 := fun z => a4 (t_ext z)
    have c1 := w0
    have c2 := w4
    rw [t_lt, show (0 : Int32).toInt = 0 from rfl] at c1
    rw [t_le, show (4 : Int32).toInt = 4 from rfl] at c2
    exact t_ext (by show wh.toInt = 4; omega)
  refine Ct.ofF (by decide +kernel) (Nat.le_of_ble_eq_true rfl) ?_
  refine x_lv [(0, .ref (x)), (1, .int (nI g)), (2, .int (nI t)), (3, .int (wh))] [0, 1, 2, 3] rfl ?_
  refine x_iload_n 3 dX6_piece_0 rfl ?_
  refine x_if_lt 9 dX6_piece_1 (by decide) (fun c1 => ?_) (fun c1 => ?_)
  · exact absurd c1 w0
  · refine x_iload_n 3 dX6_piece_4 rfl ?_
    refine x_iconst 4 dX6_piece_5 (by decide) ?_
    refine x_icmp_le 11 dX6_piece_6 (by decide) (fun c2 => ?_) (fun c2 => ?_)
    · refine x_aload_n 0 dX6_piece_11 rfl ?_
      refine x_iload_n 1 dX6_piece_12 rfl ?_
      refine ca_X6_109 [.int (nI g)] [] (c_goreOf hI hg) hI.l.1 rfl dX6_piece_13 rfl rfl ⟨(Nat.le_of_ble_eq_true rfl), (Nat.le_of_ble_eq_true rfl), (Nat.le_of_ble_eq_true rfl), (Nat.le_of_ble_eq_true rfl), (Nat.le_of_ble_eq_true rfl)⟩ (fun v T hq => ?_)
      obtain ⟨rfl, rfl⟩ := hq
      refine x_astore [(4, .ref (x + 7 + 3 * g)), (0, .ref (x)), (1, .int (nI g)), (2, .int (nI t)), (3, .int (wh))] dX6_piece_16 (Nat.le_of_ble_eq_true rfl) rfl ?_
      refine x_aload 0 dX6_piece_18 rfl ?_
      refine x_ifnull dX6_piece_20 ?_
      refine x_iload_n 3 dX6_piece_23 rfl ?_
      refine x_if_lt 39 dX6_piece_24 (by decide) (fun c3 => ?_) (fun c3 => ?_)
      · exact absurd c3 (nI_pos ht)
      · refine x_iload_n 3 dX6_piece_27 rfl ?_
        refine x_aload 0 dX6_piece_28 rfl ?_
        refine gf_X6_113 rfl dX6_piece_30 (hI.l.2.2.2.2.2 g hg).2.1 ?_
        rw [show gP (S) 64 (x + 7 + 3 * g) = some (x + 8 + 3 * g) from (hI.l.2.2.2.2.2 g hg).2.2.1]
        refine ca_X6_60 [] [.int (nI t)] (c_al_size (hI.qq.2 g hg).1) (hI.qq.2 g hg).1 rfl dX6_piece_33 rfl rfl ⟨(Nat.le_of_ble_eq_true rfl), (Nat.le_of_ble_eq_true rfl), (Nat.le_of_ble_eq_true rfl), (Nat.le_of_ble_eq_true rfl), (Nat.le_of_ble_eq_true rfl)⟩ (fun v T hq => ?_)
        obtain ⟨rfl, hT⟩ := hq
        obtain rfl := hT.symm
        rw [show gI (S) 2 (x + 8 + 3 * g) = nI (pl σ q g).length from (by rw [(hI.qq.2 g hg).2.1, List.length_map])]
        refine x_icmp_lt 50 dX6_piece_36 (by decide) (fun c4 => ?_) (fun c4 => ?_)
        · refine x_aload 0 dX6_piece_50 rfl ?_
          refine gf_X6_113 rfl dX6_piece_52 (hI.l.2.2.2.2.2 g hg).2.1 ?_
          rw [show gP (S) 64 (x + 7 + 3 * g) = some (x + 8 + 3 * g) from (hI.l.2.2.2.2.2 g hg).2.2.1]
          refine x_iload_n 3 dX6_piece_55 rfl ?_
          refine ca_X6_116 [.int (nI t)] [] (c_al_get (k := k) (hI.qq.2 g hg) (i := t) (by rw [List.length_map]; exact hl)) (hI.qq.2 g hg).1 rfl dX6_piece_56 rfl rfl ⟨(Nat.le_of_ble_eq_true rfl), (Nat.le_of_ble_eq_true rfl), (Nat.le_of_ble_eq_true rfl), (Nat.le_of_ble_eq_true rfl), (Nat.le_of_ble_eq_true rfl)⟩ (fun v T hq => ?_)
          obtain ⟨rfl, hT⟩ := hq
          obtain rfl := hT.symm
          rw [show ((pl σ q g).map pa)[t]'(by rw [List.length_map]; exact hl) = pa ((pl σ q g)[t]) from (by rw [List.getElem_map])]
          refine cc_X6_120 rfl dX6_piece_59 (hI.qq.1 ((pl σ q g)[t]) hm).1 ?_
          refine x_astore [(5, .ref (pa ((pl σ q g)[t]))), (4, .ref (x + 7 + 3 * g)), (0, .ref (x)), (1, .int (nI g)), (2, .int (nI t)), (3, .int (wh))] dX6_piece_62 (Nat.le_of_ble_eq_true rfl) rfl ?_
          refine x_iload_n 5 dX6_piece_64 rfl ?_
          by_cases c5 : wh = 0
          · refine x_tableIn 31 96 dX6_piece_65 (by rw [c5]; decide) (by rw [c5]; decide) (by rw [c5]; rfl) (by decide) ?_
            refine x_aload 0 dX6_piece_96 rfl ?_
            refine gf_X6_122 rfl dX6_piece_98 (hI.qq.1 ((pl σ q g)[t]) hm).1 ?_
            rw [show gI (S) 128 (pa ((pl σ q g)[t])) = σ.2 5 ((pl σ q g)[t]) from (hI.qq.1 ((pl σ q g)[t]) hm).2.1.1]
            exact x_ireturn dX6_piece_101 rfl (Nat.le_of_ble_eq_true rfl) (Nat.le_of_ble_eq_true rfl) ⟨by rw [hr, if_pos c5], rfl⟩
          by_cases c6 : wh = 1
          · refine x_tableIn 37 102 dX6_piece_65 (by rw [c6]; decide) (by rw [c6]; decide) (by rw [c6]; rfl) (by decide) ?_
            refine x_aload 0 dX6_piece_102 rfl ?_
            refine gf_X6_125 rfl dX6_piece_104 (hI.qq.1 ((pl σ q g)[t]) hm).1 ?_
            rw [show gI (S) 129 (pa ((pl σ q g)[t])) = σ.2 6 (4 * (pl σ q g)[t]) from (hI.qq.1 ((pl σ q g)[t]) hm).2.1.2.1]
            exact x_ireturn dX6_piece_107 rfl (Nat.le_of_ble_eq_true rfl) (Nat.le_of_ble_eq_true rfl) ⟨by rw [hr, if_neg (by rw [c6]; decide), c6]; exact congrArg (fun z => some (Value.int (σ.2 6 z))) (clamp4 (j := 0) (by omega) (by omega)).symm, rfl⟩
          by_cases c7 : wh = 2
          · refine x_tableIn 43 108 dX6_piece_65 (by rw [c7]; decide) (by rw [c7]; decide) (by rw [c7]; rfl) (by decide) ?_
            refine x_aload 0 dX6_piece_108 rfl ?_
            refine gf_X6_128 rfl dX6_piece_110 (hI.qq.1 ((pl σ q g)[t]) hm).1 ?_
            rw [show gI (S) 130 (pa ((pl σ q g)[t])) = σ.2 6 (4 * (pl σ q g)[t] + 1) from (hI.qq.1 ((pl σ q g)[t]) hm).2.1.2.2.1]
            exact x_ireturn dX6_piece_113 rfl (Nat.le_of_ble_eq_true rfl) (Nat.le_of_ble_eq_true rfl) ⟨by rw [hr, if_neg (by rw [c7]; decide), c7]; exact congrArg (fun z => some (Value.int (σ.2 6 z))) (clamp4 (j := 1) (by omega) (by omega)).symm, rfl⟩
          by_cases c8 : wh = 3
          · refine x_tableIn 49 114 dX6_piece_65 (by rw [c8]; decide) (by rw [c8]; decide) (by rw [c8]; rfl) (by decide) ?_
            refine x_aload 0 dX6_piece_114 rfl ?_
            refine gf_X6_131 rfl dX6_piece_116 (hI.qq.1 ((pl σ q g)[t]) hm).1 ?_
            rw [show gI (S) 131 (pa ((pl σ q g)[t])) = σ.2 6 (4 * (pl σ q g)[t] + 2) from (hI.qq.1 ((pl σ q g)[t]) hm).2.1.2.2.2.1]
            exact x_ireturn dX6_piece_119 rfl (Nat.le_of_ble_eq_true rfl) (Nat.le_of_ble_eq_true rfl) ⟨by rw [hr, if_neg (by rw [c8]; decide), c8]; exact congrArg (fun z => some (Value.int (σ.2 6 z))) (clamp4 (j := 2) (by omega) (by omega)).symm, rfl⟩
          refine x_tableOut 120 dX6_piece_65 (tb_out3 c5 c6 c7 c8) (by decide) ?_
          refine x_aload 0 dX6_piece_120 rfl ?_
          refine gf_X6_134 rfl dX6_piece_122 (hI.qq.1 ((pl σ q g)[t]) hm).1 ?_
          rw [show gI (S) 132 (pa ((pl σ q g)[t])) = σ.2 6 (4 * (pl σ q g)[t] + 3) from (hI.qq.1 ((pl σ q g)[t]) hm).2.1.2.2.2.2]
          exact x_ireturn dX6_piece_125 rfl (Nat.le_of_ble_eq_true rfl) (Nat.le_of_ble_eq_true rfl) ⟨by rw [hr, if_neg c5, wh4 c5 c6 c7 c8]; exact congrArg (fun z => some (Value.int (σ.2 6 z))) (clamp4 (j := 3) (by omega) (by omega)).symm, rfl⟩
        · exact absurd (nI_lt hl (by omega)) c4
    · exact absurd w4 c2
theorem c_X6_piece {k : KT} {S : HS} {x n c q p : Nat} {ca pa na : Nat → Nat} {σ : MS} (hI : CX k S x n c q p ca pa na σ) (i j wh : Int32) : Ct k (mt_X6_piece (rm 4 0 0)) [.ref x, .int i, .int j, .int wh] S (Pu (h_X7_piece σ i j wh) S) := by
  have hnb := hI.nb
  have hq6 := hI.q1
  rcases w_cases wh with ⟨e0, ho⟩ | ⟨v, hv, rfl, e1⟩
  · exact c_pieceA hI e0 ho
  · have w0 : ¬ nI v < 0 := nI_pos (by omega)
    have w4 : nI v ≤ 4 := (nI_le hv (by decide) : nI v ≤ nI 4)
    have er : h_X7_piece σ i j (nI v) = lp_X7_piece σ i j (nI v) q 0 j := by rw [h_X7_piece, if_neg e1, hq6.2, nI_clamp (by omega)]
    rw [er]
    rcases gore_cases hnb.2 (by omega) i with ⟨g0, ho⟩ | ⟨g, hg, rfl, g1⟩
    · refine c_pieceB hI w0 w4 (piece_no q 0 j (by omega) (fun t h1 h2 e => ?_)) ho
      obtain ⟨g, hg, eg⟩ := (hI.qq.1 t (by omega)).2.2
      rw [eg] at e
      rw [← e] at ho
      rcases ho with ho | ho
      · exact nI_pos (by omega) ho
      · exact nI_ge hg (by omega) ho
    · by_cases hj : j < 0
      · exact c_pieceC hI w0 w4 (piece_neg hj q 0 j) hg hj
      · obtain ⟨t, ht, rfl⟩ := nI_of hj
        have e2 := piece_in (σ := σ) (g := g) (wh := nI v) ht q 0 t (by omega) ht
        rw [← List.range_eq_range'] at e2
        by_cases hl : t < (pl σ q g).length
        · refine c_pieceD hI w0 w4 hg ht hl ?_
          rw [e2]
          show Option.elim (pl σ q g)[t]? _ _ = _
          rw [List.getElem?_eq_getElem hl]
          rfl
        · refine c_pieceE hI w0 w4 ?_ hg ht (by omega)
          rw [e2]
          show Option.elim (pl σ q g)[t]? _ _ = _
          rw [List.getElem?_eq_none (by omega)]
          rfl
def sumN (f : Nat → Nat) : Nat → Nat
  | 0 => 0
  | n + 1 => sumN f n + f n
theorem sumN_add {f g h : Nat → Nat} : ∀ n, (∀ i, i < n → h i = f i + g i) → sumN h n = sumN f n + sumN g n := by
  intro n
  induction n with
  | zero => intro _; rfl
  | succ n ih => intro e; rw [sumN, sumN, sumN, ih (fun i hi => e i (by omega)), e n (by omega)]; omega
theorem sumN_z {f : Nat → Nat} : ∀ n, (∀ i, i < n → f i = 0) → sumN f n = 0 := by
  intro n
  induction n with
  | zero => intro _; rfl
  | succ n ih => intro e; rw [sumN, ih (fun i hi => e i (by omega)), e n (by omega)]
theorem sumN_1 {f : Nat → Nat} {g : Nat} : ∀ n, g < n → f g = 1 → (∀ i, i < n → i ≠ g → f i = 0) → sumN f n = 1 := by
  intro n
  induction n with
  | zero => intro h _ _; omega
  | succ n ih =>
    intro h e1 e0
    rw [sumN]
    by_cases c : g = n
    · subst c; rw [sumN_z g (fun i hi => e0 i (by omega) (by omega)), e1]
    · rw [ih (by omega) e1 (fun i hi hn => e0 i (by omega) hn), e0 n (by omega) (fun q => c q.symm)]
theorem sum_th {σ : MS} {n : Nat} (hn : n ≤ 24) : ∀ l : List Nat, (∀ i ∈ l, ∃ g, g < n ∧ σ.2 8 i = nI g) → sumN (fun g => (l.filter (fun i => decide (¬ σ.2 7 i = 0 ∧ σ.2 8 i = nI g))).length) n = (l.filter (fun i => decide (¬ σ.2 7 i = 0))).length := by
  intro l
  induction l with
  | nil => intro _; exact sumN_z n (fun i _ => rfl)
  | cons i l ih =>
    intro h
    obtain ⟨g, hg, eg⟩ := h i (List.mem_cons_self ..)
    have ih2 := ih (fun j hj => h j (List.mem_cons_of_mem _ hj))
    by_cases c : σ.2 7 i = 0
    · rw [List.filter_cons, if_neg (by simpa using c), ← ih2]
      congr 1
      funext g2
      rw [List.filter_cons, if_neg (by simp [c])]
    · rw [List.filter_cons, if_pos (by simpa using c), List.length_cons, ← ih2]
      rw [sumN_add (f := fun g => (l.filter (fun i => decide (¬ σ.2 7 i = 0 ∧ σ.2 8 i = nI g))).length) (g := fun g2 => if g2 = g then 1 else 0) n (fun g2 h2 => ?_), sumN_1 (f := fun g2 => if g2 = g then 1 else 0) n hg (if_pos rfl) (fun i _ hne => if_neg hne)]
      show (List.filter _ (i :: l)).length = _
      rw [List.filter_cons]
      by_cases d : g2 = g
      · subst d; rw [if_pos (by simpa using ⟨c, eg⟩), if_pos rfl, List.length_cons]
      · rw [if_neg (by simp only [decide_eq_true_eq]; exact fun z => d ((nI_eq (by omega) (by omega)).mp (z.2.symm.trans eg))), if_neg d]
        rfl
theorem cnt_there {σ : MS} {wh : Int32} : ∀ (m j : Nat) (n : Int32), j + m < 2 ^ 31 → lp1_X7_count σ wh m j n = n + nI ((List.range' j m).filter (fun i => decide (¬ σ.2 7 i = 0))).length := by
  intro m
  induction m with
  | zero => intro j n _; rw [lp1_X7_count]; simp [nI_0]
  | succ m ih =>
    intro j n h
    rw [lp1_X7_count, List.range'_succ, List.filter_cons, nI_clamp (by omega)]
    by_cases c : σ.2 7 j = 0
    · rw [if_pos c, ih (j + 1) _ (by omega), if_neg (by simpa using c), Int32.add_zero]
    · rw [if_neg c, ih (j + 1) _ (by omega), if_pos (by simpa using c), List.length_cons, ← nI_1, Int32.add_assoc, Int32.add_comm 1]
set_option maxRecDepth 100000 in
theorem l_there {k : KT} {S : HS} {x n c q p : Nat} {ca pa na : Nat → Nat} {σ : MS} (hI : CX k S x n c q p ca pa na σ) : ∀ (m j : Nat), j + m = n → X k (mt_X6_namesThere (rm 2 0 0)) (Zm k (mt_X6_namesThere (rm 2 0 0)) (Pu (nI (sumN (fun g => (hl σ p g).length) n)) S)) 13 [(0, .ref (x)), (1, .int (nI (sumN (fun g => (hl σ p g).length) j))), (2, .ref (x + 6)), (3, .int (nI n)), (4, .int (nI j))] [] S 0 0 := by
  have hnb := hI.nb
  intro m
  induction m with
  | zero =>
    intro j hj
    refine x_iload 4 dX6_namesThere_13 rfl ?_
    refine x_iload_n 3 dX6_namesThere_15 rfl ?_
    refine x_icmp_ge 42 dX6_namesThere_16 (by decide) (fun c1 => ?_) (fun c1 => ?_)
    · refine x_iload_n 1 dX6_namesThere_42 rfl ?_
      exact x_ireturn dX6_namesThere_43 rfl (Nat.le_of_ble_eq_true rfl) (Nat.le_of_ble_eq_true rfl) ⟨by rw [show j = n by omega], rfl⟩
    · exact absurd (nI_le (by omega) (by omega)) c1
  | succ m ih =>
    intro j hj
    have hg : j < n := by omega
    refine x_iload 4 dX6_namesThere_13 rfl ?_
    refine x_iload_n 3 dX6_namesThere_15 rfl ?_
    refine x_icmp_ge 42 dX6_namesThere_16 (by decide) (fun c1 => ?_) (fun c1 => ?_)
    · exact absurd c1 (nI_ge (by omega) (by omega))
    · refine x_aload_n 2 dX6_namesThere_19 rfl ?_
      refine x_iload 4 dX6_namesThere_20 rfl ?_
      refine x_aaload22 dX6_namesThere_22 hI.l.2.2.2.2.1.1 (by rw [show gL (S) (x + 6) = n from hI.l.2.2.2.2.1.2]; exact (vp_in_nI hg (by omega))) ?_
      rw [nI_clamp (by omega), (hI.l.2.2.2.2.2 j hg).1]
      refine x_astore [(5, .ref (x + 7 + 3 * j)), (0, .ref (x)), (1, .int (nI (sumN (fun g => (hl σ p g).length) j))), (2, .ref (x + 6)), (3, .int (nI n)), (4, .int (nI j))] dX6_namesThere_23 (Nat.le_of_ble_eq_true rfl) rfl ?_
      refine x_iload_n 2 dX6_namesThere_25 rfl ?_
      refine x_aload 0 dX6_namesThere_26 rfl ?_
      refine gf_X6_159 rfl dX6_namesThere_28 (hI.l.2.2.2.2.2 j hg).2.1 ?_
      rw [show gP (S) 65 (x + 7 + 3 * j) = some (x + 9 + 3 * j) from (hI.l.2.2.2.2.2 j hg).2.2.2]
      refine ca_X6_60 [] [.int (nI (sumN (fun g => (hl σ p g).length) j))] (c_al_size (hI.w.2.2.2 j hg).1.1) (hI.w.2.2.2 j hg).1.1 rfl dX6_namesThere_31 rfl rfl ⟨(Nat.le_of_ble_eq_true rfl), (Nat.le_of_ble_eq_true rfl), (Nat.le_of_ble_eq_true rfl), (Nat.le_of_ble_eq_true rfl), (Nat.le_of_ble_eq_true rfl)⟩ (fun v T hq => ?_)
      obtain ⟨rfl, hT⟩ := hq
      obtain rfl := hT.symm
      rw [show gI (S) 2 (x + 9 + 3 * j) = nI (hl σ p j).length from (by rw [(hI.w.2.2.2 j hg).1.2.1, List.length_map])]
      refine x_iadd dX6_namesThere_34 ?_
      refine x_istore_n [(1, .int ((nI (sumN (fun g => (hl σ p g).length) j) + nI (hl σ p j).length))), (5, .ref (x + 7 + 3 * j)), (0, .ref (x)), (2, .ref (x + 6)), (3, .int (nI n)), (4, .int (nI j))] dX6_namesThere_35 (Nat.le_of_ble_eq_true rfl) rfl ?_
      refine x_iinc 5 (nI j + 1) [(4, .int ((nI j + 1))), (1, .int ((nI (sumN (fun g => (hl σ p g).length) j) + nI (hl σ p j).length))), (5, .ref (x + 7 + 3 * j)), (0, .ref (x)), (2, .ref (x + 6)), (3, .int (nI n))] dX6_namesThere_36 rfl rfl (Nat.le_of_ble_eq_true rfl) rfl ?_
      refine x_at 39 rfl ?_
      refine x_goto 13 dX6_namesThere_39 (by decide) ?_
      refine x_lv [(0, .ref (x)), (1, .int (nI (sumN (fun g => (hl σ p g).length) (j + 1)))), (2, .ref (x + 6)), (3, .int (nI n)), (4, .int (nI (j + 1)))] [3, 1, 4, 5, 0] (by rw [← nI_1 j, sumN, ← nI_add]; rfl) ?_
      exact ih (j + 1) (by omega)
set_option maxRecDepth 100000 in
theorem c_namesThere {k : KT} {S : HS} {x n c q p : Nat} {ca pa na : Nat → Nat} {σ : MS} (hI : CX k S x n c q p ca pa na σ)  : Ct k (mt_X6_namesThere (rm 2 0 0)) [.ref x] S (Pu (nI (sumN (fun g => (hl σ p g).length) n)) S) := by
  refine Ct.ofF (by decide +kernel) (Nat.le_of_ble_eq_true rfl) ?_
  refine x_lv [(0, .ref (x))] [0] rfl ?_
  refine x_iconst 0 dX6_namesThere_0 (by decide) ?_
  refine x_istore_n [(1, .int (0)), (0, .ref (x))] dX6_namesThere_1 (Nat.le_of_ble_eq_true rfl) rfl ?_
  refine x_aload_n 1 dX6_namesThere_2 rfl ?_
  refine gf_X6_40 rfl dX6_namesThere_3 hI.l.1 ?_
  rw [show gP (S) 225 (x) = some (x + 6) from hI.l.2.1.1]
  refine x_astore_n [(2, .ref (x + 6)), (1, .int (0)), (0, .ref (x))] dX6_namesThere_6 (Nat.le_of_ble_eq_true rfl) rfl ?_
  refine x_aload_n 0 dX6_namesThere_7 rfl ?_
  refine x_alen dX6_namesThere_8 (Or.inr (Or.inl hI.l.2.2.2.2.1.1)) ?_
  rw [show gL (S) (x + 6) = n from hI.l.2.2.2.2.1.2]
  refine x_istore_n [(3, .int ((nI n))), (2, .ref (x + 6)), (1, .int (0)), (0, .ref (x))] dX6_namesThere_9 (Nat.le_of_ble_eq_true rfl) rfl ?_
  refine x_iconst 0 dX6_namesThere_10 (by decide) ?_
  refine x_istore [(4, .int (0)), (3, .int ((nI n))), (2, .ref (x + 6)), (1, .int (0)), (0, .ref (x))] dX6_namesThere_11 (Nat.le_of_ble_eq_true rfl) rfl ?_
  refine x_lv [(0, .ref (x)), (1, .int (nI (sumN (fun g => (hl σ p g).length) 0))), (2, .ref (x + 6)), (3, .int ((nI n))), (4, .int (nI 0))] [4, 3, 2, 1, 0] rfl ?_
  exact l_there hI n 0 (by omega)
set_option maxRecDepth 100000 in
theorem l_fresh {k : KT} {S : HS} {x n c q p : Nat} {ca pa na : Nat → Nat} {σ : MS} (hI : CX k S x n c q p ca pa na σ) (wh : Int32) : ∀ (m j : Nat) (a : Int32), j + m = n → X k (mt_X6_freshGores (rm 1 0 0)) (Zm k (mt_X6_freshGores (rm 1 0 0)) (Pu (lp2_X7_count σ wh m j a) S)) 13 [(0, .ref (x)), (1, .int (a)), (2, .ref (x + 6)), (3, .int (nI n)), (4, .int (nI j))] [] S 0 0 := by
  have hnb := hI.nb
  intro m
  induction m with
  | zero =>
    intro j a hj
    refine x_iload 4 dX6_freshGores_13 rfl ?_
    refine x_iload_n 3 dX6_freshGores_15 rfl ?_
    refine x_icmp_ge 42 dX6_freshGores_16 (by decide) (fun c1 => ?_) (fun c1 => ?_)
    · refine x_iload_n 1 dX6_freshGores_42 rfl ?_
      exact x_ireturn dX6_freshGores_43 rfl (Nat.le_of_ble_eq_true rfl) (Nat.le_of_ble_eq_true rfl) ⟨by rw [lp2_X7_count], rfl⟩
    · exact absurd (nI_le (by omega) (by omega)) c1
  | succ m ih =>
    intro j a hj
    have hg : j < n := by omega
    refine x_iload 4 dX6_freshGores_13 rfl ?_
    refine x_iload_n 3 dX6_freshGores_15 rfl ?_
    refine x_icmp_ge 42 dX6_freshGores_16 (by decide) (fun c1 => ?_) (fun c1 => ?_)
    · exact absurd c1 (nI_ge (by omega) (by omega))
    · refine x_aload_n 2 dX6_freshGores_19 rfl ?_
      refine x_iload 4 dX6_freshGores_20 rfl ?_
      refine x_aaload22 dX6_freshGores_22 hI.l.2.2.2.2.1.1 (by rw [show gL (S) (x + 6) = n from hI.l.2.2.2.2.1.2]; exact (vp_in_nI hg (by omega))) ?_
      rw [nI_clamp (by omega), (hI.l.2.2.2.2.2 j hg).1]
      refine x_astore [(5, .ref (x + 7 + 3 * j)), (0, .ref (x)), (1, .int (a)), (2, .ref (x + 6)), (3, .int (nI n)), (4, .int (nI j))] dX6_freshGores_23 (Nat.le_of_ble_eq_true rfl) rfl ?_
      refine x_aload 0 dX6_freshGores_25 rfl ?_
      refine gf_X6_146 rfl dX6_freshGores_27 (hI.l.2.2.2.2.2 j hg).2.1 ?_
      rw [show gI (S) 67 (x + 7 + 3 * j) = σ.2 13 j from (hI.m.2 j hg).1]
      refine x_if_eq 36 dX6_freshGores_30 (by decide) (fun c2 => ?_) (fun c2 => ?_)
      · refine x_iinc 5 (nI j + 1) [(4, .int ((nI j + 1))), (5, .ref (x + 7 + 3 * j)), (0, .ref (x)), (1, .int (a)), (2, .ref (x + 6)), (3, .int (nI n))] dX6_freshGores_36 rfl rfl (Nat.le_of_ble_eq_true rfl) rfl ?_
        refine x_goto 13 dX6_freshGores_39 (by decide) ?_
        refine x_lv [(0, .ref (x)), (1, .int (a + 0)), (2, .ref (x + 6)), (3, .int (nI n)), (4, .int (nI (j + 1)))] [2, 3, 4, 5, 0] (by rw [← nI_1 j, Int32.add_zero]; rfl) ?_
        rw [show lp2_X7_count σ wh (m + 1) j a = lp2_X7_count σ wh m (j + 1) (a + 0) from by rw [lp2_X7_count, nI_clamp (by omega), if_pos c2]]
        exact ih (j + 1) _ (by omega)
      · refine x_iinc 2 (a + 1) [(1, .int ((a + 1))), (5, .ref (x + 7 + 3 * j)), (0, .ref (x)), (2, .ref (x + 6)), (3, .int (nI n)), (4, .int (nI j))] dX6_freshGores_33 rfl rfl (Nat.le_of_ble_eq_true rfl) rfl ?_
        refine x_iinc 5 (nI j + 1) [(4, .int ((nI j + 1))), (1, .int ((a + 1))), (5, .ref (x + 7 + 3 * j)), (0, .ref (x)), (2, .ref (x + 6)), (3, .int (nI n))] dX6_freshGores_36 rfl rfl (Nat.le_of_ble_eq_true rfl) rfl ?_
        refine x_goto 13 dX6_freshGores_39 (by decide) ?_
        refine x_lv [(0, .ref (x)), (1, .int ((a + 1))), (2, .ref (x + 6)), (3, .int (nI n)), (4, .int (nI (j + 1)))] [3, 1, 4, 5, 0] (by rw [← nI_1 j]; rfl) ?_
        rw [show lp2_X7_count σ wh (m + 1) j a = lp2_X7_count σ wh m (j + 1) (a + 1) from by rw [lp2_X7_count, nI_clamp (by omega), if_neg c2]]
        exact ih (j + 1) _ (by omega)
set_option maxRecDepth 100000 in
theorem c_freshGores {k : KT} {S : HS} {x n c q p : Nat} {ca pa na : Nat → Nat} {σ : MS} (hI : CX k S x n c q p ca pa na σ) (wh : Int32) : Ct k (mt_X6_freshGores (rm 1 0 0)) [.ref x] S (Pu (lp2_X7_count σ wh n 0 0) S) := by
  refine Ct.ofF (by decide +kernel) (Nat.le_of_ble_eq_true rfl) ?_
  refine x_lv [(0, .ref (x))] [0] rfl ?_
  refine x_iconst 0 dX6_freshGores_0 (by decide) ?_
  refine x_istore_n [(1, .int (0)), (0, .ref (x))] dX6_freshGores_1 (Nat.le_of_ble_eq_true rfl) rfl ?_
  refine x_aload_n 1 dX6_freshGores_2 rfl ?_
  refine gf_X6_40 rfl dX6_freshGores_3 hI.l.1 ?_
  rw [show gP (S) 225 (x) = some (x + 6) from hI.l.2.1.1]
  refine x_astore_n [(2, .ref (x + 6)), (1, .int (0)), (0, .ref (x))] dX6_freshGores_6 (Nat.le_of_ble_eq_true rfl) rfl ?_
  refine x_aload_n 0 dX6_freshGores_7 rfl ?_
  refine x_alen dX6_freshGores_8 (Or.inr (Or.inl hI.l.2.2.2.2.1.1)) ?_
  rw [show gL (S) (x + 6) = n from hI.l.2.2.2.2.1.2]
  refine x_istore_n [(3, .int ((nI n))), (2, .ref (x + 6)), (1, .int (0)), (0, .ref (x))] dX6_freshGores_9 (Nat.le_of_ble_eq_true rfl) rfl ?_
  refine x_iconst 0 dX6_freshGores_10 (by decide) ?_
  refine x_istore [(4, .int (0)), (3, .int ((nI n))), (2, .ref (x + 6)), (1, .int (0)), (0, .ref (x))] dX6_freshGores_11 (Nat.le_of_ble_eq_true rfl) rfl ?_
  refine x_lv [(0, .ref (x)), (1, .int (0)), (2, .ref (x + 6)), (3, .int ((nI n))), (4, .int (nI 0))] [4, 3, 2, 1, 0] rfl ?_
  exact l_fresh hI wh n 0 0 (by omega)
set_option maxRecDepth 100000 in
theorem c_X6_count {k : KT} {S : HS} {x n c q p : Nat} {ca pa na : Nat → Nat} {σ : MS} (hI : CX k S x n c q p ca pa na σ) (wh : Int32) : Ct k (mt_X6_count (rm 3 0 0)) [.ref x, .int wh] S (Pu (h_X7_count σ wh) S) := by
  refine Ct.ofF (by decide +kernel) (Nat.le_of_ble_eq_true rfl) ?_
  refine x_lv [(0, .ref (x)), (1, .int (wh))] [0, 1] rfl ?_
  refine x_iload_n 1 dX6_count_0 rfl ?_
  by_cases c1 : wh = 0
  · refine x_tableIn 39 40 dX6_count_1 (by rw [c1]; decide) (by rw [c1]; decide) (by rw [c1]; rfl) (by decide) ?_
    refine x_aload_n 0 dX6_count_40 rfl ?_
    refine gf_X6_40 rfl dX6_count_41 hI.l.1 ?_
    rw [show gP (S) 225 (x) = some (x + 6) from hI.l.2.1.1]
    refine x_alen dX6_count_44 (Or.inr (Or.inl hI.l.2.2.2.2.1.1)) ?_
    rw [show gL (S) (x + 6) = n from hI.l.2.2.2.2.1.2]
    exact x_ireturn dX6_count_45 rfl (Nat.le_of_ble_eq_true rfl) (Nat.le_of_ble_eq_true rfl) ⟨by rw [h_X7_count, if_pos c1, hI.n1], rfl⟩
  by_cases c2 : wh = 1
  · refine x_tableIn 45 46 dX6_count_1 (by rw [c2]; decide) (by rw [c2]; decide) (by rw [c2]; rfl) (by decide) ?_
    refine x_aload_n 0 dX6_count_46 rfl ?_
    refine gf_X6_12 rfl dX6_count_47 hI.l.1 ?_
    rw [show gP (S) 226 (x) = some (x + 1) from hI.l.2.1.2.1]
    refine ca_X6_60 [] [] (c_al_size hI.cp.1.1) hI.cp.1.1 rfl dX6_count_50 rfl rfl ⟨(Nat.le_of_ble_eq_true rfl), (Nat.le_of_ble_eq_true rfl), (Nat.le_of_ble_eq_true rfl), (Nat.le_of_ble_eq_true rfl), (Nat.le_of_ble_eq_true rfl)⟩ (fun v T hq => ?_)
    obtain ⟨rfl, hT⟩ := hq
    obtain rfl := hT.symm
    rw [show gI (S) 2 (x + 1) = nI c from (by rw [hI.cp.1.2.1, List.length_map, List.length_range])]
    exact x_ireturn dX6_count_53 rfl (Nat.le_of_ble_eq_true rfl) (Nat.le_of_ble_eq_true rfl) ⟨by rw [h_X7_count, if_neg c1, if_pos c2, hI.c1.2], rfl⟩
  by_cases c3 : wh = 2
  · refine x_tableIn 53 54 dX6_count_1 (by rw [c3]; decide) (by rw [c3]; decide) (by rw [c3]; rfl) (by decide) ?_
    refine x_aload_n 0 dX6_count_54 rfl ?_
    refine gf_X6_92 rfl dX6_count_55 hI.l.1 ?_
    rw [show gI (S) 229 (x) = σ.1 6 from hI.m.1.2.1]
    exact x_ireturn dX6_count_58 rfl (Nat.le_of_ble_eq_true rfl) (Nat.le_of_ble_eq_true rfl) ⟨by rw [h_X7_count, if_neg c1, if_neg c2, if_pos c3], rfl⟩
  by_cases c4 : wh = 3
  · refine x_tableIn 58 59 dX6_count_1 (by rw [c4]; decide) (by rw [c4]; decide) (by rw [c4]; rfl) (by decide) ?_
    refine x_aload_n 0 dX6_count_59 rfl ?_
    refine ca_X6_220 [] [] (c_namesThere hI) hI.l.1 rfl dX6_count_60 rfl rfl ⟨(Nat.le_of_ble_eq_true rfl), (Nat.le_of_ble_eq_true rfl), (Nat.le_of_ble_eq_true rfl), (Nat.le_of_ble_eq_true rfl), (Nat.le_of_ble_eq_true rfl)⟩ (fun v T hq => ?_)
    obtain ⟨rfl, rfl⟩ := hq
    exact x_ireturn dX6_count_63 rfl (Nat.le_of_ble_eq_true rfl) (Nat.le_of_ble_eq_true rfl) ⟨by rw [h_X7_count, if_neg c1, if_neg c2, if_neg c3, if_pos c4, hI.p1.2, nI_clamp (by have := hI.p1.1; omega), cnt_there _ _ _ (by have := hI.p1.1; omega), Int32.zero_add, ← List.range_eq_range', ← sum_th hI.nb.2 (List.range p) (fun i hi => (hI.w.2.2.1 i (List.mem_range.mp hi)).2.2.2.2.1)]; rfl, rfl⟩
  by_cases c5 : wh = 4
  · refine x_tableIn 63 64 dX6_count_1 (by rw [c5]; decide) (by rw [c5]; decide) (by rw [c5]; rfl) (by decide) ?_
    refine x_aload_n 0 dX6_count_64 rfl ?_
    refine gf_X6_214 rfl dX6_count_65 hI.l.1 ?_
    rw [show gI (S) 232 (x) = σ.1 21 from hI.m.1.2.2.2.2]
    exact x_ireturn dX6_count_68 rfl (Nat.le_of_ble_eq_true rfl) (Nat.le_of_ble_eq_true rfl) ⟨by rw [h_X7_count, if_neg c1, if_neg c2, if_neg c3, if_neg c4, if_pos c5], rfl⟩
  by_cases c6 : wh = 5
  · refine x_tableIn 68 69 dX6_count_1 (by rw [c6]; decide) (by rw [c6]; decide) (by rw [c6]; rfl) (by decide) ?_
    refine x_aload_n 0 dX6_count_69 rfl ?_
    refine ca_X6_223 [] [] (c_freshGores hI wh) hI.l.1 rfl dX6_count_70 rfl rfl ⟨(Nat.le_of_ble_eq_true rfl), (Nat.le_of_ble_eq_true rfl), (Nat.le_of_ble_eq_true rfl), (Nat.le_of_ble_eq_true rfl), (Nat.le_of_ble_eq_true rfl)⟩ (fun v T hq => ?_)
    obtain ⟨rfl, rfl⟩ := hq
    exact x_ireturn dX6_count_73 rfl (Nat.le_of_ble_eq_true rfl) (Nat.le_of_ble_eq_true rfl) ⟨by rw [h_X7_count, if_neg c1, if_neg c2, if_neg c3, if_neg c4, if_neg c5, if_pos c6, hI.n1, nI_clamp (by have := hI.nb; omega)], rfl⟩
  refine x_tableOut 74 dX6_count_1 (tb_out5 c1 c2 c3 c4 c5 c6) (by decide) ?_
  refine x_iconst (-1) dX6_count_74 (by decide) ?_
  exact x_ireturn dX6_count_75 rfl (Nat.le_of_ble_eq_true rfl) (Nat.le_of_ble_eq_true rfl) ⟨by rw [h_X7_count, if_neg c1, if_neg c2, if_neg c3, if_neg c4, if_neg c5, if_neg c6], rfl⟩
