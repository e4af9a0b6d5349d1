/-- what stands at x .. x + 6 in the constructor's loop -/
def Fx (k : KT) (S : HS) (x n : Nat) : Prop := gK S x = 8 ∧ (gP S 225 x = some (x + 6) ∧ gP S 226 x = some (x + 1) ∧ gP S 227 x = some (x + 2) ∧ gP S 228 x = some (x + 3)) ∧ (gK S (x + 3) = 6 ∧ gP S 160 (x + 3) = some (x + 4) ∧ gP S 161 (x + 3) = some (x + 5)) ∧ (gK S (x + 4) = 20 ∧ gL S (x + 4) = 6 ∧ gK S (x + 5) = 20 ∧ gL S (x + 5) = 6) ∧ (gK S (x + 6) = 22 ∧ gL S (x + 6) = n) ∧ EL k S (x + 1) ∧ EL k S (x + 2) ∧ (gI S 224 x = nI (360 / n) ∧ gI S 229 x = 0 ∧ gI S 230 x = 0 ∧ gI S 231 x = 0 ∧ gI S 232 x = 0)
theorem Fx.bx {k : KT} {S T : HS} {x n : Nat} (h : Fx k S x n) (hB : BX (x + 6) S T) (h1 : gK T (x + 6) = gK S (x + 6)) (h2 : gL T (x + 6) = gL S (x + 6)) : Fx k T x n := by
  obtain ⟨a1, ⟨b1, b2, b3, b4⟩, ⟨c1, c2, c3⟩, ⟨d1, d2, d3, d4⟩, ⟨e1, e2⟩, f1, f2, g1, g2, g3, g4, g5⟩ := h
  obtain ⟨p1, _, _, _, p5, p6⟩ := hB.2 x (by omega)
  obtain ⟨q1, _, _, _, _, q6⟩ := hB.2 (x + 3) (by omega)
  obtain ⟨r1, r2, _⟩ := hB.2 (x + 4) (by omega)
  obtain ⟨s1, s2, _⟩ := hB.2 (x + 5) (by omega)
  exact ⟨p1.trans a1, ⟨(p6 _).trans b1, (p6 _).trans b2, (p6 _).trans b3, (p6 _).trans b4⟩, ⟨q1.trans c1, (q6 _).trans c2, (q6 _).trans c3⟩, ⟨r1.trans d1, r2.trans d2, s1.trans d3, s2.trans d4⟩, ⟨h1.trans e1, h2.trans e2⟩, f1.bx hB (by omega), f2.bx hB (by omega), (p5 _).trans g1, (p5 _).trans g2, (p5 _).trans g3, (p5 _).trans g4, (p5 _).trans g5⟩
def GIv (k : KT) (S0 S : HS) (x n j : Nat) : Prop := gN S = x + 7 + 3 * j ∧ Fx k S x n ∧ (∀ g, g < j → gQ S (x + 6) g = some (x + 7 + 3 * g) ∧ GO k S (x + 7 + 3 * g) ∧ (gI S 66 (x + 7 + 3 * g) = 0 ∧ gI S 67 (x + 7 + 3 * g) = 1 ∧ gI S 68 (x + 7 + 3 * g) = 0)) ∧ LW k S ∧ BX x S0 S
theorem GIv.st {k : KT} {S0 S T : HS} {x n j : Nat} (h : GIv k S0 S x n j) (hN : gN T = x + 7 + 3 * j + 3) (hB : BX (x + 7 + 3 * j) (nO S 2) T) (hK : gK T (x + 7 + 3 * j) = 3 ∧ gP T 64 (x + 7 + 3 * j) = some (x + 7 + 3 * j + 1) ∧ gP T 65 (x + 7 + 3 * j) = some (x + 7 + 3 * j + 2)) (h1 : EL k T (x + 7 + 3 * j + 1)) (h2 : EL k T (x + 7 + 3 * j + 2)) (hi : gI T 66 (x + 7 + 3 * j) = gI (nO S 2) 66 (x + 7 + 3 * j) ∧ gI T 67 (x + 7 + 3 * j) = 1 ∧ gI T 68 (x + 7 + 3 * j) = gI (nO S 2) 68 (x + 7 + 3 * j)) (hW : LW k T) : GIv k S0 (uQ T (x + 6) (va_up (gQ T (x + 6)) j (some (x + 7 + 3 * j)))) x n (j + 1) := by
  obtain ⟨g1, g2, g3, g4, g5⟩ := h
  have hB2 : BX (x + 7 + 3 * j) S T := (BX.nO (by omega) 2).tr hB
  have h6 := hB2.2 (x + 6) (by omega)
  have hz : ∀ f, gI (nO S 2) f (x + 7 + 3 * j) = 0 := fun f => by rw [gI_nO, if_pos g1.symm]
  refine ⟨by rw [gN_uQ, hN]; omega, (g2.bx (hB2.mono (by omega)) h6.1 h6.2.1).bx (BX.uQ (Nat.le_refl _)) rfl rfl, fun g hg => ?_, hW, (g5.tr (hB2.mono (by omega))).tr (BX.uQ (by omega))⟩
  by_cases e : g = j
  · subst e
    exact ⟨by rw [gQ_uQ, if_pos rfl]; exact if_pos rfl, ⟨hK, h1, h2⟩, hi.1.trans (hz 66), hi.2.1, hi.2.2.trans (hz 68)⟩
  · obtain ⟨a1, a2, a3⟩ := g3 g (by omega)
    have hg7 := hB2.2 (x + 7 + 3 * g) (by omega)
    refine ⟨by rw [gQ_uQ, if_pos rfl]; exact (if_neg e).trans (by rw [h6.2.2.2.1]; exact a1), (show GO k T (x + 7 + 3 * g) from GO.bx a2 hB2 (by omega)), (hg7.2.2.2.2.1 66).trans a3.1, (hg7.2.2.2.2.1 67).trans a3.2.1, (hg7.2.2.2.2.1 68).trans a3.2.2⟩
theorem bst0 (σ : MS) : (bstH σ []).1 = 0 := by simp [bstH, sRn, sSt, sGd, sCo]
theorem GIv.ci {k : KT} {S0 S : HS} {x n : Nat} {σ : MS} (h : GIv k S0 S x n n) (hn : n ∈ [6, 8, 9, 10, 12, 15, 18, 20, 24]) (hi : Ini n σ) : CX k S x n 0 0 0 (fun _ => 0) (fun _ => 0) (fun _ => 0) σ := by
  obtain ⟨g1, ⟨f1, f2, f3, f4, f5, f6, f7, f8⟩, g3, g4, g5⟩ := h
  obtain ⟨⟨i1, i2⟩, ⟨i3, i6, i10, i11, i12, i21⟩, i13, i14⟩ := hi
  refine ⟨⟨⟨hn, i1⟩, ⟨by omega, i3⟩, ⟨by omega, i6⟩, ⟨by omega, i12⟩⟩, g4, ⟨f1, f2, f3, f4, f5, fun g hg => ?_⟩, ⟨⟨by rw [i2]; exact f8.1, by rw [i6]; exact f8.2.1, by rw [i10]; exact f8.2.2.1, by rw [i11]; exact f8.2.2.2.1, by rw [i21]; exact f8.2.2.2.2⟩, fun g hg => ?_⟩, ⟨f6.al, fun i j hi => absurd hi (Nat.not_lt_zero _), fun i hi => absurd hi (Nat.not_lt_zero _)⟩, ⟨fun i hi => absurd hi (Nat.not_lt_zero _), fun g hg => ?_⟩, ⟨f7.al, fun i j hi => absurd hi (Nat.not_lt_zero _), fun i hi => absurd hi (Nat.not_lt_zero _), fun g hg => ⟨?_, by show 0 ≤ 6; omega⟩⟩, fun g hg => ⟨?_, fun j hj => absurd hj (Nat.not_lt_zero _)⟩⟩
  · obtain ⟨a1, ⟨a2, a3, a4⟩, a5⟩ := g3 g hg
    obtain ⟨b1, b2, b3⟩ := a2
    exact ⟨a1, b1, by rw [b2]; congr 1; omega, by rw [b3]; congr 1; omega⟩
  · obtain ⟨a1, a2, a3⟩ := g3 g hg
    exact ⟨a3.2.1.trans (i13 g hg).symm, a3.2.2.trans (i14 g hg).symm⟩
  · have := (g3 g hg).2.1.2.1.al
    rw [show x + 7 + 3 * g + 1 = x + 8 + 3 * g by omega] at this
    exact this
  · have := (g3 g hg).2.1.2.2.al
    rw [show x + 7 + 3 * g + 2 = x + 9 + 3 * g by omega] at this
    exact this
  · rw [(g3 g hg).2.2.1]
    show 0 = nI (bstH σ []).1
    rw [bst0]; rfl
set_option maxRecDepth 100000 in
theorem l_cinit {k : KT} {S0 : HS} {x n : Nat} {g0 : Int32} (hn : n ≤ 24) : ∀ (m j : Nat), j + m = n → ∀ S : HS, GIv k S0 S x n j → X k (mt_X6_init (rm 5 78 309)) (Zm k (mt_X6_init (rm 5 78 309)) (fun v T => v = none ∧ GIv k S0 T x n n)) 63 [(0, .ref (x)), (1, .int (g0)), (2, .int (nI n)), (3, .int (nI j))] [] S (6 + 3 * j) (21 + n + 11 * j) := by
  intro m
  induction m with
  | zero =>
    intro j hj S hG
    have e : j = n := by omega
    subst e
    refine x_iload_n 3 dX6_init_63 rfl ?_
    refine x_iload_n 2 dX6_init_64 rfl ?_
    refine x_icmp_ge 87 dX6_init_65 (by decide) (fun _ => ?_) (fun c => absurd (nI_le (Nat.le_refl _) (by omega)) c)
    exact x_return dX6_init_87 rfl (by show 6 + 3 * j ≤ 78; omega) (by show 21 + j + 11 * j ≤ 309; omega) ⟨rfl, hG⟩
  | succ m ih =>
    intro j hj S hG
    refine x_iload_n 3 dX6_init_63 rfl ?_
    refine x_iload_n 2 dX6_init_64 rfl ?_
    refine x_icmp_ge 87 dX6_init_65 (by decide) (fun c => absurd c (nI_ge (by omega) (by omega))) (fun _ => ?_)
    refine x_aload_n 0 dX6_init_68 rfl ?_
    refine gf_X6_40 rfl dX6_init_69 hG.2.1.1 ?_
    rw [hG.2.1.2.1.1]
    refine x_iload_n 3 dX6_init_72 rfl ?_
    refine nw_X6_38 rfl dX6_init_73 (by show 6 + 3 * j + 1 ≤ 78; omega) (by show 21 + n + 11 * j + 5 ≤ 309; omega) ?_
    rw [hG.1]
    refine x_dup dX6_init_76 rfl ?_
    have hW1 : LW k (nO S 2) := hG.2.2.2.1.nO 2
    refine ca_X6_44 [] [.ref (x + 7 + 3 * j), .int (nI j), .ref (x + 6)] (c_X1_init (by rw [gK_nO, if_pos hG.1.symm]) (by rw [gN_nO, hG.1]) hW1) rfl dX6_init_77 rfl rfl ⟨(Nat.le_of_ble_eq_true rfl), (Nat.le_of_ble_eq_true rfl), by show 6 + 3 * j + 1 + 2 ≤ 78; omega, by show 21 + n + 11 * j + 5 + 6 ≤ 309; omega, (Nat.le_of_ble_eq_true rfl)⟩ (fun v T hq => ?_)
    obtain ⟨rfl, q1, q2, q3, q4, q5, q6, q7⟩ := hq
    have hB2 : BX (x + 7 + 3 * j) S T := (BX.nO (by have := hG.1; omega) 2).tr q2
    have h6 := hB2.2 (x + 6) (by omega)
    have hnx := hG.st q1 q2 q3 q4 q5 q6 q7
    refine x_aastore22 dX6_init_80 (by rw [h6.1]; exact hG.2.1.2.2.2.2.1.1) (by rw [h6.2.1, hG.2.1.2.2.2.2.1.2]; exact vp_in_nI (by omega) (by omega)) q3.1 ?_
    rw [nI_clamp (by omega)]
    refine x_iinc 3 (nI j + 1) [(3, .int (nI j + 1)), (0, .ref (x)), (1, .int (g0)), (2, .int (nI n))] dX6_init_81 rfl rfl (Nat.le_of_ble_eq_true rfl) rfl ?_
    refine x_goto 63 dX6_init_84 (by decide) ?_
    refine x_lv [(0, .ref (x)), (1, .int (g0)), (2, .int (nI n)), (3, .int (nI (j + 1)))] [1, 2, 3, 0] (by rw [← nI_1 j]; rfl) ?_
    rw [show 6 + 3 * j + 1 + (rm 4 2 6).cells = 6 + 3 * (j + 1) by show 6 + 3 * j + 1 + 2 = _; omega, show 21 + n + 11 * j + 5 + (rm 4 2 6).slots = 21 + n + 11 * (j + 1) by show 21 + n + 11 * j + 5 + 6 = _; omega]
    exact ih (j + 1) (by omega) _ hnx
set_option maxRecDepth 100000 in
/-- the constructor: a state as a new reference's, for its number of gores -/
theorem c_X6_init {k : KT} {S : HS} {x : Nat} (g0 : Int32) (hN : gN S = x + 1) (hK : gK S x = 8) (h0 : ∀ f, gI S f x = 0) (hW : LW k S) : Ct k (mt_X6_init (rm 5 78 309)) [.ref x, .int g0] S (fun v T => v = none ∧ ∃ n, gnI g0 = nI n ∧ n ∈ [6, 8, 9, 10, 12, 15, 18, 20, 24] ∧ GIv k S T x n n) := by
  obtain ⟨n, hn, en⟩ := gnI_in g0
  have hnb := gor_le hn
  refine Ct.weaken (Q := fun v T => v = none ∧ GIv k S T x n n) ?_ (fun v T h => ⟨h.1, n, en, hn, h.2⟩)
  refine Ct.ofF (by decide +kernel) (Nat.le_of_ble_eq_true rfl) ?_
  refine x_lv [(0, .ref (x)), (1, .int (g0))] [0, 1] rfl ?_
  refine x_aload_n 0 dX6_init_0 rfl ?_
  refine ca_X6_3 rfl dX6_init_1 (Nat.le_of_ble_eq_true rfl) (Nat.le_of_ble_eq_true rfl) ?_
  refine x_aload_n 0 dX6_init_4 rfl ?_
  refine nw_X6_9 rfl dX6_init_5 (Nat.le_of_ble_eq_true rfl) (Nat.le_of_ble_eq_true rfl) ?_
  refine x_dup dX6_init_8 rfl ?_
  refine ca_X6_11 [] [.ref (gN S), .ref (x)] (c_al_init (by rw [gK_nO, if_pos rfl])) rfl dX6_init_9 rfl rfl ⟨(Nat.le_of_ble_eq_true rfl), (Nat.le_of_ble_eq_true rfl), (Nat.le_of_ble_eq_true rfl), (Nat.le_of_ble_eq_true rfl), (Nat.le_of_ble_eq_true rfl)⟩ (fun v T hq => ?_)
  obtain ⟨rfl, rfl⟩ := hq
  refine pf_X6_12 rfl rfl dX6_init_12 (by rw [gK_uP, gK_uI, gK_nO, if_neg (by omega)]; assumption) ?_
  obtain ⟨S1, eS1⟩ : ∃ s9 : HS, s9 = mkL k S 226 (x) := ⟨_, rfl⟩
  rw [show uP (uP (uI (nO S 0) 0 (gN S) 0) 1 (gN S) (some (k.2.2.2.1 0))) 226 (x) (some (gN S)) = S1 from eS1.symm]
  have hN1 : gN S1 = x + 2 := by rw [eS1, mkL_N, hN]
  have hK1 : gK S1 x = 8 := by rw [eS1, mkL_K, if_neg (by omega)]; exact hK
  refine x_aload_n 0 dX6_init_15 rfl ?_
  refine nw_X6_9 rfl dX6_init_16 (Nat.le_of_ble_eq_true rfl) (Nat.le_of_ble_eq_true rfl) ?_
  refine x_dup dX6_init_19 rfl ?_
  refine ca_X6_11 [] [.ref (gN S1), .ref (x)] (c_al_init (by rw [gK_nO, if_pos rfl])) rfl dX6_init_20 rfl rfl ⟨(Nat.le_of_ble_eq_true rfl), (Nat.le_of_ble_eq_true rfl), (Nat.le_of_ble_eq_true rfl), (Nat.le_of_ble_eq_true rfl), (Nat.le_of_ble_eq_true rfl)⟩ (fun v T hq => ?_)
  obtain ⟨rfl, rfl⟩ := hq
  refine pf_X6_16 rfl rfl dX6_init_23 (by rw [gK_uP, gK_uI, gK_nO, if_neg (by omega)]; assumption) ?_
  obtain ⟨S2, eS2⟩ : ∃ s9 : HS, s9 = mkL k S1 227 (x) := ⟨_, rfl⟩
  rw [show uP (uP (uI (nO S1 0) 0 (gN S1) 0) 1 (gN S1) (some (k.2.2.2.1 0))) 227 (x) (some (gN S1)) = S2 from eS2.symm]
  have hN2 : gN S2 = x + 3 := by rw [eS2, mkL_N, hN1]
  have hK2 : gK S2 x = 8 := by rw [eS2, mkL_K, if_neg (by omega)]; exact hK1
  have hW2 : LW k S2 := by rw [eS2]; exact mkL_lw (by rw [eS1]; exact mkL_lw hW (by decide)) (by decide)
  have hl1 : EL k S1 (x + 1) := by rw [← hN, eS1]; exact mkL_el (by omega)
  have hl2 : EL k S2 (x + 2) := by rw [← hN1, eS2]; exact mkL_el (by omega)
  have hl1b : EL k S2 (x + 1) := ⟨by rw [eS2, mkL_K, if_neg (by omega)]; exact hl1.1, by rw [eS2, mkL_I (by omega)]; exact hl1.2.1, by rw [eS2, mkL_P (by omega), if_neg (by omega)]; exact hl1.2.2⟩
  have hP1 : gP S2 226 x = some (x + 1) := by rw [eS2, mkL_P (by omega), if_neg (by omega), eS1, mkL_P (by omega), if_pos ⟨rfl, rfl⟩, hN]
  have hP2 : gP S2 227 x = some (x + 2) := by rw [eS2, mkL_P (by omega), if_pos ⟨rfl, rfl⟩, hN1]
  have hI2 : ∀ f, gI S2 f x = 0 := fun f => by rw [eS2, mkL_I (by omega), eS1, mkL_I (by omega)]; exact h0 f
  have hB2 : BX x S S2 := by rw [eS2]; exact BX.tr (by rw [eS1]; exact mkL_bx (by omega) (Nat.le_refl _)) (mkL_bx (by omega) (Nat.le_refl _))
  clear eS1 eS2
  refine x_aload_n 0 dX6_init_26 rfl ?_
  refine nw_X6_19 rfl dX6_init_27 (Nat.le_of_ble_eq_true rfl) (Nat.le_of_ble_eq_true rfl) ?_
  rw [hN2]
  refine x_dup dX6_init_30 rfl ?_
  refine ca_X6_21 [] [.ref (x + 3), .ref x] (c_X4_init (by rw [gK_nO, if_pos hN2.symm]) (by rw [gN_nO, hN2]) (hW2.nO 5)) rfl dX6_init_31 rfl rfl ⟨(Nat.le_of_ble_eq_true rfl), (Nat.le_of_ble_eq_true rfl), (Nat.le_of_ble_eq_true rfl), (Nat.le_of_ble_eq_true rfl), (Nat.le_of_ble_eq_true rfl)⟩ (fun v S3 hq => ?_)
  obtain ⟨rfl, q1, q2, q3, q4, q5⟩ := hq
  have hB3 : BX (x + 3) S2 S3 := (BX.nO (by omega) 5).tr q2
  obtain ⟨x1, _, _, _, x5, x6⟩ := hB3.2 x (by omega)
  refine pf_X6_22 rfl rfl dX6_init_34 (by rw [x1]; exact hK2) ?_
  refine x_iload_n 1 dX6_init_37 rfl ?_
  refine ca_X6_26 [.int g0] [] (c_goreNumber g0) rfl dX6_init_38 rfl rfl ⟨(Nat.le_of_ble_eq_true rfl), (Nat.le_of_ble_eq_true rfl), (Nat.le_of_ble_eq_true rfl), (Nat.le_of_ble_eq_true rfl), (Nat.le_of_ble_eq_true rfl)⟩ (fun v T hq => ?_)
  obtain ⟨rfl, rfl⟩ := hq
  rw [en]
  refine x_istore_n [(2, .int (nI n)), (0, .ref (x)), (1, .int (g0))] dX6_init_41 (Nat.le_of_ble_eq_true rfl) rfl ?_
  refine x_aload_n 1 dX6_init_42 rfl ?_
  refine x_sipush 360 dX6_init_43 (by decide) ?_
  refine x_iload_n 0 dX6_init_46 rfl ?_
  refine ca_X6_30 [.int 360, .int (nI n)] [.ref x] (c_X6_wholes 360 (nI n)) rfl dX6_init_47 rfl rfl ⟨(Nat.le_of_ble_eq_true rfl), (Nat.le_of_ble_eq_true rfl), (Nat.le_of_ble_eq_true rfl), (Nat.le_of_ble_eq_true rfl), (Nat.le_of_ble_eq_true rfl)⟩ (fun v T hq => ?_)
  obtain ⟨rfl, rfl⟩ := hq
  rw [wh_div (by decide) (by rw [nI_toInt (by omega)]; omega), gor_div hn]
  refine pf_X6_34 rfl rfl dX6_init_50 (by rw [gK_uP, x1]; exact hK2) ?_
  refine x_aload_n 1 dX6_init_53 rfl ?_
  refine x_iload_n 0 dX6_init_54 rfl ?_
  refine x_anew 22 2 n dX6_init_55 tw_2_2 (Or.inl ⟨rfl, rfl, rfl⟩) (nI_pos (by omega)) (nI_clamp (by omega)) (by omega) (Nat.le_of_ble_eq_true rfl) (by show 0 + 3 + 0 + 3 + 0 + 3 + 12 + 0 + 0 + n ≤ 309; omega) ?_
  have hN3 : gN (uI (uP S3 228 x (some (x + 3))) 224 x (nI (360 / n))) = x + 6 := q1
  refine pf_X6_40 rfl rfl dX6_init_58 (by rw [gK_nA, if_neg (by omega), gK_uI, gK_uP, x1]; exact hK2) ?_
  rw [hN3]
  obtain ⟨S5, eS5⟩ : ∃ s9 : HS, s9 = uP (nA (uI (uP S3 228 x (some (x + 3))) 224 x (nI (360 / n))) 22 n) 225 x (some (x + 6)) := ⟨_, rfl⟩
  rw [← eS5]
  have hG : GIv k S S5 x n 0 := by
    rw [eS5]
    have hKn : ∀ a, a ≠ x + 6 → gK (uP (nA (uI (uP S3 228 x (some (x + 3))) 224 x (nI (360 / n))) 22 n) 225 x (some (x + 6))) a = gK S3 a := fun a ha => by rw [gK_uP, gK_nA, hN3, if_neg ha]; rfl
    have hLn : ∀ a, a ≠ x + 6 → gL (uP (nA (uI (uP S3 228 x (some (x + 3))) 224 x (nI (360 / n))) 22 n) 225 x (some (x + 6))) a = gL S3 a := fun a ha => by rw [gL_uP, gL_nA, hN3, if_neg ha]; rfl
    have hPn : ∀ f a, ¬ (f = 225 ∧ a = x) → ¬ (f = 228 ∧ a = x) → gP (uP (nA (uI (uP S3 228 x (some (x + 3))) 224 x (nI (360 / n))) 22 n) 225 x (some (x + 6))) f a = gP S3 f a := fun f a h1 h2 => by rw [gP_uP, if_neg h1, gP_nA, gP_uI, gP_uP, if_neg h2]
    have hIn : ∀ f a, ¬ (f = 224 ∧ a = x) → gI (uP (nA (uI (uP S3 228 x (some (x + 3))) 224 x (nI (360 / n))) 22 n) 225 x (some (x + 6))) f a = gI S3 f a := fun f a h1 => by rw [gI_uP, gI_nA, gI_uI, if_neg h1, gI_uP]
    have b1 := hl1b.bx hB3 (by omega)
    have b2 := hl2.bx hB3 (by omega)
    refine ⟨by rw [gN_uP, gN_nA, hN3], ⟨by rw [hKn _ (by omega), x1]; exact hK2, ⟨by rw [gP_uP, if_pos ⟨rfl, rfl⟩], by rw [hPn _ _ (by omega) (by omega), x6]; exact hP1, by rw [hPn _ _ (by omega) (by omega), x6]; exact hP2, by rw [gP_uP, if_neg (by omega), gP_nA, gP_uI, gP_uP, if_pos ⟨rfl, rfl⟩]⟩, ⟨by rw [hKn _ (by omega)]; exact q3.1, by rw [hPn _ _ (by omega) (by omega)]; exact q3.2.1, by rw [hPn _ _ (by omega) (by omega)]; exact q3.2.2⟩, ⟨by rw [hKn _ (by omega)]; exact q4.1, by rw [hLn _ (by omega)]; exact q4.2.1, by rw [hKn _ (by omega)]; exact q4.2.2.1, by rw [hLn _ (by omega)]; exact q4.2.2.2⟩, ⟨by rw [gK_uP, gK_nA, if_pos hN3.symm], by rw [gL_uP, gL_nA, if_pos hN3.symm]⟩, ⟨by rw [hKn _ (by omega)]; exact b1.1, by rw [hIn _ _ (by omega)]; exact b1.2.1, by rw [hPn _ _ (by omega) (by omega)]; exact b1.2.2⟩, ⟨by rw [hKn _ (by omega)]; exact b2.1, by rw [hIn _ _ (by omega)]; exact b2.2.1, by rw [hPn _ _ (by omega) (by omega)]; exact b2.2.2⟩, by rw [gI_uP, gI_nA, gI_uI, if_pos ⟨rfl, rfl⟩], by rw [hIn _ _ (by omega), x5]; exact hI2 _, by rw [hIn _ _ (by omega), x5]; exact hI2 _, by rw [hIn _ _ (by omega), x5]; exact hI2 _, by rw [hIn _ _ (by omega), x5]; exact hI2 _⟩, fun g hg => absurd hg (Nat.not_lt_zero _), ?_, ?_⟩
    · exact ((((q5.pP 228 x _ (by decide)).pI 224 x _).nA 22 n (by decide)).pP 225 x _ (by decide))
    · exact ((hB2.tr (hB3.mono (by omega))).tr (((BX.uP (Nat.le_refl _)).tr (BX.uI (Nat.le_refl _))).tr (BX.nA (by omega) 22 n))).tr (BX.uP (Nat.le_refl _))
  clear eS5
  refine x_iconst 0 dX6_init_61 (by decide) ?_
  refine x_istore_n [(3, .int 0), (2, .int (nI n)), (0, .ref (x)), (1, .int (g0))] dX6_init_62 (Nat.le_of_ble_eq_true rfl) rfl ?_
  refine x_lv [(0, .ref (x)), (1, .int (g0)), (2, .int (nI n)), (3, .int (nI 0))] [2, 3, 1, 0] rfl ?_
  exact l_cinit hnb.2 n 0 (by omega) S5 hG
