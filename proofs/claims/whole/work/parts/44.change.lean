/-! CHANGE OF NAMES: the state but for the ways of one gore -/
def CBg (S : HS) (x p : Nat) (na : Nat → Nat) (σ : MS) (g : Nat) : Prop := gI S 66 (x + 7 + 3 * g) = nI (bst σ p g).1 ∧ ∀ j, j < (hl σ p g).length → gI S 103 (na ((hl σ p g).getD j 0)) = nI ((bst σ p g).2 j)
def CX0 (k : KT) (S : HS) (x n c q p : Nat) (ca pa na : Nat → Nat) (σ : MS) : Prop := ((n ∈ [6, 8, 9, 10, 12, 15, 18, 20, 24] ∧ σ.1 1 = nI n) ∧ (c ≤ 30 ∧ σ.1 3 = nI c) ∧ (q ≤ 600 ∧ σ.1 6 = nI q) ∧ (p ≤ 60 ∧ σ.1 12 = nI p)) ∧ LW k S ∧ CL S x n ∧ CM S x n σ ∧ CP k S x c ca σ ∧ CQ k S x n q pa σ ∧ CW k S x n p na σ
def SW (na : Nat → Nat) (H : List Nat) (B : Nat → Nat) (j : Nat) (S T : HS) : Prop := (∀ a, gK T a = gK S a) ∧ (∀ f a, f ≠ 103 → gI T f a = gI S f a) ∧ (∀ f a, gP T f a = gP S f a) ∧ (∀ a, gL T a = gL S a) ∧ (∀ a, gR T a = gR S a) ∧ (∀ a, gQ T a = gQ S a) ∧ gN T = gN S ∧ (∀ i, i < j → gI T 103 (na (H.getD i 0)) = nI (B i)) ∧ (∀ a, (∀ i, i < H.length → a ≠ na (H.getD i 0)) → gI T 103 a = gI S 103 a)
theorem SW.rf {na : Nat → Nat} {H : List Nat} {B : Nat → Nat} {S : HS} : SW na H B 0 S S := ⟨fun _ => rfl, fun _ _ _ => rfl, fun _ _ => rfl, fun _ => rfl, fun _ => rfl, fun _ => rfl, rfl, fun i hi => absurd hi (Nat.not_lt_zero _), fun _ _ => rfl⟩
theorem SW.st {na : Nat → Nat} {H : List Nat} {B : Nat → Nat} {j : Nat} {S T : HS} (h : SW na H B j S T) (hj : j < H.length) (hin : ∀ i, i < H.length → ∀ i2, i2 < H.length → na (H.getD i 0) = na (H.getD i2 0) → i = i2) : SW na H B (j + 1) S (uI T 103 (na (H.getD j 0)) (nI (B j))) := by
  obtain ⟨h1, h2, h3, h4, h5, h6, h7, h8, h9⟩ := h
  refine ⟨h1, fun f a hf => by rw [gI_uI, if_neg (fun z => hf z.1)]; exact h2 f a hf, h3, h4, h5, h6, h7, fun i hi => ?_, fun a ha => by rw [gI_uI, if_neg (fun z => ha j hj z.2)]; exact h9 a ha⟩
  rw [gI_uI]
  by_cases e : i = j
  · subst e; rw [if_pos ⟨rfl, rfl⟩]
  · rw [if_neg (fun z => e (hin i (by omega) j hj z.2))]; exact h8 i (by omega)
theorem hl_nodup {σ : MS} {p g : Nat} : (hl σ p g).Nodup := by
  unfold hl
  exact List.Pairwise.filter _ List.nodup_range
theorem getD_mem {l : List Nat} {i : Nat} (h : i < l.length) : l.getD i 0 ∈ l := by
  rw [List.getD_eq_getElem?_getD, List.getElem?_eq_getElem h]; exact List.getElem_mem h
theorem getD_inj {l : List Nat} (hn : l.Nodup) {i j : Nat} (hi : i < l.length) (hj : j < l.length) (h : l.getD i 0 = l.getD j 0) : i = j := by
  rw [List.getD_eq_getElem?_getD, List.getD_eq_getElem?_getD, List.getElem?_eq_getElem hi, List.getElem?_eq_getElem hj] at h
  have hp := List.pairwise_iff_getElem.mp hn
  rcases Nat.lt_trichotomy i j with c | c | c
  · exact absurd h (hp i j hi hj c)
  · exact c
  · exact absurd h.symm (hp j i hj hi c)
section
variable {k : KT} {S T U : HS} {x n c q p g : Nat} {ca pa na : Nat → Nat} {σ : MS}
theorem CX0.tc (h : CX0 k S x n c q p ca pa na σ) (hg : g < n) (hO : okS σ) : TC k S x g n (hl σ p g) na σ := by
  obtain ⟨h1, h2, h3, h4, h5, h6, h7⟩ := h
  have hG := h3.2.2.2.2.2 g hg
  refine ⟨⟨hG.2.1, hG.2.2.2⟩, (h7.2.2.2 g hg).1, (h7.2.2.2 g hg).2, h3.2.2.1, h3.2.2.2.1, fun i hi => ?_, ⟨fun j hj => hO.1.2 j hj, fun j hj => hO.2.2.2.1 j hj⟩⟩
  have hm := (hl_mem.mp (getD_mem hi)).1
  exact ⟨by have := h1.2.2.2.1; omega, h7.2.2.1 _ hm⟩
theorem CX0.p67 {v : Int32} (h : CX0 k S x n c q p ca pa na σ) (hg : g < n) : CX0 k (uI S 67 (x + 7 + 3 * g) v) x n c q p ca pa na (fR σ 13 (upd (σ.2 13) g v)) := by
  obtain ⟨h1, h2, h3, h4, h5, h6, h7⟩ := h
  refine ⟨h1, h2, h3, ⟨h4.1, fun g2 hg2 => ?_⟩, CP.cg rfl rfl ⟨h5.1.pI (by decide), h5.2.1, CPe.pI (S := S) h5.2.2 (by decide) (by decide)⟩, CQ.cg rfl rfl rfl ⟨fun i hi => (h6.1 i hi).pI (by decide), fun g hg => (h6.2 g hg).pI (by decide)⟩, CW.cg ⟨rfl, rfl, rfl, rfl, rfl, rfl, rfl, rfl⟩ ⟨h7.1.pI (by decide), h7.2.1, fun i hi => (h7.2.2.1 i hi).pI (by decide), fun g hg => ⟨(h7.2.2.2 g hg).1.pI (by decide), (h7.2.2.2 g hg).2⟩⟩⟩
  have qq := h4.2 g2 hg2
  refine ⟨?_, qq.2⟩
  rw [gI_uI]
  show _ = upd (σ.2 13) g v g2
  by_cases e : g2 = g
  · subst e; rw [if_pos ⟨rfl, rfl⟩, pk_us]
  · rw [if_neg (by omega), pk_un e]; exact qq.1
theorem CX0.sr (h : CX0 k S x n c q p ca pa na σ) (hS : SR x S T) (hW : LW k T) : CX0 k T x n c q p ca pa na σ := by
  obtain ⟨h1, h2, h3, h4, h5, h6, h7⟩ := h
  have e : ∀ f a, f ≠ 162 → gI T f a = gI S f a := fun f a hf => hS.2.1 f a (fun z => hf z.1)
  refine ⟨h1, hW, ?_, ?_, ⟨h5.1.sr hS, h5.2.1, fun i hi => ?_⟩, ⟨fun i hi => ?_, fun g hg => (h6.2 g hg).sr hS⟩, ⟨h7.1.sr hS, h7.2.1, fun i hi => (h7.2.2.1 i hi).sr hS, fun g hg => ⟨(h7.2.2.2 g hg).1.sr hS, (h7.2.2.2 g hg).2⟩⟩⟩
  · unfold CL
    simp only [hS.1, hS.2.2.1, hS.2.2.2.1, hS.2.2.2.2.2.1]; exact h3
  · refine ⟨by rw [e _ _ (by decide), e _ _ (by decide), e _ _ (by decide), e _ _ (by decide), e _ _ (by decide)]; exact h4.1, fun g hg => ?_⟩
    rw [e _ _ (by decide), e _ _ (by decide)]; exact h4.2 g hg
  · rw [hS.1, e _ _ (by decide), e _ _ (by decide)]; exact h5.2.2 i hi
  · unfold PMi
    rw [hS.1, e _ _ (by decide), e _ _ (by decide), e _ _ (by decide), e _ _ (by decide), e _ _ (by decide)]; exact h6.1 i hi
/-- at the end of changeNames -/
theorem CX0.fin {B : Nat × (Nat → Nat)} {lc : Int32} (h : CX0 k S x n c q p ca pa na σ) (hg : g < n) (hW : SW na (hl σ p g) B.2 (hl σ p g).length S T) (hB : bst σ p g = B) (hl1 : lc = nI B.1) (ho : ∀ g2, g2 < n → g2 ≠ g → CBg S x p na σ g2) (hinj : ∀ i j, i < p → j < p → na i = na j → i = j) : CX k (uI T 66 (x + 7 + 3 * g) lc) x n c q p ca pa na σ := by
  obtain ⟨h1, h2, h3, h4, h5, h6, h7⟩ := h
  obtain ⟨w1, w2, w3, w4, w5, w6, w7, w8, w9⟩ := hW
  have e : ∀ f a, f ≠ 103 → f ≠ 66 → gI (uI T 66 (x + 7 + 3 * g) lc) f a = gI S f a := fun f a h1 h2 => by rw [gI_uI, if_neg (fun z => h2 z.1)]; exact w2 f a h1
  have al : ∀ b l, AL k S b l → AL k (uI T 66 (x + 7 + 3 * g) lc) b l := by
    intro b l ha
    obtain ⟨a1, a2, d, a3, a4⟩ := ha
    refine ⟨by rw [gK_uI, w1]; exact a1, by rw [e _ _ (by decide) (by decide)]; exact a2, d, by rw [gP_uI, w3]; exact a3, ?_⟩
    rw [gK_uI, w1, gL_uI, w4, gQ_uI, w6]; exact a4
  refine ⟨h1, ?_, ?_, ?_, ⟨al _ _ h5.1, h5.2.1, fun i hi => ?_⟩, ⟨fun i hi => ?_, fun g hg => al _ _ (h6.2 g hg)⟩, ⟨al _ _ h7.1, h7.2.1, fun i hi => ?_, fun g hg => ⟨al _ _ (h7.2.2.2 g hg).1, (h7.2.2.2 g hg).2⟩⟩, fun g2 hg2 => ?_⟩
  · unfold LW
    simp only [gN_uI, w7, gK_uI, w1, gP_uI, w3]; exact h2
  · unfold CL
    simp only [gK_uI, w1, gP_uI, w3, gL_uI, w4, gQ_uI, w6]; exact h3
  · refine ⟨by rw [e _ _ (by decide) (by decide), e _ _ (by decide) (by decide), e _ _ (by decide) (by decide), e _ _ (by decide) (by decide), e _ _ (by decide) (by decide)]; exact h4.1, fun g hg => ?_⟩
    rw [e _ _ (by decide) (by decide), e _ _ (by decide) (by decide)]; exact h4.2 g hg
  · rw [gK_uI, w1, e _ _ (by decide) (by decide), e _ _ (by decide) (by decide)]; exact h5.2.2 i hi
  · unfold PMi
    rw [gK_uI, w1, e _ _ (by decide) (by decide), e _ _ (by decide) (by decide), e _ _ (by decide) (by decide), e _ _ (by decide) (by decide), e _ _ (by decide) (by decide)]; exact h6.1 i hi
  · unfold NMi
    rw [gK_uI, w1, e 96 _ (by decide) (by decide), e 97 _ (by decide) (by decide), e 98 _ (by decide) (by decide), e 99 _ (by decide) (by decide), e 100 _ (by decide) (by decide), e 101 _ (by decide) (by decide), e 102 _ (by decide) (by decide), e 104 _ (by decide) (by decide)]; exact h7.2.2.1 i hi
  · by_cases eg : g2 = g
    · subst eg
      refine ⟨by rw [gI_uI, if_pos ⟨rfl, rfl⟩, hl1, hB], fun j hj => ?_⟩
      rw [gI_uI, if_neg (fun z => absurd z.1 (by decide)), hB]
      exact w8 j hj
    · have := ho g2 hg2 eg
      refine ⟨by rw [gI_uI, if_neg (fun z => eg (by omega)), w2 _ _ (by decide)]; exact this.1, fun j hj => ?_⟩
      rw [gI_uI, if_neg (fun z => absurd z.1 (by decide)), w9 _ (fun i hi z => ?_)]
      · exact this.2 j hj
      · have m1 := hl_mem.mp (getD_mem hj)
        have m2 := hl_mem.mp (getD_mem hi)
        have ee := hinj _ _ m1.1 m2.1 z
        rw [ee] at m1
        have := m1.2.2.symm.trans m2.2.2
        have hn := gor_le h1.1.1
        exact eg ((nI_eq (by omega) (by omega)).mp this)
end
set_option maxRecDepth 100000 in
theorem c_changeNames {k : KT} {S : HS} {x n c q p g : Nat} {ca pa na : Nat → Nat} {σ : MS} (h : CX0 k S x n c q p ca pa na σ) (hg : g < n) (hO : okS (fR σ 13 (upd (σ.2 13) g 1))) (ho : ∀ g2, g2 < n → g2 ≠ g → CBg S x p na σ g2) : Ct k (mt_X6_changeNames (rm 13 0 0)) [.ref x, .ref (x + 7 + 3 * g)] S (fun v T => v = none ∧ CX k T x n c q p ca pa na (fR σ 13 (upd (σ.2 13) g 1)) ∧ FX x S T) := by
  have h67 := CX0.p67 (v := 1) h hg
  obtain ⟨τ, hτ⟩ : ∃ τ : MS, τ = fR σ 13 (upd (σ.2 13) g 1) := ⟨_, rfl⟩
  have hcb : ∀ g2, g2 < n → g2 ≠ g → CBg (uI S 67 (x + 7 + 3 * g) 1) x p na τ g2 := fun g2 h1 h2 => by
    have qq := ho g2 h1 h2
    rw [hτ]
    exact ⟨qq.1, fun j hj => qq.2 j hj⟩
  rw [← hτ] at h67 hO ⊢
  refine Ct.ofF (by decide +kernel) (Nat.le_of_ble_eq_true rfl) ?_
  refine x_lv [(0, .ref (x)), (1, .ref (x + 7 + 3 * g))] [0, 1] rfl ?_
  refine x_aload_n 1 dX6_changeNames_0 rfl ?_
  refine x_iconst 1 dX6_changeNames_1 (by decide) ?_
  refine pf_X6_146 rfl dX6_changeNames_2 (by decide) (h.2.2.1.2.2.2.2.2 g hg).2.1 ?_
  obtain ⟨S1, eS1⟩ : ∃ s9 : HS, s9 = uI S 67 (x + 7 + 3 * g) 1 := ⟨_, rfl⟩
  rw [← eS1] at h67 hcb ⊢
  have hF1 : FX x S S1 := by rw [eS1]; exact FX.pI (by decide)
  clear eS1
  have hL1 := h67.2.2.1
  refine x_aload_n 0 dX6_changeNames_5 rfl ?_
  refine gf_X6_22 rfl dX6_changeNames_6 hL1.1 ?_
  rw [hL1.2.1.2.2.2]
  refine x_sipush 595 dX6_changeNames_9 (by decide) ?_
  refine pf_X6_296 rfl dX6_changeNames_12 hL1.2.2.1.1 ?_
  have hS2 : SR x S1 (uI S1 162 (x + 3) 595) := SR.pI
  have h2 : CX0 k (uI S1 162 (x + 3) 595) x n c q p ca pa na τ := h67.sr hS2 h67.2.1
  have hR2 : RB (uI S1 162 (x + 3) 595) x (hl τ p g) (595, fun _ => 0) := ⟨by rw [gI_uI, if_pos ⟨rfl, rfl⟩]; rfl, Nat.le_refl _, fun z => absurd rfl z⟩
  obtain ⟨S2, eS2⟩ : ∃ s9 : HS, s9 = uI S1 162 (x + 3) 595 := ⟨_, rfl⟩
  rw [← eS2] at hS2 h2 hR2 ⊢
  clear eS2
  have hL2 := h2.2.2.1
  have hT2 := h2.tc hg hO
  refine x_aload_n 1 dX6_changeNames_15 rfl ?_
  refine x_aload_n 0 dX6_changeNames_16 rfl ?_
  refine gf_X6_22 rfl dX6_changeNames_17 hL2.1 ?_
  rw [hL2.2.1.2.2.2]
  refine x_iconst 0 dX6_changeNames_20 (by decide) ?_
  refine x_iconst 0 dX6_changeNames_21 (by decide) ?_
  have hlen := hT2.len
  have htr := c_tryWays (k := k) (hl τ p g).length 0 (by omega) S2 (fun _ => 0) (595, fun _ => 0) hT2 (fun j hj => absurd hj (Nat.not_lt_zero _)) (fun j hj => absurd hj (Nat.not_lt_zero _)) hR2
  refine ca_X6_299 [.ref (x + 7 + 3 * g), .ref (x + 3), .int (nI 0), .int (nI 0)] [] htr rfl dX6_changeNames_22 rfl rfl ⟨by show (hl τ p g).length + 6 + 1 ≤ 13; omega, by show 8 + (6 + 11) + 64 * ((hl τ p g).length + 6) ≤ 64 * 13; omega, (Nat.le_of_ble_eq_true rfl), (Nat.le_of_ble_eq_true rfl), (Nat.le_of_ble_eq_true rfl)⟩ (fun v T hq => ?_)
  obtain ⟨rfl, q1, _, q3⟩ := hq
  rw [show val (fun _ => 0) 0 * 5 ^ (hl τ p g).length = 0 by rw [val, Nat.zero_mul]] at q3
  have hbst : bst τ p g = sRn (bOk τ (hl τ p g)) (bAp τ (hl τ p g)) (bCs τ (hl τ p g)) (hl τ p g).length (5 ^ (hl τ p g).length) 0 (595, fun _ => 0) := rfl
  rw [← hbst] at q3
  obtain ⟨B, hB⟩ : ∃ B : Nat × (Nat → Nat), B = bst τ p g := ⟨_, rfl⟩
  rw [← hB] at q3
  have hb4 : B.1 ≤ 594 := by
    rw [hB]
    refine bst_lt hlen (fun i hi => ?_)
    have hj := getD_idxOf hi
    obtain ⟨v, ev, _, v2⟩ := hT2.pr hj.1
    rw [hj.2] at ev
    rw [ev, nI_clamp (by omega)]; exact v2
  have h3 : CX0 k T x n c q p ca pa na τ := h2.sr q1 (by
    unfold LW
    simp only [q1.1, q1.2.2.1, q1.2.2.2.2.2.2]; exact h2.2.1)
  have hcbT : ∀ g2, g2 < n → g2 ≠ g → CBg T x p na τ g2 := fun g2 a1 a2 => by
    have qq := hcb g2 a1 a2
    refine ⟨by rw [q1.2.1 _ _ (by omega), hS2.2.1 _ _ (by omega)]; exact qq.1, fun j hj => by rw [q1.2.1 _ _ (by omega), hS2.2.1 _ _ (by omega)]; exact qq.2 j hj⟩
  have hin : ∀ i, i < (hl τ p g).length → ∀ i2, i2 < (hl τ p g).length → na ((hl τ p g).getD i 0) = na ((hl τ p g).getD i2 0) → i = i2 := fun i hi i2 hi2 e => getD_inj hl_nodup hi hi2 (h3.2.2.2.2.2.2.2.1 _ _ (hl_mem.mp (getD_mem hi)).1 (hl_mem.mp (getD_mem hi2)).1 e)
  have hloop : ∀ (m j : Nat), j + m = (hl τ p g).length → ∀ S' : HS, SW na (hl τ p g) B.2 j T S' → X k (mt_X6_changeNames (rm 13 0 0)) (Zm k (mt_X6_changeNames (rm 13 0 0)) (fun v T => v = none ∧ CX k T x n c q p ca pa na τ ∧ FX x S T)) 27 [(0, .ref (x)), (1, .ref (x + 7 + 3 * g)), (2, .int (nI j))] [] S' 0 0 := by
    intro m
    induction m with
    | zero =>
      intro j hj S' hSW
      have hK := hSW.1
      have hL3 := h3.2.2.1
      have hG3 := hL3.2.2.2.2.2 g hg
      refine x_iload_n 2 dX6_changeNames_27 rfl ?_
      refine x_aload_n 1 dX6_changeNames_28 rfl ?_
      refine gf_X6_159 rfl dX6_changeNames_29 (by rw [hK]; exact hG3.2.1) ?_
      rw [hSW.2.2.1, hG3.2.2.2]
      refine ca_X6_60 [] [.int (nI j)] (c_al_size (by rw [hK]; exact (h3.2.2.2.2.2.2.2.2.2 g hg).1.1)) (by rw [hK]; exact (h3.2.2.2.2.2.2.2.2.2 g hg).1.1) rfl dX6_changeNames_32 rfl rfl ⟨(Nat.le_of_ble_eq_true rfl), (Nat.le_of_ble_eq_true rfl), (Nat.le_of_ble_eq_true rfl), (Nat.le_of_ble_eq_true rfl), (Nat.le_of_ble_eq_true rfl)⟩ (fun v U hq => ?_)
      obtain ⟨rfl, hz9⟩ := hq
      obtain rfl := hz9.symm
      rw [hSW.2.1 _ _ (by decide), (h3.2.2.2.2.2.2.2.2.2 g hg).1.2.1, List.length_map]
      refine x_icmp_ge 79 dX6_changeNames_35 (by decide) (fun _ => ?_) (fun c => absurd (nI_le (by omega) (by omega)) c)
      refine x_aload_n 1 dX6_changeNames_79 rfl ?_
      refine x_aload_n 0 dX6_changeNames_80 rfl ?_
      refine gf_X6_22 rfl dX6_changeNames_81 (by rw [hK]; exact hL3.1) ?_
      rw [hSW.2.2.1, hL3.2.1.2.2.2]
      refine gf_X6_296 rfl dX6_changeNames_84 (by rw [hK]; exact hL3.2.2.1.1) ?_
      rw [hSW.2.1 _ _ (by decide), q3.1]
      refine pf_X6_199 rfl dX6_changeNames_87 (by rw [hK]; exact hG3.2.1) ?_
      have hj2 : j = (hl τ p g).length := by omega
      rw [hj2] at hSW
      have hfin := h3.fin (lc := nI B.1) hg hSW hB.symm rfl hcbT h3.2.2.2.2.2.2.2.1
      refine x_return dX6_changeNames_90 rfl (Nat.le_of_ble_eq_true rfl) (Nat.le_of_ble_eq_true rfl) ⟨rfl, hfin, ?_⟩
      have hFS : FX x T S' := ⟨by rw [hSW.2.2.2.2.2.2.1]; exact Nat.le_refl _, fun a _ => ⟨hSW.1 a, hSW.2.2.2.1 a, fun _ _ => hSW.2.2.2.2.1 a⟩, fun f a hf _ => ⟨hSW.2.1 f a (by omega), hSW.2.2.1 f a⟩⟩
      exact FX.tr (FX.tr (FX.tr (FX.tr hF1 hS2.fx) q1.fx) hFS) (FX.pI (by decide))
    | succ m ih =>
      intro j hj S' hSW
      have hK := hSW.1
      have hL3 := h3.2.2.1
      have hG3 := hL3.2.2.2.2.2 g hg
      have hA3 := (h3.2.2.2.2.2.2.2.2.2 g hg).1
      have hA4 : AL k S' (x + 9 + 3 * g) ((hl τ p g).map na) := by
        obtain ⟨a1, a2, d, a3, a4⟩ := hA3
        refine ⟨by rw [hK]; exact a1, by rw [hSW.2.1 _ _ (by decide)]; exact a2, d, by rw [hSW.2.2.1]; exact a3, ?_⟩
        rw [hK, hSW.2.2.2.1, hSW.2.2.2.2.2.1]; exact a4
      refine x_iload_n 2 dX6_changeNames_27 rfl ?_
      refine x_aload_n 1 dX6_changeNames_28 rfl ?_
      refine gf_X6_159 rfl dX6_changeNames_29 (by rw [hK]; exact hG3.2.1) ?_
      rw [hSW.2.2.1, hG3.2.2.2]
      refine ca_X6_60 [] [.int (nI j)] (c_al_size hA4.1) hA4.1 rfl dX6_changeNames_32 rfl rfl ⟨(Nat.le_of_ble_eq_true rfl), (Nat.le_of_ble_eq_true rfl), (Nat.le_of_ble_eq_true rfl), (Nat.le_of_ble_eq_true rfl), (Nat.le_of_ble_eq_true rfl)⟩ (fun v U hq => ?_)
      obtain ⟨rfl, hz9⟩ := hq
      obtain rfl := hz9.symm
      rw [hA4.2.1, List.length_map]
      refine x_icmp_ge 79 dX6_changeNames_35 (by decide) (fun c => absurd c (nI_ge (by omega) (by omega))) (fun _ => ?_)
      refine x_iload_n 2 dX6_changeNames_38 rfl ?_
      refine x_aload_n 0 dX6_changeNames_39 rfl ?_
      refine gf_X6_22 rfl dX6_changeNames_40 (by rw [hK]; exact hL3.1) ?_
      rw [hSW.2.2.1, hL3.2.1.2.2.2]
      refine gf_X6_303 rfl dX6_changeNames_43 (by rw [hK]; exact hL3.2.2.1.1) ?_
      rw [hSW.2.2.1, hL3.2.2.1.2.2]
      refine x_alen dX6_changeNames_46 (Or.inl (by rw [hK]; exact hL3.2.2.2.1.2.2.1)) ?_
      rw [hSW.2.2.2.1, hL3.2.2.2.1.2.2.2]
      refine x_icmp_ge 79 dX6_changeNames_47 (by decide) (fun c => absurd c (nI_ge (by omega) (by omega))) (fun _ => ?_)
      refine x_aload_n 1 dX6_changeNames_50 rfl ?_
      refine gf_X6_159 rfl dX6_changeNames_51 (by rw [hK]; exact hG3.2.1) ?_
      rw [hSW.2.2.1, hG3.2.2.2]
      refine x_iload_n 2 dX6_changeNames_54 rfl ?_
      refine ca_X6_116 [.int (nI j)] [] (c_al_get (k := k) hA4 (i := j) (by rw [List.length_map]; omega)) hA4.1 rfl dX6_changeNames_55 rfl rfl ⟨(Nat.le_of_ble_eq_true rfl), (Nat.le_of_ble_eq_true rfl), (Nat.le_of_ble_eq_true rfl), (Nat.le_of_ble_eq_true rfl), (Nat.le_of_ble_eq_true rfl)⟩ (fun v U hq => ?_)
      obtain ⟨rfl, hz9⟩ := hq
      obtain rfl := hz9.symm
      rw [hget]
      have hnk : gK S' (na ((hl τ p g).getD j 0)) = 4 := by rw [hK]; exact (h3.2.2.2.2.2.2.2.2.1 _ (hl_mem.mp (getD_mem (show j < (hl τ p g).length by omega))).1).1
      refine cc_X6_163 rfl dX6_changeNames_58 hnk ?_
      refine x_aload_n 0 dX6_changeNames_61 rfl ?_
      refine gf_X6_22 rfl dX6_changeNames_62 (by rw [hK]; exact hL3.1) ?_
      rw [hSW.2.2.1, hL3.2.1.2.2.2]
      refine gf_X6_303 rfl dX6_changeNames_65 (by rw [hK]; exact hL3.2.2.1.1) ?_
      rw [hSW.2.2.1, hL3.2.2.1.2.2]
      refine x_iload_n 2 dX6_changeNames_68 rfl ?_
      refine x_iaload dX6_changeNames_69 (by rw [hK]; exact hL3.2.2.2.1.2.2.1) (by rw [hSW.2.2.2.1, hL3.2.2.2.1.2.2.2]; exact vp_in_nI (by omega) (by decide)) ?_
      rw [hSW.2.2.2.2.1, nI_clamp (by omega), q3.2.2 (by omega) j (by omega)]
      refine pf_X6_196 rfl dX6_changeNames_70 hnk ?_
      refine x_iinc 2 (nI j + 1) [(2, .int (nI j + 1)), (0, .ref (x)), (1, .ref (x + 7 + 3 * g))] dX6_changeNames_73 rfl rfl (Nat.le_of_ble_eq_true rfl) rfl ?_
      refine x_goto 27 dX6_changeNames_76 (by decide) ?_
      refine x_lv [(0, .ref (x)), (1, .ref (x + 7 + 3 * g)), (2, .int (nI (j + 1)))] [1, 2, 0] (by rw [← nI_1 j]; rfl) ?_
      exact ih (j + 1) (by omega) _ (hSW.st (by omega) hin)
  refine x_iconst 0 dX6_changeNames_25 (by decide) ?_
  refine x_istore_n [(2, .int 0), (0, .ref (x)), (1, .ref (x + 7 + 3 * g))] dX6_changeNames_26 (Nat.le_of_ble_eq_true rfl) rfl ?_
  refine x_lv [(0, .ref (x)), (1, .ref (x + 7 + 3 * g)), (2, .int (nI 0))] [1, 2, 0] rfl ?_
  exact hloop (hl τ p g).length 0 (by omega) T SW.rf
