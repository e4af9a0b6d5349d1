/-! THE CONSTRUCTOR: below lo nothing changes -/
def BX (lo : Nat) (S T : HS) : Prop := gN S ≤ gN T ∧ ∀ a, a < lo → gK T a = gK S a ∧ gL T a = gL S a ∧ gR T a = gR S a ∧ gQ T a = gQ S a ∧ (∀ f, gI T f a = gI S f a) ∧ ∀ f, gP T f a = gP S f a
section
variable {k : KT} {lo : Nat} {S T U : HS}
theorem BX.rf : BX lo S S := ⟨Nat.le_refl _, fun _ _ => ⟨rfl, rfl, rfl, rfl, fun _ => rfl, fun _ => rfl⟩⟩
theorem BX.tr (h1 : BX lo S T) (h2 : BX lo T U) : BX lo S U := ⟨Nat.le_trans h1.1 h2.1, fun a ha => by
  obtain ⟨a1, a2, a3, a4, a5, a6⟩ := h1.2 a ha
  obtain ⟨b1, b2, b3, b4, b5, b6⟩ := h2.2 a ha
  exact ⟨b1.trans a1, b2.trans a2, b3.trans a3, b4.trans a4, fun f => (b5 f).trans (a5 f), fun f => (b6 f).trans (a6 f)⟩⟩
theorem BX.mono {lo2 : Nat} (h : BX lo S T) (hl : lo2 ≤ lo) : BX lo2 S T := ⟨h.1, fun a ha => h.2 a (by omega)⟩
theorem BX.nO (h : lo ≤ gN S) (c : Nat) : BX lo S (nO S c) := ⟨by rw [gN_nO]; omega, fun a ha => ⟨by rw [gK_nO, if_neg (by omega)], rfl, rfl, rfl, fun f => by rw [gI_nO, if_neg (by omega)], fun f => by rw [gP_nO, if_neg (by omega)]⟩⟩
theorem BX.nA (h : lo ≤ gN S) (kd n : Nat) : BX lo S (nA S kd n) := ⟨by rw [gN_nA]; omega, fun a ha => ⟨by rw [gK_nA, if_neg (by omega)], by rw [gL_nA, if_neg (by omega)], by rw [gR_nA, if_neg (by omega)], by rw [gQ_nA, if_neg (by omega)], fun f => rfl, fun f => rfl⟩⟩
theorem BX.uI {f a : Nat} {v : Int32} (h : lo ≤ a) : BX lo S (uI S f a v) := ⟨Nat.le_refl _, fun b hb => ⟨rfl, rfl, rfl, rfl, fun g => by rw [gI_uI, if_neg (by omega)], fun g => rfl⟩⟩
theorem BX.uP {f a : Nat} {v : Option Nat} (h : lo ≤ a) : BX lo S (uP S f a v) := ⟨Nat.le_refl _, fun b hb => ⟨rfl, rfl, rfl, rfl, fun g => rfl, fun g => by rw [gP_uP, if_neg (by omega)]⟩⟩
theorem BX.uQ {a : Nat} {r : Nat → Option Nat} (h : lo ≤ a) : BX lo S (uQ S a r) := ⟨Nat.le_refl _, fun b hb => ⟨rfl, rfl, rfl, by rw [gQ_uQ, if_neg (by omega)], fun g => rfl, fun g => rfl⟩⟩
end
/-- an empty list -/
def EL (k : KT) (S : HS) (a : Nat) : Prop := gK S a = 1 ∧ gI S 2 a = 0 ∧ gP S 1 a = some (k.2.2.2.1 0)
theorem EL.al {k : KT} {S : HS} {a : Nat} (h : EL k S a) : AL k S a [] := ⟨h.1, h.2.1, _, h.2.2, Or.inl ⟨rfl, rfl⟩⟩
theorem EL.bx {k : KT} {S T : HS} {a lo : Nat} (h : EL k S a) (hB : BX lo S T) (ha : a < lo) : EL k T a := by
  obtain ⟨b1, _, _, _, b5, b6⟩ := hB.2 a ha
  exact ⟨b1.trans h.1, (b5 2).trans h.2.1, (b6 1).trans h.2.2⟩
/-- the list at the next address, just made, and laid into the field f of b -/
def mkL (k : KT) (S : HS) (f b : Nat) : HS := uP (uP (uI (nO S 0) 0 (gN S) 0) 1 (gN S) (some (k.2.2.2.1 0))) f b (some (gN S))
theorem mkL_K {k : KT} {S : HS} {f b a : Nat} : gK (mkL k S f b) a = if a = gN S then 1 else gK S a := rfl
theorem mkL_N {k : KT} {S : HS} {f b : Nat} : gN (mkL k S f b) = gN S + 1 := rfl
theorem mkL_bx {k : KT} {S : HS} {f b lo : Nat} (h1 : lo ≤ gN S) (h2 : lo ≤ b) : BX lo S (mkL k S f b) := (((BX.nO h1 0).tr (BX.uI h1)).tr (BX.uP h1)).tr (BX.uP h2)
theorem mkL_P {k : KT} {S : HS} {f b g a : Nat} (ha : a ≠ gN S) : gP (mkL k S f b) g a = if g = f ∧ a = b then some (gN S) else gP S g a := by
  unfold mkL
  rw [gP_uP, gP_uP, if_neg (fun q => ha q.2 : ¬ (g = 1 ∧ a = gN S)), gP_uI, gP_nO, if_neg ha]
theorem mkL_I {k : KT} {S : HS} {f b g a : Nat} (ha : a ≠ gN S) : gI (mkL k S f b) g a = gI S g a := by
  unfold mkL
  rw [gI_uP, gI_uP, gI_uI, if_neg (fun q => ha q.2), gI_nO, if_neg ha]
theorem mkL_el {k : KT} {S : HS} {f b : Nat} (hb : b ≠ gN S) : EL k (mkL k S f b) (gN S) := by
  refine ⟨by rw [mkL_K, if_pos rfl], ?_, ?_⟩
  · unfold mkL; rw [gI_uP, gI_uP, gI_uI, if_neg (by omega), gI_nO, if_pos rfl]
  · unfold mkL; rw [gP_uP, if_neg (fun q => hb q.2.symm), gP_uP, if_pos ⟨rfl, rfl⟩]
theorem mkL_lw {k : KT} {S : HS} {f b : Nat} (h : LW k S) (hf : f ≠ 1) : LW k (mkL k S f b) := by
  have h0 := h.1
  refine ⟨by rw [mkL_N]; omega, fun a ha => ?_, fun a c d ha hc ha2 hc2 => ?_, fun a d ha ha2 => ?_⟩
  · rw [mkL_K] at ha; rw [mkL_N]
    by_cases e : a = gN S
    · omega
    · rw [if_neg e] at ha; have := h.2.1 a ha; omega
  · by_cases e : a = gN S
    · left
      unfold mkL at ha2
      rw [gP_uP, if_neg (fun q => hf q.1.symm), gP_uP, if_pos ⟨rfl, e⟩] at ha2
      simpa using ha2.symm
    · by_cases e2 : c = gN S
      · left
        unfold mkL at hc2
        rw [gP_uP, if_neg (fun q => hf q.1.symm), gP_uP, if_pos ⟨rfl, e2⟩] at hc2
        simpa using hc2.symm
      · rw [mkL_K, if_neg e] at ha; rw [mkL_K, if_neg e2] at hc
        rw [mkL_P e, if_neg (fun q => hf q.1.symm)] at ha2
        rw [mkL_P e2, if_neg (fun q => hf q.1.symm)] at hc2
        exact h.2.2.1 a c d ha hc ha2 hc2
  · rw [mkL_N]
    by_cases e : a = gN S
    · unfold mkL at ha2
      rw [gP_uP, if_neg (fun q => hf q.1.symm), gP_uP, if_pos ⟨rfl, e⟩] at ha2
      have : k.2.2.2.1 0 = d := by simpa using ha2
      omega
    · rw [mkL_K, if_neg e] at ha
      rw [mkL_P e, if_neg (fun q => hf q.1.symm)] at ha2
      have := h.2.2.2 a d ha ha2; omega
theorem LW.nA {k : KT} {S : HS} (h : LW k S) (kd n : Nat) (hk : kd ≠ 1) : LW k (nA S kd n) := by
  refine ⟨by rw [gN_nA]; have := h.1; omega, fun a ha => ?_, fun a b d ha hb ha2 hb2 => ?_, fun a d ha ha2 => ?_⟩
  · rw [gK_nA] at ha; rw [gN_nA]
    by_cases e : a = gN S
    · omega
    · rw [if_neg e] at ha; have := h.2.1 a ha; omega
  · rw [gK_nA] at ha hb
    rw [gP_nA] at ha2 hb2
    by_cases e : a = gN S
    · rw [if_pos e] at ha; omega
    · by_cases e2 : b = gN S
      · rw [if_pos e2] at hb; omega
      · rw [if_neg e] at ha; rw [if_neg e2] at hb; exact h.2.2.1 a b d ha hb ha2 hb2
  · rw [gK_nA] at ha
    rw [gN_nA]
    by_cases e : a = gN S
    · rw [if_pos e] at ha; omega
    · rw [if_neg e] at ha; have := h.2.2.2 a d ha ha2; omega
theorem LW.pP {k : KT} {S : HS} (h : LW k S) (f a : Nat) (v : Option Nat) (hf : f ≠ 1) : LW k (uP S f a v) := by
  refine ⟨h.1, h.2.1, fun a b d ha hb ha2 hb2 => ?_, fun a d ha ha2 => ?_⟩
  · rw [gP_uP, if_neg (fun q => hf q.1.symm)] at ha2 hb2; exact h.2.2.1 a b d ha hb ha2 hb2
  · rw [gP_uP, if_neg (fun q => hf q.1.symm)] at ha2; exact h.2.2.2 a d ha ha2
theorem LW.pQ {k : KT} {S : HS} (h : LW k S) (a : Nat) (r : Nat → Option Nat) : LW k (uQ S a r) := h
/-- what a new gore is, at a -/
def GO (k : KT) (S : HS) (a : Nat) : Prop := (gK S a = 3 ∧ gP S 64 a = some (a + 1) ∧ gP S 65 a = some (a + 2)) ∧ EL k S (a + 1) ∧ EL k S (a + 2)
theorem GO.bx {k : KT} {S T : HS} {a lo : Nat} (h : GO k S a) (hB : BX lo S T) (ha : a + 2 < lo) : GO k T a := by
  obtain ⟨b1, _, _, _, _, b6⟩ := hB.2 a (by omega)
  exact ⟨⟨b1.trans h.1.1, (b6 64).trans h.1.2.1, (b6 65).trans h.1.2.2⟩, h.2.1.bx hB (by omega), h.2.2.bx hB (by omega)⟩
set_option maxRecDepth 100000 in
theorem c_X1_init {k : KT} {S : HS} {a : Nat} (hK : gK S a = 3) (hN : gN S = a + 1) (hW : LW k S) : Ct k (mt_X1_init (rm 4 2 6)) [.ref a] S (fun v T => v = none ∧ gN T = a + 3 ∧ BX a S T ∧ (gK T a = 3 ∧ gP T 64 a = some (a + 1) ∧ gP T 65 a = some (a + 2)) ∧ EL k T (a + 1) ∧ EL k T (a + 2) ∧ (gI T 66 a = gI S 66 a ∧ gI T 67 a = 1 ∧ gI T 68 a = gI S 68 a) ∧ LW k T) := by
  refine Ct.ofF (by decide +kernel) (Nat.le_of_ble_eq_true rfl) ?_
  refine x_lv [(0, .ref (a))] [0] rfl ?_
  refine x_aload_n 0 dX1_init_0 rfl ?_
  refine ca_X1_1 rfl dX1_init_1 (Nat.le_of_ble_eq_true rfl) (Nat.le_of_ble_eq_true rfl) ?_
  refine x_aload_n 0 dX1_init_4 rfl ?_
  refine nw_X1_7 rfl dX1_init_5 (Nat.le_of_ble_eq_true rfl) (Nat.le_of_ble_eq_true rfl) ?_
  refine x_dup dX1_init_8 rfl ?_
  refine ca_X1_9 [] [.ref (gN S), .ref (a)] (c_al_init (by rw [gK_nO, if_pos rfl])) rfl dX1_init_9 rfl rfl ⟨(Nat.le_of_ble_eq_true rfl), (Nat.le_of_ble_eq_true rfl), (Nat.le_of_ble_eq_true rfl), (Nat.le_of_ble_eq_true rfl), (Nat.le_of_ble_eq_true rfl)⟩ (fun v T hq => ?_)
  obtain ⟨rfl, rfl⟩ := hq
  refine pf_X1_10 rfl rfl dX1_init_12 (by rw [gK_uP, gK_uI, gK_nO, if_neg (by omega)]; assumption) ?_
  obtain ⟨S1, eS1⟩ : ∃ s9 : HS, s9 = mkL k S 64 (a) := ⟨_, rfl⟩
  rw [show uP (uP (uI (nO S 0) 0 (gN S) 0) 1 (gN S) (some (k.2.2.2.1 0))) 64 (a) (some (gN S)) = S1 from eS1.symm]
  have hN1 : gN S1 = a + 2 := by rw [eS1, mkL_N, hN]
  have hK1 : gK S1 a = 3 := by rw [eS1, mkL_K, if_neg (by omega)]; exact hK
  refine x_aload_n 0 dX1_init_15 rfl ?_
  refine nw_X1_7 rfl dX1_init_16 (Nat.le_of_ble_eq_true rfl) (Nat.le_of_ble_eq_true rfl) ?_
  refine x_dup dX1_init_19 rfl ?_
  refine ca_X1_9 [] [.ref (gN S1), .ref (a)] (c_al_init (by rw [gK_nO, if_pos rfl])) rfl dX1_init_20 rfl rfl ⟨(Nat.le_of_ble_eq_true rfl), (Nat.le_of_ble_eq_true rfl), (Nat.le_of_ble_eq_true rfl), (Nat.le_of_ble_eq_true rfl), (Nat.le_of_ble_eq_true rfl)⟩ (fun v T hq => ?_)
  obtain ⟨rfl, rfl⟩ := hq
  refine pf_X1_16 rfl rfl dX1_init_23 (by rw [gK_uP, gK_uI, gK_nO, if_neg (by omega)]; assumption) ?_
  obtain ⟨S2, eS2⟩ : ∃ s9 : HS, s9 = mkL k S1 65 (a) := ⟨_, rfl⟩
  rw [show uP (uP (uI (nO S1 0) 0 (gN S1) 0) 1 (gN S1) (some (k.2.2.2.1 0))) 65 (a) (some (gN S1)) = S2 from eS2.symm]
  have hK2 : gK S2 a = 3 := by rw [eS2, mkL_K, if_neg (by omega)]; exact hK1
  refine x_aload_n 0 dX1_init_26 rfl ?_
  refine x_iconst 1 dX1_init_27 (by decide) ?_
  refine pf_X1_19 rfl dX1_init_28 (by decide) hK2 ?_
  have hb1 : BX a S S1 := by rw [eS1]; exact mkL_bx (by omega) (Nat.le_refl _)
  have hb2 : BX a S1 S2 := by rw [eS2]; exact mkL_bx (by omega) (Nat.le_refl _)
  have hb2b : BX (a + 2) S1 S2 ∨ True := Or.inr trivial
  have hl1 : EL k S1 (a + 1) := by rw [← hN, eS1]; exact mkL_el (by omega)
  have hl2 : EL k S2 (a + 2) := by rw [← hN1, eS2]; exact mkL_el (by omega)
  have hl1b : EL k S2 (a + 1) := ⟨by rw [eS2, mkL_K, if_neg (by omega)]; exact hl1.1, by rw [eS2, mkL_I (by omega)]; exact hl1.2.1, by rw [eS2, mkL_P (by omega), if_neg (by omega)]; exact hl1.2.2⟩
  have hP1 : gP S2 64 a = some (a + 1) := by rw [eS2, mkL_P (by omega), if_neg (by omega), eS1, mkL_P (by omega), if_pos ⟨rfl, rfl⟩, hN]
  have hP2 : gP S2 65 a = some (a + 2) := by rw [eS2, mkL_P (by omega), if_pos ⟨rfl, rfl⟩, hN1]
  have hI2 : ∀ f, gI S2 f a = gI S f a := fun f => by rw [eS2, mkL_I (by omega), eS1, mkL_I (by omega)]
  have hN2 : gN S2 = a + 3 := by rw [eS2, mkL_N, hN1]
  have hW2 : LW k S2 := by rw [eS2]; exact mkL_lw (by rw [eS1]; exact mkL_lw hW (by decide)) (by decide)
  clear eS1 eS2
  exact x_return dX1_init_31 rfl (Nat.le_of_ble_eq_true rfl) (Nat.le_of_ble_eq_true rfl) ⟨rfl, hN2, (hb1.tr hb2).tr (BX.uI (Nat.le_refl _)), ⟨hK2, hP1, hP2⟩, ⟨hl1b.1, hl1b.2.1, hl1b.2.2⟩, ⟨hl2.1, hl2.2.1, hl2.2.2⟩, ⟨by rw [gI_uI, if_neg (by omega)]; exact hI2 66, by rw [gI_uI, if_pos ⟨rfl, rfl⟩], by rw [gI_uI, if_neg (by omega)]; exact hI2 68⟩, hW2⟩
set_option maxRecDepth 100000 in
theorem c_X4_init {k : KT} {S : HS} {a : Nat} (hK : gK S a = 6) (hN : gN S = a + 1) (hW : LW k S) : Ct k (mt_X4_init (rm 1 2 12)) [.ref a] S (fun v T => v = none ∧ gN T = a + 3 ∧ BX a S T ∧ (gK T a = 6 ∧ gP T 160 a = some (a + 1) ∧ gP T 161 a = some (a + 2)) ∧ (gK T (a + 1) = 20 ∧ gL T (a + 1) = 6 ∧ gK T (a + 2) = 20 ∧ gL T (a + 2) = 6) ∧ LW k T) := by
  refine Ct.ofF (by decide +kernel) (Nat.le_of_ble_eq_true rfl) ?_
  refine x_lv [(0, .ref (a))] [0] rfl ?_
  refine x_aload_n 0 dX4_init_0 rfl ?_
  refine ca_X4_3 rfl dX4_init_1 (Nat.le_of_ble_eq_true rfl) (Nat.le_of_ble_eq_true rfl) ?_
  refine x_aload_n 0 dX4_init_4 rfl ?_
  refine x_bipush 6 dX4_init_5 (by decide) ?_
  refine x_newaI 6 dX4_init_7 tk_1 (by decide) rfl (by decide) (Nat.le_of_ble_eq_true rfl) (Nat.le_of_ble_eq_true rfl) ?_
  refine pf_X4_9 rfl rfl dX4_init_9 (by rw [gK_nA, if_neg (by omega)]; exact hK) ?_
  refine x_aload_n 0 dX4_init_12 rfl ?_
  refine x_bipush 6 dX4_init_13 (by decide) ?_
  refine x_newaI 6 dX4_init_15 tk_1 (by decide) rfl (by decide) (Nat.le_of_ble_eq_true rfl) (Nat.le_of_ble_eq_true rfl) ?_
  have hN1 : gN (uP (nA S 20 6) 160 a (some (gN S))) = a + 2 := by rw [gN_uP, gN_nA, hN]
  refine pf_X4_15 rfl rfl dX4_init_17 (by rw [gK_nA, if_neg (by omega), gK_uP, gK_nA, if_neg (by omega)]; exact hK) ?_
  refine x_return dX4_init_20 rfl (Nat.le_of_ble_eq_true rfl) (Nat.le_of_ble_eq_true rfl) ⟨rfl, ?_, ?_, ⟨?_, ?_, ?_⟩, ⟨?_, ?_, ?_, ?_⟩, ?_⟩
  · rw [gN_uP, gN_nA, hN1]
  · exact (((BX.nA (by omega) 20 6).tr (BX.uP (Nat.le_refl _))).tr (BX.nA (by omega) 20 6)).tr (BX.uP (Nat.le_refl _))
  · rw [gK_uP, gK_nA, if_neg (by omega), gK_uP, gK_nA, if_neg (by omega)]; exact hK
  · rw [gP_uP, if_neg (by omega), gP_nA, gP_uP, if_pos ⟨rfl, rfl⟩, hN]
  · rw [gP_uP, if_pos ⟨rfl, rfl⟩, hN1]
  · rw [gK_uP, gK_nA, if_neg (by omega), gK_uP, gK_nA, if_pos hN.symm]
  · rw [gL_uP, gL_nA, if_neg (by omega), gL_uP, gL_nA, if_pos hN.symm]
  · rw [gK_uP, gK_nA, if_pos hN1.symm]
  · rw [gL_uP, gL_nA, if_pos hN1.symm]
  · exact ((((hW.nA 20 6 (by decide)).pP 160 a _ (by decide)).nA 20 6 (by decide)).pP 161 a _ (by decide))
def gln (g0 : Int32) : Nat → Nat → Int32 → Int32
  | 0, _, a => a
  | m + 1, j, a => (if g0 < (gorL.getD (nI j).toNatClampNeg 0) then gln g0 m (j + 1) (a) else gln g0 m (j + 1) ((gorL.getD (nI j).toNatClampNeg 0)))
set_option maxRecDepth 100000 in
theorem l_gln {k : KT} {S : HS} {g0 : Int32} : ∀ (m j : Nat) (a : Int32), j + m = 9 → X k (mt_X6_goreNumber (rm 1 0 0)) (Zm k (mt_X6_goreNumber (rm 1 0 0)) (Pu (gln g0 m j a) S)) 5 [(0, .int (g0)), (1, .int (a)), (2, .int (nI j))] [] S 0 0 := by
  intro m
  induction m with
  | zero =>
    intro j a hj
    refine x_iload_n 2 dX6_goreNumber_5 rfl ?_
    refine x_getsG dX6_goreNumber_6 tw_3_6 ?_
    refine x_tlenG dX6_goreNumber_9 ?_
    refine x_icmp_ge 34 dX6_goreNumber_10 (by decide) (fun c1 => ?_) (fun c1 => ?_)
    · refine x_iload_n 1 dX6_goreNumber_34 rfl ?_
      exact x_ireturn dX6_goreNumber_35 rfl (Nat.le_of_ble_eq_true rfl) (Nat.le_of_ble_eq_true rfl) ⟨by rw [gln], rfl⟩
    · exact absurd (show nI 9 ≤ nI j from nI_le (by omega) (by omega)) c1
  | succ m ih =>
    intro j a hj
    refine x_iload_n 2 dX6_goreNumber_5 rfl ?_
    refine x_getsG dX6_goreNumber_6 tw_3_6 ?_
    refine x_tlenG dX6_goreNumber_9 ?_
    refine x_icmp_ge 34 dX6_goreNumber_10 (by decide) (fun c1 => ?_) (fun c1 => ?_)
    · exact absurd c1 (show ¬ nI 9 ≤ nI j from nI_ge (by omega) (by decide))
    · refine x_getsG dX6_goreNumber_13 tw_3_6 ?_
      refine x_iload_n 2 dX6_goreNumber_16 rfl ?_
      refine x_tiG dX6_goreNumber_17 (vp_in_nI (by omega) (by decide)) ?_
      refine x_iload_n 0 dX6_goreNumber_18 rfl ?_
      refine x_icmp_gt 28 dX6_goreNumber_19 (by decide) (fun c2 => ?_) (fun c2 => ?_)
      · refine x_iinc 2 (nI j + 1) [(2, .int ((nI j + 1))), (0, .int (g0)), (1, .int (a))] dX6_goreNumber_28 rfl rfl (Nat.le_of_ble_eq_true rfl) rfl ?_
        refine x_goto 5 dX6_goreNumber_31 (by decide) ?_
        refine x_lv [(0, .int (g0)), (1, .int (a)), (2, .int (nI (j + 1)))] [1, 2, 0] (by rw [← nI_1 j]; rfl) ?_
        have q9 := ih (j + 1) (a) (by omega)
        rw [show gln g0 (m + 1) j a = gln g0 m (j + 1) (a) from by rw [gln, if_pos c2]]
        exact q9
      · refine x_getsG dX6_goreNumber_22 tw_3_6 ?_
        refine x_iload_n 2 dX6_goreNumber_25 rfl ?_
        refine x_tiG dX6_goreNumber_26 (vp_in_nI (by omega) (by decide)) ?_
        refine x_istore_n [(1, .int ((gorL.getD (nI j).toNatClampNeg 0))), (0, .int (g0)), (2, .int (nI j))] dX6_goreNumber_27 (Nat.le_of_ble_eq_true rfl) rfl ?_
        refine x_iinc 2 (nI j + 1) [(2, .int ((nI j + 1))), (1, .int ((gorL.getD (nI j).toNatClampNeg 0))), (0, .int (g0))] dX6_goreNumber_28 rfl rfl (Nat.le_of_ble_eq_true rfl) rfl ?_
        refine x_goto 5 dX6_goreNumber_31 (by decide) ?_
        refine x_lv [(0, .int (g0)), (1, .int ((gorL.getD (nI j).toNatClampNeg 0))), (2, .int (nI (j + 1)))] [2, 1, 0] (by rw [← nI_1 j]; rfl) ?_
        have q9 := ih (j + 1) ((gorL.getD (nI j).toNatClampNeg 0)) (by omega)
        rw [show gln g0 (m + 1) j a = gln g0 m (j + 1) ((gorL.getD (nI j).toNatClampNeg 0)) from by rw [gln, if_neg c2]]
        exact q9
theorem gln_all (g0 : Int32) : gln g0 9 0 6 = gnI g0 := by
  have st : ∀ (m j : Nat) (a : Int32) (kk : Nat), gorL.getD (nI j).toNatClampNeg 0 = nI kk → gln g0 (m + 1) j a = gln g0 m (j + 1) (stp g0 kk a) := by
    intro m j a kk e
    rw [gln, e]
    unfold stp
    by_cases c : g0 < nI kk
    · rw [if_pos c, if_pos c]
    · rw [if_neg c, if_neg c]
  rw [st 8 0 6 6 (by decide), st 7 1 _ 8 (by decide), st 6 2 _ 9 (by decide), st 5 3 _ 10 (by decide), st 4 4 _ 12 (by decide), st 3 5 _ 15 (by decide), st 2 6 _ 18 (by decide), st 1 7 _ 20 (by decide), st 0 8 _ 24 (by decide)]
  rfl
set_option maxRecDepth 100000 in
theorem c_goreNumber {k : KT} {S : HS} (g0 : Int32) : Ct k (mt_X6_goreNumber (rm 1 0 0)) [.int g0] S (Pu (gnI g0) S) := by
  refine Ct.ofF (by decide +kernel) (Nat.le_of_ble_eq_true rfl) ?_
  refine x_lv [(0, .int (g0))] [0] rfl ?_
  refine x_bipush 6 dX6_goreNumber_0 (by decide) ?_
  refine x_istore_n [(1, .int (6)), (0, .int (g0))] dX6_goreNumber_2 (Nat.le_of_ble_eq_true rfl) rfl ?_
  refine x_iconst 0 dX6_goreNumber_3 (by decide) ?_
  refine x_istore_n [(2, .int (0)), (1, .int (6)), (0, .int (g0))] dX6_goreNumber_4 (Nat.le_of_ble_eq_true rfl) rfl ?_
  refine x_lv [(0, .int (g0)), (1, .int (6)), (2, .int (nI 0))] [2, 1, 0] rfl ?_
  rw [← gln_all]
  exact l_gln 9 0 6 (by omega)
