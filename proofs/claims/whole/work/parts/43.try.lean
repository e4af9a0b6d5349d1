/-! THE CLASS'S SEARCH: only the search's two rows and its least cost change -/
def SR (x : Nat) (S T : HS) : Prop := (∀ a, gK T a = gK S a) ∧ (∀ f a, ¬ (f = 162 ∧ a = x + 3) → gI T f a = gI S f a) ∧ (∀ f a, gP T f a = gP S f a) ∧ (∀ a, gL T a = gL S a) ∧ (∀ a, a ≠ x + 4 → a ≠ x + 5 → gR T a = gR S a) ∧ (∀ a, gQ T a = gQ S a) ∧ gN T = gN S
section
variable {k : KT} {S T U : HS} {x g n : Nat} {H : List Nat} {na : Nat → Nat} {σ : MS}
theorem SR.rf : SR x S S := ⟨fun _ => rfl, fun _ _ _ => rfl, fun _ _ => rfl, fun _ => rfl, fun _ _ _ => rfl, fun _ => rfl, rfl⟩
theorem SR.tr (h1 : SR x S T) (h2 : SR x T U) : SR x S U := ⟨fun a => (h2.1 a).trans (h1.1 a), fun f a h => (h2.2.1 f a h).trans (h1.2.1 f a h), fun f a => (h2.2.2.1 f a).trans (h1.2.2.1 f a), fun a => (h2.2.2.2.1 a).trans (h1.2.2.2.1 a), fun a p q => (h2.2.2.2.2.1 a p q).trans (h1.2.2.2.2.1 a p q), fun a => (h2.2.2.2.2.2.1 a).trans (h1.2.2.2.2.2.1 a), h2.2.2.2.2.2.2.trans h1.2.2.2.2.2.2⟩
theorem SR.pI {v : Int32} : SR x S (uI S 162 (x + 3) v) := ⟨fun _ => rfl, fun f a h => by rw [gI_uI, if_neg h], fun _ _ => rfl, fun _ => rfl, fun _ _ _ => rfl, fun _ => rfl, rfl⟩
theorem SR.pR {b : Nat} {r : Nat → Int32} (hb : b = x + 4 ∨ b = x + 5) : SR x S (uR S b r) := ⟨fun _ => rfl, fun f a h => rfl, fun _ _ => rfl, fun _ => rfl, fun a p q => by rw [gR_uR, if_neg (by omega)], fun _ => rfl, rfl⟩
theorem SR.fx (h : SR x S T) : FX x S T := ⟨by rw [h.2.2.2.2.2.2]; exact Nat.le_refl _, fun a _ => ⟨h.1 a, h.2.2.2.1 a, h.2.2.2.2.1 a⟩, fun f a hf _ => ⟨h.2.1 f a (by omega), h.2.2.1 f a⟩⟩
theorem AL.sr {b : Nat} {l : List Nat} (h : AL k S b l) (hS : SR x S T) : AL k T b l := by
  obtain ⟨h1, h2, d, h3, h4⟩ := h
  refine ⟨by rw [hS.1]; exact h1, by rw [hS.2.1 _ _ (by omega)]; exact h2, d, by rw [hS.2.2.1]; exact h3, ?_⟩
  rw [hS.1, hS.2.2.2.1, hS.2.2.2.2.2.1]; exact h4
theorem NMi.sr {b i : Nat} (h : NMi S b σ i n) (hS : SR x S T) : NMi T b σ i n := by
  have e : ∀ f, f < 162 → gI T f b = gI S f b := fun f hf => hS.2.1 f b (by omega)
  unfold NMi
  rw [hS.1, e 96 (by decide), e 97 (by decide), e 98 (by decide), e 99 (by decide), e 100 (by decide), e 101 (by decide), e 102 (by decide), e 104 (by decide)]; exact h
def TC (k : KT) (S : HS) (x g n : Nat) (H : List Nat) (na : Nat → Nat) (σ : MS) : Prop := (gK S (x + 7 + 3 * g) = 3 ∧ gP S 65 (x + 7 + 3 * g) = some (x + 9 + 3 * g)) ∧ AL k S (x + 9 + 3 * g) (H.map na) ∧ H.length ≤ 6 ∧ (gK S (x + 3) = 6 ∧ gP S 160 (x + 3) = some (x + 4) ∧ gP S 161 (x + 3) = some (x + 5)) ∧ (gK S (x + 4) = 20 ∧ gL S (x + 4) = 6 ∧ gK S (x + 5) = 20 ∧ gL S (x + 5) = 6) ∧ (∀ i, i < H.length → H.getD i 0 < 60 ∧ NMi S (na (H.getD i 0)) σ (H.getD i 0) n) ∧ (cosOk (σ.2 1) ∧ ∀ j, j < 60 → (-5400) ≤ σ.2 10 j ∧ σ.2 10 j ≤ 5400)
theorem TC.sr (h : TC k S x g n H na σ) (hS : SR x S T) : TC k T x g n H na σ := by
  obtain ⟨h1, h2, h3, h4, h5, h6, h7⟩ := h
  refine ⟨?_, h2.sr hS, h3, ?_, ?_, fun i hi => ⟨(h6 i hi).1, (h6 i hi).2.sr hS⟩, h7⟩
  · rw [hS.1, hS.2.2.1]; exact h1
  · rw [hS.1, hS.2.2.1, hS.2.2.1]; exact h4
  · rw [hS.1, hS.1, hS.2.2.2.1, hS.2.2.2.1]; exact h5
theorem TC.len (h : TC k S x g n H na σ) : H.length ≤ 6 := h.2.2.1
theorem TC.sz (h : TC k S x g n H na σ) : gI S 2 (x + 9 + 3 * g) = nI H.length := by rw [h.2.1.2.1, List.length_map]
theorem TC.nm {i : Nat} (h : TC k S x g n H na σ) (hi : i < H.length) : NMi S (na (H.getD i 0)) σ (H.getD i 0) n := (h.2.2.2.2.2.1 i hi).2
theorem hget {i : Nat} (hi : i < (H.map na).length) : (H.map na)[i] = na (H.getD i 0) := by
  rw [List.length_map] at hi
  rw [List.getElem_map, List.getD_eq_getElem?_getD, List.getElem?_eq_getElem hi]; rfl
/-- names i and j of the gore: covers against areApart -/
theorem TC.cov {i j w v : Nat} (h : TC k S x g n H na σ) (hi : i < H.length) (hj : j < H.length) (hw : w ≤ 4) (hv : v ≤ 4) : f_X2_covers (σ.2 10 (H.getD i 0)) (f_X7_acrossOf (σ.2 1) (σ.2 9 (H.getD i 0)) (σ.2 10 (H.getD i 0))) (σ.2 11 (H.getD i 0)) (σ.2 10 (H.getD j 0)) (f_X7_acrossOf (σ.2 1) (σ.2 9 (H.getD j 0)) (σ.2 10 (H.getD j 0))) (σ.2 11 (H.getD j 0)) (nI w) (nI v) = 0 ↔ bAp σ H i w j v = true := by
  obtain ⟨_, _, _, _, _, h6, h7, h8⟩ := h
  obtain ⟨a1, _, _, _, _, _, a2, _, a3⟩ := h6 i hi
  obtain ⟨b1, _, _, _, _, _, b2, _, b3⟩ := h6 j hj
  have y1 := h8 _ a1
  have y2 := h8 _ b1
  rw [cov_eq (by omega) (by omega) hw hv (acr_rng h7 y1.1 y1.2 a3.1 a3.2) (acr_rng h7 y2.1 y2.2 b3.1 b3.2) a2 b2 y1 y2]
  exact ⟨fun z => decide_eq_true z, fun z => of_decide_eq_true z⟩
theorem TC.ok {i w : Nat} (h : TC k S x g n H na σ) (hi : i < H.length) (hw : w ≤ 4) : f_X2_allows (gI S 102 (na (H.getD i 0))) (nI w) = 0 ↔ ¬ bOk σ H i w = true := by
  rw [(h.nm hi).2.2.1 w hw]
  exact ⟨fun z q => of_decide_eq_true q z, fun z => Decidable.byContradiction (fun q => z (decide_eq_true q))⟩
theorem TC.pr {i : Nat} (h : TC k S x g n H na σ) (hi : i < H.length) : ∃ v : Nat, σ.2 12 (H.getD i 0) = nI v ∧ 1 ≤ v ∧ v ≤ 99 := by
  have q := (h.nm hi).2.2.2.2.2.2.1
  obtain ⟨v, hv, ev⟩ := nI_of (x := σ.2 12 (H.getD i 0)) (by rw [t_lt, show (0 : Int32).toInt = 0 from rfl]; omega)
  rw [ev, nI_toInt hv] at q
  exact ⟨v, ev, by omega, by omega⟩
theorem TC.cs {i w : Nat} (h : TC k S x g n H na σ) (hi : i < H.length) (hw : w ≤ 4) : f_X2_costOf (σ.2 12 (H.getD i 0)) (nI w) = nI (bCs σ H i w) ∧ bCs σ H i w ≤ 99 := by
  obtain ⟨v, ev, h1, h2⟩ := h.pr hi
  unfold f_X2_costOf bCs
  rw [ev, nI_clamp (by omega)]
  by_cases c : w = 4
  · rw [if_pos (by rw [c]; rfl), if_pos c]; exact ⟨rfl, h2⟩
  · rw [if_neg (show ¬ nI w = 4 from fun z => c ((nI_eq (by omega) (by decide)).mp (z : nI w = nI 4))), if_neg c]; exact ⟨rfl, by omega⟩
/-- least cost and best ways, as the search holds them -/
def RB (S : HS) (x : Nat) (H : List Nat) (a : Nat × (Nat → Nat)) : Prop := gI S 162 (x + 3) = nI a.1 ∧ a.1 ≤ 595 ∧ (a.1 ≠ 595 → ∀ i, i < H.length → gR S (x + 5) i = nI (a.2 i))
end
set_option maxRecDepth 100000 in
theorem c_keep {k : KT} {S : HS} {x : Nat} {cs : Int32} (h4 : gK S (x + 3) = 6 ∧ gP S 160 (x + 3) = some (x + 4) ∧ gP S 161 (x + 3) = some (x + 5)) (h5 : gK S (x + 4) = 20 ∧ gL S (x + 4) = 6 ∧ gK S (x + 5) = 20 ∧ gL S (x + 5) = 6) : Ct k (mt_X4_keep (rm 1 0 0)) [.ref (x + 3), .int cs] S (fun v T => v = none ∧ T = uI (uR S (x + 5) (va_cpy (gR S (x + 4)) (gR S (x + 5)) 0 0 6)) 162 (x + 3) cs) := by
  refine Ct.ofF (by decide +kernel) (Nat.le_of_ble_eq_true rfl) ?_
  refine x_lv [(0, .ref (x + 3)), (1, .int cs)] [0, 1] rfl ?_
  refine x_aload_n 0 dX4_keep_0 rfl ?_
  refine gf_X4_9 rfl dX4_keep_1 h4.1 ?_
  rw [h4.2.1]
  refine x_iconst 0 dX4_keep_4 (by decide) ?_
  refine x_aload_n 0 dX4_keep_5 rfl ?_
  refine gf_X4_15 rfl dX4_keep_6 h4.1 ?_
  rw [h4.2.2]
  refine x_iconst 0 dX4_keep_9 (by decide) ?_
  refine x_aload_n 0 dX4_keep_10 rfl ?_
  refine gf_X4_15 rfl dX4_keep_11 h4.1 ?_
  rw [h4.2.2]
  refine x_alen dX4_keep_14 (Or.inl h5.2.2.1) ?_
  rw [h5.2.2.2]
  refine x_copyI (sp := 0) (dp := 0) dX4_keep_15 h5.1 h5.2.2.1 tk_14 tk_11 tk_12 tk_13 (by decide) (by decide) (by decide) (by rw [h5.2.1]; decide) (by rw [h5.2.2.2]; decide) (Nat.le_of_ble_eq_true rfl) (Nat.le_of_ble_eq_true rfl) ?_
  refine x_aload_n 0 dX4_keep_18 rfl ?_
  refine x_iload_n 1 dX4_keep_19 rfl ?_
  refine pf_X4_24 rfl dX4_keep_20 h4.1 ?_
  exact x_return dX4_keep_23 rfl (Nat.le_of_ble_eq_true rfl) (Nat.le_of_ble_eq_true rfl) ⟨rfl, rfl⟩
set_option maxRecDepth 100000 in
theorem c_wayOf {k : KT} {S : HS} {x j : Nat} (h4 : gK S (x + 3) = 6 ∧ gP S 160 (x + 3) = some (x + 4) ∧ gP S 161 (x + 3) = some (x + 5)) (h5 : gK S (x + 4) = 20 ∧ gL S (x + 4) = 6 ∧ gK S (x + 5) = 20 ∧ gL S (x + 5) = 6) (hj : j < 6) : Ct k (mt_X4_wayOf (rm 1 0 0)) [.ref (x + 3), .int (nI j)] S (Pu (gR S (x + 4) j) S) := by
  refine Ct.ofF (by decide +kernel) (Nat.le_of_ble_eq_true rfl) ?_
  refine x_lv [(0, .ref (x + 3)), (1, .int (nI j))] [0, 1] rfl ?_
  refine x_iload_n 1 dX4_wayOf_0 rfl ?_
  refine x_if_lt 22 dX4_wayOf_1 (by decide) (fun c1 => ?_) (fun c1 => ?_)
  · exact absurd c1 (nI_pos (by omega))
  · refine x_iload_n 1 dX4_wayOf_4 rfl ?_
    refine x_aload_n 0 dX4_wayOf_5 rfl ?_
    refine gf_X4_9 rfl dX4_wayOf_6 h4.1 ?_
    rw [show gP (S) 160 (x + 3) = some (x + 4) from h4.2.1]
    refine x_alen dX4_wayOf_9 (Or.inl h5.1) ?_
    rw [show gL (S) (x + 4) = 6 from h5.2.1]
    refine x_icmp_ge 22 dX4_wayOf_10 (by decide) (fun c2 => ?_) (fun c2 => ?_)
    · exact absurd (c2 : nI 6 ≤ nI j) (nI_ge (by omega) (by omega))
    · refine x_aload_n 0 dX4_wayOf_13 rfl ?_
      refine gf_X4_9 rfl dX4_wayOf_14 h4.1 ?_
      rw [show gP (S) 160 (x + 3) = some (x + 4) from h4.2.1]
      refine x_iload_n 1 dX4_wayOf_17 rfl ?_
      refine x_iaload dX4_wayOf_18 h5.1 (by rw [show gL (S) (x + 4) = 6 from h5.2.1]; exact (vp_in_nI hj (by decide))) ?_
      refine x_goto 23 dX4_wayOf_19 (by decide) ?_
      exact x_ireturn dX4_wayOf_23 rfl (Nat.le_of_ble_eq_true rfl) (Nat.le_of_ble_eq_true rfl) ⟨by rw [nI_clamp (by omega)], rfl⟩
set_option maxRecDepth 100000 in
theorem l_clear {k : KT} {x g n : Nat} {H : List Nat} {na : Nat → Nat} {σ : MS} {S : HS} (hT : TC k S x g n H na σ) {d w : Nat} {W : Nat → Nat} (hd : d < H.length) (hw : w ≤ 4) (hW : ∀ j, j < d → gR S (x + 4) j = nI (W j) ∧ W j ≤ 4) : ∀ (m j : Nat), j + m = d → (∀ i, i < j → bAp σ H d w i (W i) = true) → X k (mt_X6_isClear (rm 4 0 0)) (Zm k (mt_X6_isClear (rm 4 0 0)) (Pu (if (List.range d).all (fun j => bAp σ H d w j (W j)) = true then 1 else 0) S)) 3 [(0, .ref (na (H.getD d 0))), (1, .int (nI w)), (2, .ref (x + 7 + 3 * g)), (3, .ref (x + 3)), (4, .int (nI d)), (5, .int (nI j))] [] S 0 0 := by
  have hlen := hT.len
  intro m
  induction m with
  | zero =>
    intro j hj ha
    refine x_iload 5 dX6_isClear_3 rfl ?_
    refine x_iload 4 dX6_isClear_5 rfl ?_
    refine x_icmp_ge 56 dX6_isClear_7 (by decide) (fun c1 => ?_) (fun c1 => ?_)
    · refine x_iconst 1 dX6_isClear_56 (by decide) ?_
      exact x_zreturn dX6_isClear_57 rfl (by decide) (Nat.le_of_ble_eq_true rfl) (Nat.le_of_ble_eq_true rfl) ⟨by rw [if_pos (List.all_eq_true.mpr (fun i hi => ha i (by have := List.mem_range.mp hi; omega)))], rfl⟩
    · exact absurd (nI_le (by omega) (by omega)) c1
  | succ m ih =>
    intro j hj ha
    refine x_iload 5 dX6_isClear_3 rfl ?_
    refine x_iload 4 dX6_isClear_5 rfl ?_
    refine x_icmp_ge 56 dX6_isClear_7 (by decide) (fun c1 => ?_) (fun c1 => ?_)
    · exact absurd c1 (nI_ge (by omega) (by omega))
    · refine x_iload 5 dX6_isClear_10 rfl ?_
      refine x_aload_n 2 dX6_isClear_12 rfl ?_
      refine gf_X6_159 rfl dX6_isClear_13 hT.1.1 ?_
      rw [show gP (S) 65 (x + 7 + 3 * g) = some (x + 9 + 3 * g) from hT.1.2]
      refine ca_X6_60 [] [.int (nI j)] (c_al_size hT.2.1.1) hT.2.1.1 rfl dX6_isClear_16 rfl rfl ⟨(Nat.le_of_ble_eq_true rfl), (Nat.le_of_ble_eq_true rfl), (Nat.le_of_ble_eq_true rfl), (Nat.le_of_ble_eq_true rfl), (Nat.le_of_ble_eq_true rfl)⟩ (fun v T hq => ?_)
      obtain ⟨rfl, hz9⟩ := hq
      obtain rfl := hz9.symm
      rw [show gI (S) 2 (x + 9 + 3 * g) = nI H.length from hT.sz]
      refine x_icmp_ge 56 dX6_isClear_19 (by decide) (fun c2 => ?_) (fun c2 => ?_)
      · exact absurd c2 (nI_ge (by omega) (by omega))
      · refine x_aload_n 0 dX6_isClear_22 rfl ?_
        refine x_iload_n 1 dX6_isClear_23 rfl ?_
        refine x_aload_n 2 dX6_isClear_24 rfl ?_
        refine gf_X6_159 rfl dX6_isClear_25 hT.1.1 ?_
        rw [show gP (S) 65 (x + 7 + 3 * g) = some (x + 9 + 3 * g) from hT.1.2]
        refine x_iload 5 dX6_isClear_28 rfl ?_
        refine ca_X6_116 [.int (nI j)] [.int (nI w), .ref (na (H.getD d 0))] (c_al_get (k := k) hT.2.1 (i := j) (by rw [List.length_map]; exact (show j < H.length by omega))) hT.2.1.1 rfl dX6_isClear_30 rfl rfl ⟨(Nat.le_of_ble_eq_true rfl), (Nat.le_of_ble_eq_true rfl), (Nat.le_of_ble_eq_true rfl), (Nat.le_of_ble_eq_true rfl), (Nat.le_of_ble_eq_true rfl)⟩ (fun v T hq => ?_)
        obtain ⟨rfl, hT9⟩ := hq
        obtain rfl := hT9.symm
        rw [hget]
        refine cc_X6_163 rfl dX6_isClear_33 (hT.nm (show j < H.length by omega)).1 ?_
        refine x_aload_n 3 dX6_isClear_36 rfl ?_
        refine x_iload 5 dX6_isClear_37 rfl ?_
        refine ca_X6_320 [.int (nI j)] [.ref (na (H.getD j 0)), .int (nI w), .ref (na (H.getD d 0))] (c_wayOf hT.2.2.2.1 hT.2.2.2.2.1 (j := j) (by omega)) hT.2.2.2.1.1 rfl dX6_isClear_39 rfl rfl ⟨(Nat.le_of_ble_eq_true rfl), (Nat.le_of_ble_eq_true rfl), (Nat.le_of_ble_eq_true rfl), (Nat.le_of_ble_eq_true rfl), (Nat.le_of_ble_eq_true rfl)⟩ (fun v T hq => ?_)
        obtain ⟨rfl, rfl⟩ := hq
        rw [(hW j (by omega)).1]
        refine ca_X6_323 [.int (nI w), .ref (na (H.getD j 0)), .int (nI (W j))] [] (c_X2_covers (σ.2 10 (H.getD d 0)) (f_X7_acrossOf (σ.2 1) (σ.2 9 (H.getD d 0)) (σ.2 10 (H.getD d 0))) (σ.2 11 (H.getD d 0)) (σ.2 10 (H.getD j 0)) (f_X7_acrossOf (σ.2 1) (σ.2 9 (H.getD j 0)) (σ.2 10 (H.getD j 0))) (σ.2 11 (H.getD j 0)) (nI w) (nI (W j)) (hT.nm hd).1 (hT.nm hd).2.1.2.2.1 (hT.nm hd).2.1.2.2.2.1 (hT.nm hd).2.1.2.2.2.2.1 (hT.nm (show j < H.length by omega)).1 (hT.nm (show j < H.length by omega)).2.1.2.2.1 (hT.nm (show j < H.length by omega)).2.1.2.2.2.1 (hT.nm (show j < H.length by omega)).2.1.2.2.2.2.1) (hT.nm hd).1 rfl dX6_isClear_42 rfl rfl ⟨(Nat.le_of_ble_eq_true rfl), (Nat.le_of_ble_eq_true rfl), (Nat.le_of_ble_eq_true rfl), (Nat.le_of_ble_eq_true rfl), (Nat.le_of_ble_eq_true rfl)⟩ (fun v T hq => ?_)
        obtain ⟨rfl, rfl⟩ := hq
        refine x_at 45 rfl ?_
        refine x_if_eq 50 dX6_isClear_45 (by decide) (fun c3 => ?_) (fun c3 => ?_)
        · refine x_iinc 5 (nI j + 1) [(5, .int ((nI j + 1))), (0, .ref (na (H.getD d 0))), (1, .int (nI w)), (2, .ref (x + 7 + 3 * g)), (3, .ref (x + 3)), (4, .int (nI d))] dX6_isClear_50 rfl rfl (Nat.le_of_ble_eq_true rfl) rfl ?_
          refine x_goto 3 dX6_isClear_53 (by decide) ?_
          refine x_lv [(0, .ref (na (H.getD d 0))), (1, .int (nI w)), (2, .ref (x + 7 + 3 * g)), (3, .ref (x + 3)), (4, .int (nI d)), (5, .int (nI (j + 1)))] [1, 2, 3, 4, 5, 0] (by rw [← nI_1 j]; rfl) ?_
          exact ih (j + 1) (by omega) (fun i hi => by
            by_cases e : i = j
            · subst e; exact (hT.cov hd (by omega) hw (hW i (by omega)).2).mp c3
            · exact ha i (by omega))
        · refine x_iconst 0 dX6_isClear_48 (by decide) ?_
          exact x_zreturn dX6_isClear_49 rfl (by decide) (Nat.le_of_ble_eq_true rfl) (Nat.le_of_ble_eq_true rfl) ⟨by rw [if_neg (fun q => c3 ((hT.cov hd (by omega) hw (hW j (by omega)).2).mpr (List.all_eq_true.mp q j (List.mem_range.mpr (by omega)))))], rfl⟩
set_option maxRecDepth 100000 in
theorem c_isClear {k : KT} {x g n : Nat} {H : List Nat} {na : Nat → Nat} {σ : MS} {S : HS} (hT : TC k S x g n H na σ) {d w : Nat} {W : Nat → Nat} (hd : d < H.length) (hw : w ≤ 4) (hW : ∀ j, j < d → gR S (x + 4) j = nI (W j) ∧ W j ≤ 4) : Ct k (mt_X6_isClear (rm 4 0 0)) [.ref (na (H.getD d 0)), .int (nI w), .ref (x + 7 + 3 * g), .ref (x + 3), .int (nI d)] S (Pu (if (List.range d).all (fun j => bAp σ H d w j (W j)) = true then 1 else 0) S) := by
  refine Ct.ofF (by decide +kernel) (Nat.le_of_ble_eq_true rfl) ?_
  refine x_lv [(0, .ref (na (H.getD d 0))), (1, .int (nI w)), (2, .ref (x + 7 + 3 * g)), (3, .ref (x + 3)), (4, .int (nI d))] [0, 1, 2, 3, 4] rfl ?_
  refine x_iconst 0 dX6_isClear_0 (by decide) ?_
  refine x_istore [(5, .int (0)), (0, .ref (na (H.getD d 0))), (1, .int (nI w)), (2, .ref (x + 7 + 3 * g)), (3, .ref (x + 3)), (4, .int (nI d))] dX6_isClear_1 (Nat.le_of_ble_eq_true rfl) rfl ?_
  refine x_lv [(0, .ref (na (H.getD d 0))), (1, .int (nI w)), (2, .ref (x + 7 + 3 * g)), (3, .ref (x + 3)), (4, .int (nI d)), (5, .int (nI 0))] [1, 2, 3, 4, 5, 0] rfl ?_
  exact l_clear hT hd hw hW d 0 (by omega) (fun i hi => absurd hi (Nat.not_lt_zero _))
set_option maxRecDepth 100000 in
set_option maxHeartbeats 4000000 in
theorem c_tryWays {k : KT} {x g n : Nat} {H : List Nat} {na : Nat → Nat} {σ : MS} : ∀ (r d : Nat), d + r = H.length → ∀ (S : HS) (W : Nat → Nat) (a : Nat × (Nat → Nat)), TC k S x g n H na σ → (∀ j, j < d → gR S (x + 4) j = nI (W j) ∧ W j ≤ 4) → (∀ i, i < d → bOk σ H i (W i) = true ∧ ∀ j, j < i → bAp σ H i (W i) j (W j) = true) → RB S x H a → Ct k (mt_X6_tryWays (rm (r + 6) 0 0)) [.ref (x + 7 + 3 * g), .ref (x + 3), .int (nI d), .int (nI (sCo (bCs σ H) W d))] S (fun v T => v = none ∧ SR x S T ∧ (∀ j, j < d → gR T (x + 4) j = gR S (x + 4) j) ∧ RB T x H (sRn (bOk σ H) (bAp σ H) (bCs σ H) H.length (5 ^ r) (val W d * 5 ^ r) a)) := by
  intro r
  induction r with
  | zero =>
    intro d hdr S W a hT hW hG hR
    have hlen := hT.len
    have hd0 : d = H.length := by omega
    have hcb : sCo (bCs σ H) W d ≤ 99 * d := sCo_b d (fun i hi => (hT.cs (by omega) (hW i hi).2).2)
    have ha := hR.2.1
    refine Ct.ofF (by decide +kernel) (Nat.le_of_ble_eq_true rfl) ?_
    refine x_lv [(0, .ref (x + 7 + 3 * g)), (1, .ref (x + 3)), (2, .int (nI d)), (3, .int (nI (sCo (bCs σ H) W d)))] [0, 1, 2, 3] rfl ?_
    refine x_iload_n 3 dX6_tryWays_0 rfl ?_
    refine x_aload_n 1 dX6_tryWays_1 rfl ?_
    refine gf_X6_296 rfl dX6_tryWays_2 hT.2.2.2.1.1 ?_
    rw [show gI (S) 162 (x + 3) = nI a.1 from hR.1]
    refine x_icmp_lt 9 dX6_tryWays_5 (by decide) (fun c1 => ?_) (fun c1 => ?_)
    · refine x_iload_n 2 dX6_tryWays_9 rfl ?_
      refine x_aload_n 0 dX6_tryWays_10 rfl ?_
      refine gf_X6_159 rfl dX6_tryWays_11 hT.1.1 ?_
      rw [show gP (S) 65 (x + 7 + 3 * g) = some (x + 9 + 3 * g) from hT.1.2]
      refine ca_X6_60 [] [.int (nI d)] (c_al_size hT.2.1.1) hT.2.1.1 rfl dX6_tryWays_14 rfl rfl ⟨(Nat.le_of_ble_eq_true rfl), (Nat.le_of_ble_eq_true rfl), (Nat.le_of_ble_eq_true rfl), (Nat.le_of_ble_eq_true rfl), (Nat.le_of_ble_eq_true rfl)⟩ (fun v T hq => ?_)
      obtain ⟨rfl, hz9⟩ := hq
      obtain rfl := hz9.symm
      rw [show gI (S) 2 (x + 9 + 3 * g) = nI H.length from hT.sz]
      refine x_icmp_ge 26 dX6_tryWays_17 (by decide) (fun c2 => ?_) (fun c2 => ?_)
      · have hlt : sCo (bCs σ H) W d < a.1 := (nI_ltI (by omega) (by omega)).mp c1
        refine x_aload_n 1 dX6_tryWays_26 rfl ?_
        refine x_iload_n 3 dX6_tryWays_27 rfl ?_
        refine ca_X6_306 [.int (nI (sCo (bCs σ H) W d))] [] (c_keep hT.2.2.2.1 hT.2.2.2.2.1) hT.2.2.2.1.1 rfl dX6_tryWays_28 rfl rfl ⟨(Nat.le_of_ble_eq_true rfl), (Nat.le_of_ble_eq_true rfl), (Nat.le_of_ble_eq_true rfl), (Nat.le_of_ble_eq_true rfl), (Nat.le_of_ble_eq_true rfl)⟩ (fun v T hq => ?_)
        obtain ⟨rfl, rfl⟩ := hq
        refine x_return dX6_tryWays_31 rfl (Nat.le_of_ble_eq_true rfl) (Nat.le_of_ble_eq_true rfl) ⟨rfl, SR.tr (SR.pR (Or.inr rfl)) SR.pI, fun j _ => by rw [gR_uI, gR_uR, if_neg (by omega)], ?_⟩
        have hl := sR_leaf (ok := bOk σ H) (ap := bAp σ H) (cst := bCs σ H) (c := H.length) (W := W) (a := a) (fun j hj => (hW j (by omega)).2) (fun i hi => hG i (by omega)) (by rw [← hd0]; exact hlt)
        rw [Nat.sub_self] at hl
        rw [hd0]
        refine ⟨by rw [gI_uI, if_pos ⟨rfl, rfl⟩, hl.1], by rw [hl.1, ← hd0]; omega, fun _ i hi => ?_⟩
        rw [gR_uI, gR_uR, if_pos rfl, pk_cpy_in (Nat.zero_le _) (by omega), hl.2 i hi]
        rw [show 0 + (i - 0) = i by omega]
        exact (hW i (by omega)).1
      · exact absurd (nI_le (by omega) (by omega)) c2
    · refine x_return dX6_tryWays_8 rfl (Nat.le_of_ble_eq_true rfl) (Nat.le_of_ble_eq_true rfl) ⟨rfl, SR.rf, fun j _ => rfl, ?_⟩
      have hq := sR_dear (ok := bOk σ H) (ap := bAp σ H) (cst := bCs σ H) (c := H.length) (W := W) (d := d) (a := a) (by omega) (fun j hj => (hW j hj).2) (by
        rcases Nat.lt_or_ge (sCo (bCs σ H) W d) a.1 with z | z
        · exact absurd (nI_lt z (by omega)) c1
        · exact z)
      rw [show H.length - d = 0 by omega] at hq
      rw [hq]
      exact hR
  | succ r ih =>
    intro d hdr S W a hT hW hG hR
    have hlen := hT.len
    have hd : d < H.length := by omega
    have hcb : sCo (bCs σ H) W d ≤ 99 * d := sCo_b d (fun i hi => (hT.cs (by omega) (hW i hi).2).2)
    have ha := hR.2.1
    have hloop : ∀ (m w : Nat), w + m = 5 → ∀ (S' : HS), SR x S S' → (∀ j, j < d → gR S' (x + 4) j = gR S (x + 4) j) → RB S' x H (sRn (bOk σ H) (bAp σ H) (bCs σ H) H.length (w * 5 ^ r) (val W d * 5 ^ (r + 1)) a) → X k (mt_X6_tryWays (rm (r + 1 + 6) 0 0)) (Zm k (mt_X6_tryWays (rm (r + 1 + 6) 0 0)) (fun v T => v = none ∧ SR x S T ∧ (∀ j, j < d → gR T (x + 4) j = gR S (x + 4) j) ∧ RB T x H (sRn (bOk σ H) (bAp σ H) (bCs σ H) H.length (5 ^ (r + 1)) (val W d * 5 ^ (r + 1)) a))) 48 [(0, .ref (x + 7 + 3 * g)), (1, .ref (x + 3)), (2, .int (nI d)), (3, .int (nI (sCo (bCs σ H) W d))), (4, .ref (na (H.getD d 0))), (5, .int (nI w))] [] S' 0 0 := by
      intro m
      induction m with
      | zero =>
        intro w hw S' hS hTr hR
        have hT' := hT.sr hS
        refine x_iload 5 dX6_tryWays_48 rfl ?_
        refine x_iconst 4 dX6_tryWays_50 (by decide) ?_
        refine x_icmp_gt 108 dX6_tryWays_51 (by decide) (fun c1 => ?_) (fun c1 => ?_)
        · refine x_return dX6_tryWays_108 rfl (Nat.le_of_ble_eq_true rfl) (Nat.le_of_ble_eq_true rfl) ⟨rfl, hS, hTr, ?_⟩
          rw [show w = 5 by omega, show 5 * 5 ^ r = 5 ^ (r + 1) by rw [Nat.pow_succ]; omega] at hR
          exact hR
        · exact absurd (show nI 4 < nI w from nI_lt (by omega) (by omega)) c1
      | succ m ihw =>
        intro w hw S' hS hTr hR
        have hT' := hT.sr hS
        have hW4 : ∀ j, j < d + 1 → va_up W d w j ≤ 4 := fun j hj => by
          by_cases e : j = d
          · rw [e, up_eq]; omega
          · rw [up_ne e]; exact (hW j (by omega)).2
        have hval : val (va_up W d w) (d + 1) * 5 ^ r = val W d * 5 ^ (r + 1) + w * 5 ^ r := by
          rw [val, up_eq, val_up, Nat.pow_succ, Nat.add_mul, Nat.mul_comm 5, Nat.mul_assoc, Nat.mul_comm 5]
        have hsplit : sRn (bOk σ H) (bAp σ H) (bCs σ H) H.length ((w + 1) * 5 ^ r) (val W d * 5 ^ (r + 1)) a = sRn (bOk σ H) (bAp σ H) (bCs σ H) H.length (5 ^ r) (val W d * 5 ^ (r + 1) + w * 5 ^ r) (sRn (bOk σ H) (bAp σ H) (bCs σ H) H.length (w * 5 ^ r) (val W d * 5 ^ (r + 1)) a) := by
          rw [Nat.add_mul, Nat.one_mul, sRn_add]
        refine x_iload 5 dX6_tryWays_48 rfl ?_
        refine x_iconst 4 dX6_tryWays_50 (by decide) ?_
        refine x_icmp_gt 108 dX6_tryWays_51 (by decide) (fun c1 => ?_) (fun c1 => ?_)
        · exact absurd c1 (show ¬ nI 4 < nI w from nI_nlt (by omega) (by decide))
        · refine x_aload 4 dX6_tryWays_54 rfl ?_
          refine x_iload 5 dX6_tryWays_56 rfl ?_
          refine ca_X6_193 [.int (nI w)] [] (c_X2_allows ((gI (S') 102 (na (H.getD d 0)))) (nI w) (hT'.nm hd).1 rfl) (hT'.nm hd).1 rfl dX6_tryWays_58 rfl rfl ⟨by show 1 + 1 ≤ r + 1 + 6; omega, by show 8 + (2 + 11) + 64 * 1 ≤ 64 * (r + 1 + 6); omega, (Nat.le_of_ble_eq_true rfl), (Nat.le_of_ble_eq_true rfl), (Nat.le_of_ble_eq_true rfl)⟩ (fun v T hq => ?_)
          obtain ⟨rfl, rfl⟩ := hq
          refine x_if_eq 102 dX6_tryWays_61 (by decide) (fun c2 => ?_) (fun c2 => ?_)
          · refine x_iinc 5 (nI w + 1) [(5, .int ((nI w + 1))), (0, .ref (x + 7 + 3 * g)), (1, .ref (x + 3)), (2, .int (nI d)), (3, .int (nI (sCo (bCs σ H) W d))), (4, .ref (na (H.getD d 0)))] dX6_tryWays_102 rfl rfl (Nat.le_of_ble_eq_true rfl) rfl ?_
            refine x_goto 48 dX6_tryWays_105 (by decide) ?_
            refine x_lv [(0, .ref (x + 7 + 3 * g)), (1, .ref (x + 3)), (2, .int (nI d)), (3, .int (nI (sCo (bCs σ H) W d))), (4, .ref (na (H.getD d 0))), (5, .int (nI (w + 1)))] [1, 2, 3, 4, 5, 0] (by rw [← nI_1 w]; rfl) ?_
            refine ihw (w + 1) (by omega) S' hS hTr ?_
            have hb := sR_bad (ok := bOk σ H) (ap := bAp σ H) (cst := bCs σ H) (c := H.length) (W := va_up W d w) (d := d) (a := sRn (bOk σ H) (bAp σ H) (bCs σ H) H.length (w * 5 ^ r) (val W d * 5 ^ (r + 1)) a) (by omega) hW4 (fun z => ((hT'.ok hd (by omega)).mp c2) (by rw [up_eq] at z; exact z.1))
            rw [show H.length - (d + 1) = r by omega, hval] at hb
            rw [hsplit, hb]
            exact hR
          · refine x_aload 4 dX6_tryWays_64 rfl ?_
            refine x_iload 5 dX6_tryWays_66 rfl ?_
            refine x_aload_n 0 dX6_tryWays_68 rfl ?_
            refine x_aload_n 1 dX6_tryWays_69 rfl ?_
            refine x_iload_n 2 dX6_tryWays_70 rfl ?_
            refine ca_X6_310 [.ref (na (H.getD d 0)), .int (nI w), .ref (x + 7 + 3 * g), .ref (x + 3), .int (nI d)] [] (c_isClear (W := W) hT' hd (by omega) (fun j hj => ⟨by rw [hTr j hj]; exact (hW j hj).1, (hW j hj).2⟩)) rfl dX6_tryWays_71 rfl rfl ⟨by show 4 + 1 ≤ r + 1 + 6; omega, by show 8 + (6 + 11) + 64 * 4 ≤ 64 * (r + 1 + 6); omega, (Nat.le_of_ble_eq_true rfl), (Nat.le_of_ble_eq_true rfl), (Nat.le_of_ble_eq_true rfl)⟩ (fun v T hq => ?_)
            obtain ⟨rfl, rfl⟩ := hq
            refine x_if_eq 102 dX6_tryWays_74 (by decide) (fun c3 => ?_) (fun c3 => ?_)
            · refine x_iinc 5 (nI w + 1) [(5, .int ((nI w + 1))), (0, .ref (x + 7 + 3 * g)), (1, .ref (x + 3)), (2, .int (nI d)), (3, .int (nI (sCo (bCs σ H) W d))), (4, .ref (na (H.getD d 0)))] dX6_tryWays_102 rfl rfl (Nat.le_of_ble_eq_true rfl) rfl ?_
              refine x_goto 48 dX6_tryWays_105 (by decide) ?_
              refine x_lv [(0, .ref (x + 7 + 3 * g)), (1, .ref (x + 3)), (2, .int (nI d)), (3, .int (nI (sCo (bCs σ H) W d))), (4, .ref (na (H.getD d 0))), (5, .int (nI (w + 1)))] [1, 2, 3, 4, 5, 0] (by rw [← nI_1 w]; rfl) ?_
              refine ihw (w + 1) (by omega) S' hS hTr ?_
              have hb := sR_bad (ok := bOk σ H) (ap := bAp σ H) (cst := bCs σ H) (c := H.length) (W := va_up W d w) (d := d) (a := sRn (bOk σ H) (bAp σ H) (bCs σ H) H.length (w * 5 ^ r) (val W d * 5 ^ (r + 1)) a) (by omega) hW4 (fun z => by
                rw [if_pos (List.all_eq_true.mpr (fun j hj => by have := z.2 j (List.mem_range.mp hj); rw [up_eq, up_ne (by have := List.mem_range.mp hj; omega)] at this; exact this))] at c3
                exact absurd c3 (by decide))
              rw [show H.length - (d + 1) = r by omega, hval] at hb
              rw [hsplit, hb]
              exact hR
            · refine x_aload_n 1 dX6_tryWays_77 rfl ?_
              refine gf_X6_314 rfl dX6_tryWays_78 hT'.2.2.2.1.1 ?_
              rw [show gP (S') 160 (x + 3) = some (x + 4) from hT'.2.2.2.1.2.1]
              refine x_iload_n 2 dX6_tryWays_81 rfl ?_
              refine x_iload 5 dX6_tryWays_82 rfl ?_
              refine x_iastore dX6_tryWays_84 hT'.2.2.2.2.1.1 (by rw [show gL (S') (x + 4) = 6 from hT'.2.2.2.2.1.2.1]; exact (vp_in_nI (by omega) (by decide))) ?_
              refine x_aload_n 0 dX6_tryWays_85 rfl ?_
              refine x_aload_n 1 dX6_tryWays_86 rfl ?_
              refine x_iload_n 2 dX6_tryWays_87 rfl ?_
              refine x_iconst 1 dX6_tryWays_88 (by decide) ?_
              refine x_iadd dX6_tryWays_89 ?_
              refine x_iload_n 3 dX6_tryWays_90 rfl ?_
              refine x_at 91 rfl ?_
              refine x_aload 4 dX6_tryWays_91 rfl ?_
              refine x_iload 5 dX6_tryWays_93 rfl ?_
              refine ca_X6_317 [.int (nI w)] [.int (nI (sCo (bCs σ H) W d)), .int ((nI d + 1)), .ref (x + 3), .ref (x + 7 + 3 * g)] (c_X2_costOf (σ.2 12 (H.getD d 0)) (nI w) (hT'.nm hd).1 (hT'.nm hd).2.1.2.2.2.2.2) (hT'.nm hd).1 rfl dX6_tryWays_95 rfl rfl ⟨by show 1 + 1 ≤ r + 1 + 6; omega, by show 8 + (2 + 11) + 64 * 1 ≤ 64 * (r + 1 + 6); omega, (Nat.le_of_ble_eq_true rfl), (Nat.le_of_ble_eq_true rfl), (Nat.le_of_ble_eq_true rfl)⟩ (fun v T hq => ?_)
              obtain ⟨rfl, rfl⟩ := hq
              refine x_iadd dX6_tryWays_98 ?_
              rw [(hT'.cs hd (show w ≤ 4 by omega)).1, nI_add, nI_1, nI_clamp (by omega)]
              have hcs : sCo (bCs σ H) W d + bCs σ H d w = sCo (bCs σ H) (va_up W d w) (d + 1) := by rw [sCo, up_eq, sCo_cg (V := W) (W := va_up W d w) d (fun i hi => (up_ne (by omega)).symm)]
              rw [hcs]
              have hrec := ih (d + 1) (by omega) (uR S' (x + 4) (upd (gR S' (x + 4)) d (nI w))) (va_up W d w) (sRn (bOk σ H) (bAp σ H) (bCs σ H) H.length (w * 5 ^ r) (val W d * 5 ^ (r + 1)) a) (hT'.sr (SR.pR (Or.inl rfl))) (fun j hj => ?_) (fun i hi => ?_) ?_
              rotate_left
              · rw [gR_uR, if_pos rfl]
                by_cases e : j = d
                · subst e; rw [pk_us, up_eq]; exact ⟨rfl, by omega⟩
                · rw [pk_un e, up_ne e, hTr j (by omega)]; exact hW j (by omega)
              · by_cases e : i = d
                · subst e
                  rw [up_eq]
                  refine ⟨Decidable.byContradiction (fun z => c2 ((hT'.ok hd (by omega)).mpr z)), fun j hj => ?_⟩
                  rw [up_ne (by omega)]
                  by_cases z : (List.range i).all (fun j => bAp σ H i w j (W j)) = true
                  · exact List.all_eq_true.mp z j (List.mem_range.mpr hj)
                  · rw [if_neg z] at c3; exact absurd rfl c3
                · rw [up_ne e]; exact ⟨(hG i (by omega)).1, fun j hj => by rw [up_ne (by omega)]; exact (hG i (by omega)).2 j hj⟩
              · exact ⟨hR.1, hR.2.1, fun z i hi => by rw [gR_uR, if_neg (by omega)]; exact hR.2.2 z i hi⟩
              refine ca_X6_299 [.ref (x + 7 + 3 * g), .ref (x + 3), .int (nI (d + 1)), .int (nI (sCo (bCs σ H) (va_up W d w) (d + 1)))] [] hrec rfl dX6_tryWays_99 rfl rfl ⟨by show r + 6 + 1 ≤ r + 1 + 6; omega, by show 8 + (6 + 11) + 64 * (r + 6) ≤ 64 * (r + 1 + 6); omega, (Nat.le_of_ble_eq_true rfl), (Nat.le_of_ble_eq_true rfl), (Nat.le_of_ble_eq_true rfl)⟩ (fun v T hq => ?_)
              obtain ⟨rfl, q1, q2, q3⟩ := hq
              refine x_iinc 5 (nI w + 1) [(5, .int ((nI w + 1))), (0, .ref (x + 7 + 3 * g)), (1, .ref (x + 3)), (2, .int (nI d)), (3, .int (nI (sCo (bCs σ H) W d))), (4, .ref (na (H.getD d 0)))] dX6_tryWays_102 rfl rfl (Nat.le_of_ble_eq_true rfl) rfl ?_
              refine x_goto 48 dX6_tryWays_105 (by decide) ?_
              refine x_lv [(0, .ref (x + 7 + 3 * g)), (1, .ref (x + 3)), (2, .int (nI d)), (3, .int (nI (sCo (bCs σ H) W d))), (4, .ref (na (H.getD d 0))), (5, .int (nI (w + 1)))] [1, 2, 3, 4, 5, 0] (by rw [← nI_1 w]; rfl) ?_
              refine ihw (w + 1) (by omega) T (SR.tr (SR.tr hS (SR.pR (Or.inl rfl))) q1) (fun j hj => ?_) ?_
              · rw [q2 j (by omega), gR_uR, if_pos rfl, pk_un (by omega)]; exact hTr j hj
              · rw [hsplit, ← hval]; exact q3
    refine Ct.ofF (show plainFor yX6_tryWays = true by decide +kernel) (Nat.le_of_ble_eq_true rfl) ?_
    refine x_lv [(0, .ref (x + 7 + 3 * g)), (1, .ref (x + 3)), (2, .int (nI d)), (3, .int (nI (sCo (bCs σ H) W d)))] [0, 1, 2, 3] rfl ?_
    refine x_iload_n 3 dX6_tryWays_0 rfl ?_
    refine x_aload_n 1 dX6_tryWays_1 rfl ?_
    refine gf_X6_296 rfl dX6_tryWays_2 hT.2.2.2.1.1 ?_
    rw [show gI (S) 162 (x + 3) = nI a.1 from hR.1]
    refine x_icmp_lt 9 dX6_tryWays_5 (by decide) (fun c1 => ?_) (fun c1 => ?_)
    · refine x_iload_n 2 dX6_tryWays_9 rfl ?_
      refine x_aload_n 0 dX6_tryWays_10 rfl ?_
      refine gf_X6_159 rfl dX6_tryWays_11 hT.1.1 ?_
      rw [show gP (S) 65 (x + 7 + 3 * g) = some (x + 9 + 3 * g) from hT.1.2]
      refine ca_X6_60 [] [.int (nI d)] (c_al_size hT.2.1.1) hT.2.1.1 rfl dX6_tryWays_14 rfl rfl ⟨by show 1 + 1 ≤ r + 1 + 6; omega, by show 8 + (1 + 11) + 64 * 1 ≤ 64 * (r + 1 + 6); omega, (Nat.le_of_ble_eq_true rfl), (Nat.le_of_ble_eq_true rfl), (Nat.le_of_ble_eq_true rfl)⟩ (fun v T hq => ?_)
      obtain ⟨rfl, hz9⟩ := hq
      obtain rfl := hz9.symm
      rw [show gI (S) 2 (x + 9 + 3 * g) = nI H.length from hT.sz]
      refine x_icmp_ge 26 dX6_tryWays_17 (by decide) (fun c2 => ?_) (fun c2 => ?_)
      · exact absurd c2 (nI_ge (by omega) (by omega))
      · refine x_iload_n 2 dX6_tryWays_20 rfl ?_
        refine x_bipush 6 dX6_tryWays_21 (by decide) ?_
        refine x_icmp_lt 32 dX6_tryWays_23 (by decide) (fun c3 => ?_) (fun c3 => ?_)
        · refine x_aload_n 0 dX6_tryWays_32 rfl ?_
          refine gf_X6_159 rfl dX6_tryWays_33 hT.1.1 ?_
          rw [show gP (S) 65 (x + 7 + 3 * g) = some (x + 9 + 3 * g) from hT.1.2]
          refine x_iload_n 2 dX6_tryWays_36 rfl ?_
          refine ca_X6_116 [.int (nI d)] [] (c_al_get (k := k) hT.2.1 (i := d) (by rw [List.length_map]; exact hd)) hT.2.1.1 rfl dX6_tryWays_37 rfl rfl ⟨by show 3 + 1 ≤ r + 1 + 6; omega, by show 8 + (2 + 11) + 64 * 3 ≤ 64 * (r + 1 + 6); omega, (Nat.le_of_ble_eq_true rfl), (Nat.le_of_ble_eq_true rfl), (Nat.le_of_ble_eq_true rfl)⟩ (fun v T hq => ?_)
          obtain ⟨rfl, hT9⟩ := hq
          obtain rfl := hT9.symm
          rw [hget]
          refine cc_X6_163 rfl dX6_tryWays_40 (hT.nm hd).1 ?_
          refine x_astore [(4, .ref (na (H.getD d 0))), (0, .ref (x + 7 + 3 * g)), (1, .ref (x + 3)), (2, .int (nI d)), (3, .int (nI (sCo (bCs σ H) W d)))] dX6_tryWays_43 (Nat.le_of_ble_eq_true rfl) rfl ?_
          refine x_iconst 0 dX6_tryWays_45 (by decide) ?_
          refine x_istore [(5, .int (0)), (4, .ref (na (H.getD d 0))), (0, .ref (x + 7 + 3 * g)), (1, .ref (x + 3)), (2, .int (nI d)), (3, .int (nI (sCo (bCs σ H) W d)))] dX6_tryWays_46 (Nat.le_of_ble_eq_true rfl) rfl ?_
          refine x_lv [(0, .ref (x + 7 + 3 * g)), (1, .ref (x + 3)), (2, .int (nI d)), (3, .int (nI (sCo (bCs σ H) W d))), (4, .ref (na (H.getD d 0))), (5, .int (nI 0))] [2, 3, 4, 5, 1, 0] rfl ?_
          exact hloop 5 0 (by omega) S SR.rf (fun _ _ => rfl) (by rw [Nat.zero_mul]; exact hR)
        · exact absurd (show nI d < nI 6 from nI_lt (by omega) (by decide)) c3
    · refine x_return dX6_tryWays_8 rfl (Nat.le_of_ble_eq_true rfl) (Nat.le_of_ble_eq_true rfl) ⟨rfl, SR.rf, fun j _ => rfl, ?_⟩
      have hq := sR_dear (ok := bOk σ H) (ap := bAp σ H) (cst := bCs σ H) (c := H.length) (W := W) (d := d) (a := a) (by omega) (fun j hj => (hW j hj).2) (by
        rcases Nat.lt_or_ge (sCo (bCs σ H) W d) a.1 with z | z
        · exact absurd (nI_lt z (by omega)) c1
        · exact z)
      rw [show H.length - d = (r + 1) by omega] at hq
      rw [hq]
      exact hR
