/-! LISTS: java.util.ArrayList (class 0: field 0 modCount, 1 elementData, 2 size) -/
def AL (k : KT) (S : HS) (a : Nat) (l : List Nat) : Prop := gK S a = 1 ∧ gI S 2 a = nI l.length ∧ ∃ d, gP S 1 a = some d ∧ ((d = k.2.2.2.1 0 ∧ l = []) ∨ (d ≠ k.2.2.2.1 0 ∧ gK S d = 23 ∧ l.length ≤ gL S d ∧ (0 < gL S d ∧ gL S d ≤ 2000) ∧ ∀ i (h : i < l.length), gQ S d i = some l[i]))
def okE (S : HS) (y : Nat) : Prop := gK S y = 2 ∨ gK S y = 4 ∨ gK S y = 5
def LW (k : KT) (S : HS) : Prop := k.2.2.2.1 0 < gN S ∧ (∀ a, gK S a ≠ 0 → a < gN S) ∧ (∀ a b d, gK S a = 1 → gK S b = 1 → gP S 1 a = some d → gP S 1 b = some d → d = k.2.2.2.1 0 ∨ a = b) ∧ ∀ a d, gK S a = 1 → gP S 1 a = some d → d < gN S
/-- what a change of the list a leaves -/
def LF (a : Nat) (S T : HS) : Prop := gN S ≤ gN T ∧ (∀ b, b < gN S → gK T b = gK S b ∧ gL T b = gL S b ∧ gR T b = gR S b) ∧ (∀ b, b < gN S → (gP S 1 a ≠ some b ∨ gK S b ≠ 23) → gQ T b = gQ S b) ∧ (∀ f b, (f ≠ 0 ∧ f ≠ 2 ∨ b ≠ a) → gI T f b = gI S f b) ∧ (∀ f b, (f ≠ 1 ∨ b ≠ a) → gP T f b = gP S f b) ∧ (∀ b, gN S ≤ b → gK S b = 0 → gK T b = 0 ∨ gK T b = 23)
theorem AL.keep {k : KT} {S T : HS} {a b : Nat} {l : List Nat} (h : AL k S b l) (hW : LW k S) (ha : gK S a = 1) (hF : LF a S T) (hn : b ≠ a) : AL k T b l := by
  obtain ⟨h1, h2, d, h3, h4⟩ := h
  have hb := hW.2.1 b (by omega)
  have hd := hW.2.2.2 b d h1 h3
  refine ⟨by rw [(hF.2.1 b hb).1]; exact h1, by rw [hF.2.2.2.1 2 b (Or.inr hn)]; exact h2, d, by rw [hF.2.2.2.2.1 1 b (Or.inr hn)]; exact h3, ?_⟩
  rcases h4 with h4 | ⟨h5, h6, h7, h7b, h8⟩
  · exact Or.inl h4
  · refine Or.inr ⟨h5, by rw [(hF.2.1 d hd).1]; exact h6, by rw [(hF.2.1 d hd).2.1]; exact h7, by rw [(hF.2.1 d hd).2.1]; exact h7b, fun i hi => ?_⟩
    rw [hF.2.2.1 d hd (Or.inl (fun e => (hW.2.2.1 a b d ha h1 e h3).elim h5 (fun q => hn q.symm)))]
    exact h8 i hi
set_option maxRecDepth 100000 in
theorem c_Jxa1e45_init {k : KT} {S : HS} (a : Nat) : Ct k (mt_Jxa1e45_init_da8c8 (rm 1 0 0)) [.ref a] S (fun v T => v = none ∧ T = S) := by
  refine Ct.ofF (by decide +kernel) (Nat.le_of_ble_eq_true rfl) ?_
  refine x_lv [(0, .ref a)] [0] rfl ?_
  refine x_aload_n 0 dJxa1e45_init_da8c8_0 rfl ?_
  refine ca_Jxa1e45_1 rfl dJxa1e45_init_da8c8_1 (Nat.le_of_ble_eq_true rfl) (Nat.le_of_ble_eq_true rfl) ?_
  exact x_return dJxa1e45_init_da8c8_4 rfl (Nat.le_of_ble_eq_true rfl) (Nat.le_of_ble_eq_true rfl) ⟨rfl, rfl⟩
set_option maxRecDepth 100000 in
theorem c_Jxc12de_init {k : KT} {S : HS} {a : Nat} (hK : gK S a = 1) : Ct k (mt_Jxc12de_init_da8c8 (rm 2 0 0)) [.ref a] S (fun v T => v = none ∧ T = uI S 0 a 0) := by
  refine Ct.ofF (by decide +kernel) (Nat.le_of_ble_eq_true rfl) ?_
  refine x_lv [(0, .ref a)] [0] rfl ?_
  refine x_aload_n 0 dJxc12de_init_da8c8_0 rfl ?_
  refine ca_Jxc12de_1 [] [] (c_Jxa1e45_init a) rfl dJxc12de_init_da8c8_1 rfl rfl ⟨(Nat.le_of_ble_eq_true rfl), (Nat.le_of_ble_eq_true rfl), (Nat.le_of_ble_eq_true rfl), (Nat.le_of_ble_eq_true rfl), (Nat.le_of_ble_eq_true rfl)⟩ (fun v T hq => ?_)
  obtain ⟨rfl, rfl⟩ := hq
  refine x_aload_n 0 dJxc12de_init_da8c8_4 rfl ?_
  refine x_iconst 0 dJxc12de_init_da8c8_5 (by decide) ?_
  refine pf_Jxc12de_7 rfl dJxc12de_init_da8c8_6 hK ?_
  exact x_return dJxc12de_init_da8c8_9 rfl (Nat.le_of_ble_eq_true rfl) (Nat.le_of_ble_eq_true rfl) ⟨rfl, rfl⟩
set_option maxRecDepth 100000 in
theorem c_al_init {k : KT} {S : HS} {a : Nat} (hK : gK S a = 1) : Ct k (mt_Jx4a65c_init_da8c8 (rm 3 0 0)) [.ref a] S (fun v T => v = none ∧ T = uP (uI S 0 a 0) 1 a (some (k.2.2.2.1 0))) := by
  refine Ct.ofF (by decide +kernel) (Nat.le_of_ble_eq_true rfl) ?_
  refine x_lv [(0, .ref a)] [0] rfl ?_
  refine x_aload_n 0 dJx4a65c_init_da8c8_0 rfl ?_
  refine ca_Jx4a65c_1 [] [] (c_Jxc12de_init hK) rfl dJx4a65c_init_da8c8_1 rfl rfl ⟨(Nat.le_of_ble_eq_true rfl), (Nat.le_of_ble_eq_true rfl), (Nat.le_of_ble_eq_true rfl), (Nat.le_of_ble_eq_true rfl), (Nat.le_of_ble_eq_true rfl)⟩ (fun v T hq => ?_)
  obtain ⟨rfl, rfl⟩ := hq
  refine x_aload_n 0 dJx4a65c_init_da8c8_4 rfl ?_
  refine x_getsE dJx4a65c_init_da8c8_5 tk_0 ?_
  refine pf_Jx4a65c_9 rfl dJx4a65c_init_da8c8_8 (by rw [gK_uI]; exact hK) ?_
  exact x_return dJx4a65c_init_da8c8_11 rfl (Nat.le_of_ble_eq_true rfl) (Nat.le_of_ble_eq_true rfl) ⟨rfl, rfl⟩
set_option maxRecDepth 100000 in
theorem c_al_size {k : KT} {S : HS} {a : Nat} (hK : gK S a = 1) : Ct k (mt_Jx4a65c_size_8abf5 (rm 1 0 0)) [.ref a] S (fun v T => v = some (.int (gI S 2 a)) ∧ T = S) := by
  refine Ct.ofF (by decide +kernel) (Nat.le_of_ble_eq_true rfl) ?_
  refine x_lv [(0, .ref a)] [0] rfl ?_
  refine x_aload_n 0 dJx4a65c_size_8abf5_0 rfl ?_
  refine gf_Jx4a65c_48 rfl dJx4a65c_size_8abf5_1 hK ?_
  exact x_ireturn dJx4a65c_size_8abf5_4 rfl (Nat.le_of_ble_eq_true rfl) (Nat.le_of_ble_eq_true rfl) ⟨rfl, rfl⟩
set_option maxRecDepth 100000 in
theorem c_J3_checkIndex {k : KT} {S : HS} {i n : Int32} (h0 : ¬ i < 0) (h1 : i < n) : Ct k (mt_J3_checkIndex_8e157 (rm 1 0 0)) [.int i, .int n, .null] S (fun v T => v = some (.int i) ∧ T = S) := by
  refine Ct.ofF (by decide +kernel) (Nat.le_of_ble_eq_true rfl) ?_
  refine x_lv [(0, .int i), (1, .int n), (2, .null)] [0, 1, 2] rfl ?_
  refine x_iload_n 0 dJ3_checkIndex_8e157_0 rfl ?_
  refine x_if_lt 9 dJ3_checkIndex_8e157_1 (by decide) (fun c1 => absurd c1 h0) (fun c1 => ?_)
  refine x_iload_n 0 dJ3_checkIndex_8e157_4 rfl ?_
  refine x_iload_n 1 dJ3_checkIndex_8e157_5 rfl ?_
  refine x_icmp_lt 16 dJ3_checkIndex_8e157_6 (by decide) (fun c2 => ?_) (fun c2 => absurd h1 c2)
  refine x_iload_n 0 dJ3_checkIndex_8e157_16 rfl ?_
  exact x_ireturn dJ3_checkIndex_8e157_17 rfl (Nat.le_of_ble_eq_true rfl) (Nat.le_of_ble_eq_true rfl) ⟨rfl, rfl⟩
set_option maxRecDepth 100000 in
theorem c_J15_checkIndex {k : KT} {S : HS} {i n : Int32} (h0 : ¬ i < 0) (h1 : i < n) : Ct k (mt_J15_checkIndex_7cf53 (rm 2 0 0)) [.int i, .int n] S (fun v T => v = some (.int i) ∧ T = S) := by
  refine Ct.ofF (by decide +kernel) (Nat.le_of_ble_eq_true rfl) ?_
  refine x_lv [(0, .int i), (1, .int n)] [0, 1] rfl ?_
  refine x_iload_n 0 dJ15_checkIndex_7cf53_0 rfl ?_
  refine x_iload_n 1 dJ15_checkIndex_7cf53_1 rfl ?_
  refine x_null dJ15_checkIndex_7cf53_2 ?_
  refine ca_J15_105 [.int i, .int n, .null] [] (c_J3_checkIndex h0 h1) rfl dJ15_checkIndex_7cf53_3 rfl rfl ⟨(Nat.le_of_ble_eq_true rfl), (Nat.le_of_ble_eq_true rfl), (Nat.le_of_ble_eq_true rfl), (Nat.le_of_ble_eq_true rfl), (Nat.le_of_ble_eq_true rfl)⟩ (fun v T hq => ?_)
  obtain ⟨rfl, rfl⟩ := hq
  exact x_ireturn dJ15_checkIndex_7cf53_6 rfl (Nat.le_of_ble_eq_true rfl) (Nat.le_of_ble_eq_true rfl) ⟨rfl, rfl⟩
set_option maxRecDepth 100000 in
theorem c_al_elementData {k : KT} {S : HS} {a d i : Nat} {y : Nat} (hK : gK S a = 1) (hP : gP S 1 a = some d) (hD : gK S d = 23) (hi : i < gL S d) (hi2 : gL S d ≤ 2000) (hy : gQ S d i = some y) : Ct k (mt_Jx4a65c_elementData_915e3 (rm 1 0 0)) [.ref a, .int (nI i)] S (fun v T => v = some (.ref y) ∧ T = S) := by
  refine Ct.ofF (by decide +kernel) (Nat.le_of_ble_eq_true rfl) ?_
  refine x_lv [(0, .ref a), (1, .int (nI i))] [0, 1] rfl ?_
  refine x_aload_n 0 dJx4a65c_elementData_915e3_0 rfl ?_
  refine gf_Jx4a65c_9 rfl dJx4a65c_elementData_915e3_1 hK ?_
  rw [hP]
  refine x_iload_n 1 dJx4a65c_elementData_915e3_4 rfl ?_
  refine x_aaload23 dJx4a65c_elementData_915e3_5 hD (vp_in_nI hi (by omega)) ?_
  rw [nI_clamp (by omega), hy]
  exact x_areturn dJx4a65c_elementData_915e3_6 rfl (Or.inl ⟨_, rfl⟩) (Nat.le_of_ble_eq_true rfl) (Nat.le_of_ble_eq_true rfl) ⟨rfl, rfl⟩
set_option maxRecDepth 100000 in
theorem c_al_get {k : KT} {S : HS} {a i : Nat} {l : List Nat} (hA : AL k S a l) (hi : i < l.length) : Ct k (mt_Jx4a65c_get_915e3 (rm 3 0 0)) [.ref a, .int (nI i)] S (fun v T => v = some (.ref (l[i])) ∧ T = S) := by
  obtain ⟨h1, h2, d, h3, h4⟩ := hA
  obtain ⟨h5, h6, h7, h7b, h8⟩ : d ≠ k.2.2.2.1 0 ∧ gK S d = 23 ∧ l.length ≤ gL S d ∧ (0 < gL S d ∧ gL S d ≤ 2000) ∧ ∀ i (h : i < l.length), gQ S d i = some l[i] := h4.elim (fun q => by rw [q.2] at hi; exact absurd hi (Nat.not_lt_zero _)) id
  refine Ct.ofF (by decide +kernel) (Nat.le_of_ble_eq_true rfl) ?_
  refine x_lv [(0, .ref a), (1, .int (nI i))] [0, 1] rfl ?_
  refine x_iload_n 1 dJx4a65c_get_915e3_0 rfl ?_
  refine x_aload_n 0 dJx4a65c_get_915e3_1 rfl ?_
  refine gf_Jx4a65c_48 rfl dJx4a65c_get_915e3_2 h1 ?_
  rw [h2]
  refine ca_Jx4a65c_118 [.int (nI i), .int (nI l.length)] [] (c_J15_checkIndex (nI_pos (by omega)) (nI_lt hi (by omega))) rfl dJx4a65c_get_915e3_5 rfl rfl ⟨(Nat.le_of_ble_eq_true rfl), (Nat.le_of_ble_eq_true rfl), (Nat.le_of_ble_eq_true rfl), (Nat.le_of_ble_eq_true rfl), (Nat.le_of_ble_eq_true rfl)⟩ (fun v T hq => ?_)
  obtain ⟨rfl, rfl⟩ := hq
  refine x_pop dJx4a65c_get_915e3_8 rfl ?_
  refine x_aload_n 0 dJx4a65c_get_915e3_9 rfl ?_
  refine x_iload_n 1 dJx4a65c_get_915e3_10 rfl ?_
  refine ca_Jx4a65c_123 [.int (nI i)] [] (c_al_elementData h1 h3 h6 (by omega) h7b.2 (h8 i hi)) h1 rfl dJx4a65c_get_915e3_11 rfl rfl ⟨(Nat.le_of_ble_eq_true rfl), (Nat.le_of_ble_eq_true rfl), (Nat.le_of_ble_eq_true rfl), (Nat.le_of_ble_eq_true rfl), (Nat.le_of_ble_eq_true rfl)⟩ (fun v T hq => ?_)
  obtain ⟨rfl, rfl⟩ := hq
  exact x_areturn dJx4a65c_get_915e3_14 rfl (Or.inl ⟨_, rfl⟩) (Nat.le_of_ble_eq_true rfl) (Nat.le_of_ble_eq_true rfl) ⟨rfl, rfl⟩
def nLen (n : Nat) : Nat := n + (if 1 < n / 2 then n / 2 else 1)
set_option maxRecDepth 100000 in
theorem c_J8_newLength {k : KT} {S : HS} {n : Nat} (hn : n ≤ 599) : Ct k (mt_J8_newLength_cabcc (rm 2 0 0)) [.int (nI n), .int 1, .int (nI n >>> (1 &&& 31))] S (fun v T => v = some (.int (nI (nLen n))) ∧ T = S) := by
  have es : nI n >>> ((1 : Int32) &&& 31) = nI (n / 2) := pk_shrN (k := 1) (by omega) _ (by decide)
  have hv : nI n + (if (1 : Int32) < nI (n / 2) then nI (n / 2) else 1) = nI (nLen n) := by
    unfold nLen
    by_cases c : 1 < n / 2
    · rw [if_pos c, if_pos (show (1 : Int32) < nI (n / 2) from (nI_lt c (by omega) : nI 1 < nI (n / 2))), nI_add]
    · rw [if_neg c, if_neg (show ¬ (1 : Int32) < nI (n / 2) from (nI_nlt (by omega) (by omega) : ¬ nI 1 < nI (n / 2))), nI_1]
  have hb : 0 < nLen n ∧ nLen n ≤ 900 := by
    unfold nLen
    by_cases c : 1 < n / 2
    · rw [if_pos c]; omega
    · rw [if_neg c]; omega
  refine Ct.ofF (by decide +kernel) (Nat.le_of_ble_eq_true rfl) ?_
  refine x_lv [(0, .int (nI n)), (1, .int 1), (2, .int (nI n >>> (1 &&& 31)))] [0, 1, 2] rfl ?_
  refine x_iload_n 0 dJ8_newLength_cabcc_0 rfl ?_
  refine x_iload_n 1 dJ8_newLength_cabcc_1 rfl ?_
  refine x_iload_n 2 dJ8_newLength_cabcc_2 rfl ?_
  rw [es]
  refine ca_J8_194 rfl dJ8_newLength_cabcc_3 (Nat.le_of_ble_eq_true rfl) (Nat.le_of_ble_eq_true rfl) (Nat.le_of_ble_eq_true rfl) (Nat.le_of_ble_eq_true rfl) ?_
  refine x_iadd dJ8_newLength_cabcc_6 ?_
  rw [hv]
  refine x_istore_n [(3, .int (nI (nLen n))), (0, .int (nI n)), (1, .int 1), (2, .int (nI (n / 2)))] dJ8_newLength_cabcc_7 (Nat.le_of_ble_eq_true rfl) rfl ?_
  refine x_iconst 0 dJ8_newLength_cabcc_8 (by decide) ?_
  refine x_iload_n 0 dJ8_newLength_cabcc_9 rfl ?_
  refine x_icmp_ge 21 dJ8_newLength_cabcc_10 (by decide) (fun c => absurd c (show ¬ nI (nLen n) ≤ nI 0 from nI_ge (by omega) (by omega))) (fun _ => ?_)
  refine x_iload_n 0 dJ8_newLength_cabcc_13 rfl ?_
  refine x_ldc dJ8_newLength_cabcc_14 tw_8_20 ?_
  refine x_icmp_gt 21 dJ8_newLength_cabcc_16 (by decide) (fun c => absurd c (show ¬ nI 2147483639 < nI (nLen n) from nI_nlt (by omega) (by decide))) (fun _ => ?_)
  refine x_iload_n 0 dJ8_newLength_cabcc_19 rfl ?_
  exact x_ireturn dJ8_newLength_cabcc_20 rfl (Nat.le_of_ble_eq_true rfl) (Nat.le_of_ble_eq_true rfl) ⟨rfl, rfl⟩
theorem okE_cs {S : HS} {y : Nat} (h : okE S y) : ∃ (c : Nat) (q : vw_C), gK S y = c + 1 ∧ c < 9 ∧ vwCl[c]? = some q ∧ (q.1, "java/lang/Object") ∈ csL := by
  rcases h with h | h | h
  · exact ⟨1, _, h, by decide, rfl, by simp [csL]⟩
  · exact ⟨3, _, h, by decide, rfl, by simp [csL]⟩
  · exact ⟨4, _, h, by decide, rfl, by simp [csL]⟩
set_option maxRecDepth 100000 in
theorem c_J7_copyOf3 {k : KT} {S : HS} {d n N : Nat} (hD : gK S d = 23) (hL : gL S d = n) (hN : n ≤ N) (hb : N ≤ 900) (hne : d ≠ gN S) (hE : ∀ i y, i < n → gQ S d i = some y → okE S y ∧ y ≠ gN S) : Ct k (mt_J7_copyOf_6403c (rm 1 1 900)) [.ref d, .int (nI N), .ref (k.2.2.2.1 3)] S (fun v T => v = some (.ref (gN S)) ∧ ∃ row : Nat → Option Nat, T = uQ (nA S 23 N) (gN S) row ∧ ∀ i, i < n → row i = gQ S d i) := by
  refine Ct.ofF (by decide +kernel) (Nat.le_of_ble_eq_true rfl) ?_
  refine x_lv [(0, .ref d), (1, .int (nI N)), (2, .ref (k.2.2.2.1 3))] [0, 1, 2] rfl ?_
  refine x_aload_n 2 dJ7_copyOf_6403c_0 rfl ?_
  refine x_ldcM dJ7_copyOf_6403c_1 tk_8 ?_
  refine x_acmp_ne 13 dJ7_copyOf_6403c_3 (by decide) (fun c => absurd rfl c) (fun _ => ?_)
  refine x_iload_n 1 dJ7_copyOf_6403c_6 rfl ?_
  refine x_anew 23 3 N dJ7_copyOf_6403c_7 tk_9 (Or.inr ⟨rfl, rfl, rfl⟩) (nI_pos (by omega)) (nI_clamp (by omega)) (by omega) (Nat.le_of_ble_eq_true rfl) (by show 0 + N ≤ 900; omega) ?_
  refine x_goto 24 dJ7_copyOf_6403c_10 (by decide) ?_
  refine x_astore_n [(3, .ref (gN S)), (0, .ref d), (1, .int (nI N)), (2, .ref (k.2.2.2.1 3))] dJ7_copyOf_6403c_24 (Nat.le_of_ble_eq_true rfl) rfl ?_
  refine x_aload_n 1 dJ7_copyOf_6403c_25 rfl ?_
  refine x_iconst 0 dJ7_copyOf_6403c_26 (by decide) ?_
  refine x_aload_n 0 dJ7_copyOf_6403c_27 rfl ?_
  refine x_iconst 0 dJ7_copyOf_6403c_28 (by decide) ?_
  refine x_aload_n 1 dJ7_copyOf_6403c_29 rfl ?_
  have hK1 : gK (nA S 23 N) d = 23 := by rw [gK_nA, if_neg hne]; exact hD
  have hL1 : gL (nA S 23 N) d = n := by rw [gL_nA, if_neg hne]; exact hL
  refine x_alen dJ7_copyOf_6403c_30 (Or.inr (Or.inr hK1)) ?_
  rw [hL1]
  refine x_iload_n 2 dJ7_copyOf_6403c_31 rfl ?_
  refine ca_J7_304 rfl dJ7_copyOf_6403c_32 (Nat.le_of_ble_eq_true rfl) (Nat.le_of_ble_eq_true rfl) (Nat.le_of_ble_eq_true rfl) (by show 0 + N ≤ 900; omega) ?_
  rw [if_neg (nI_nlt hN (by omega))]
  refine x_copyQ (sp := 0) (dp := 0) dJ7_copyOf_6403c_35 hK1 (by rw [gK_nA, if_pos rfl]) tk_10 tk_11 tk_12 tk_13 (by decide) (by decide) (nI_pos (by omega)) (by rw [hL1, nI_clamp (by omega)]; show 0 + n ≤ n; omega) (by rw [gL_nA, if_pos rfl, nI_clamp (by omega)]; show 0 + n ≤ N; omega) (fun i hi y hy => ?_) (Nat.le_of_ble_eq_true rfl) (Nat.le_of_ble_eq_true rfl) ?_
  · rw [nI_clamp (by omega)] at hi
    rw [gQ_nA, if_neg hne] at hy
    have hy' : gQ S d i = some y := by rw [← hy]; congr 1; show i = 0 + i; omega
    have := hE i y hi hy'
    refine okE_cs ?_
    unfold okE
    rw [gK_nA, if_neg this.2]
    exact this.1
  · refine x_aload_n 0 dJ7_copyOf_6403c_38 rfl ?_
    refine x_areturn dJ7_copyOf_6403c_39 rfl (Or.inr ⟨_, rfl⟩) (Nat.le_of_ble_eq_true rfl) (by show 0 + N ≤ 900; omega) ⟨rfl, _, rfl, fun i hi => ?_⟩
    rw [pk_cpy_in (show (0 : Int32).toNatClampNeg ≤ i from Nat.zero_le _) (by rw [nI_clamp (by omega)]; show i < 0 + n; omega), gQ_nA, if_neg hne]
    congr 1
    show 0 + (i - 0) = i
    omega
set_option maxRecDepth 100000 in
theorem c_J7_copyOf2 {k : KT} {S : HS} {d n N : Nat} (hD : gK S d = 23) (hL : gL S d = n) (hN : n ≤ N) (hb : N ≤ 900) (hne : d ≠ gN S) (hE : ∀ i y, i < n → gQ S d i = some y → okE S y ∧ y ≠ gN S) : Ct k (mt_J7_copyOf_1904c (rm 2 1 900)) [.ref d, .int (nI N)] S (fun v T => v = some (.ref (gN S)) ∧ ∃ row : Nat → Option Nat, T = uQ (nA S 23 N) (gN S) row ∧ ∀ i, i < n → row i = gQ S d i) := by
  refine Ct.ofF (by decide +kernel) (Nat.le_of_ble_eq_true rfl) ?_
  refine x_lv [(0, .ref d), (1, .int (nI N))] [0, 1] rfl ?_
  refine x_aload_n 0 dJ7_copyOf_1904c_0 rfl ?_
  refine x_iload_n 1 dJ7_copyOf_1904c_1 rfl ?_
  refine x_aload_n 0 dJ7_copyOf_1904c_2 rfl ?_
  refine x_getC dJ7_copyOf_1904c_3 hD tk_4 tk_5 tk_6 tk_7 (Nat.le_of_ble_eq_true rfl) (Nat.le_of_ble_eq_true rfl) ?_
  refine ca_J7_300 [.ref d, .int (nI N), .ref (k.2.2.2.1 3)] [] (c_J7_copyOf3 hD hL hN hb hne hE) rfl dJ7_copyOf_1904c_6 rfl rfl ⟨(Nat.le_of_ble_eq_true rfl), (Nat.le_of_ble_eq_true rfl), (Nat.le_of_ble_eq_true rfl), (Nat.le_of_ble_eq_true rfl), (Nat.le_of_ble_eq_true rfl)⟩ (fun v T hq => ?_)
  obtain ⟨rfl, hq⟩ := hq
  exact x_areturn dJ7_copyOf_1904c_9 rfl (Or.inr ⟨_, rfl⟩) (Nat.le_of_ble_eq_true rfl) (Nat.le_of_ble_eq_true rfl) ⟨rfl, hq⟩
/-- grow: the data of the list a get a longer row -/
def GW (S T : HS) (a : Nat) (l : List Nat) : Prop := ∃ (N : Nat) (row : Nat → Option Nat), T = uP (uQ (nA S 23 N) (gN S) row) 1 a (some (gN S)) ∧ l.length < N ∧ N ≤ 900 ∧ ∀ i (h : i < l.length), row i = some l[i]
theorem uQ_id (S : HS) (a : Nat) (r : Nat → Option Nat) (h : gQ S a = r) : uQ S a r = S := by
  have e : (fun b => if b = a then r else S.2.2.2.2.2.1 b) = S.2.2.2.2.2.1 := by
    funext b
    by_cases e : b = a
    · subst e; rw [if_pos rfl]; exact h.symm
    · rw [if_neg e]
  show (S.1, S.2.1, S.2.2.1, S.2.2.2.1, S.2.2.2.2.1, (fun b => if b = a then r else S.2.2.2.2.2.1 b), S.2.2.2.2.2.2) = S
  rw [e]
theorem nLen_b {n : Nat} (h : n ≤ 599) : n < nLen n ∧ nLen n ≤ 900 := by
  unfold nLen
  by_cases c : 1 < n / 2
  · rw [if_pos c]; omega
  · rw [if_neg c]; omega
set_option maxRecDepth 100000 in
theorem c_al_grow1 {k : KT} {S : HS} {a : Nat} {l : List Nat} (hA : AL k S a l) (hW : LW k S) (hE : ∀ y ∈ l, okE S y) (hl : l.length ≤ 599) (hf : ∀ d, gP S 1 a = some d → d = k.2.2.2.1 0 ∨ gL S d = l.length) : Ct k (mt_Jx4a65c_grow_92f84 (rm 3 1 900)) [.ref a, .int (nI (l.length + 1))] S (fun v T => v = some (.ref (gN S)) ∧ GW S T a l) := by
  obtain ⟨h1, h2, d, h3, h4⟩ := hA
  refine Ct.ofF (by decide +kernel) (Nat.le_of_ble_eq_true rfl) ?_
  refine x_lv [(0, .ref a), (1, .int (nI (l.length + 1)))] [0, 1] rfl ?_
  refine x_aload_n 0 dJx4a65c_grow_92f84_0 rfl ?_
  refine gf_Jx4a65c_9 rfl dJx4a65c_grow_92f84_1 h1 ?_
  rw [h3]
  rcases h4 with ⟨h5, h6⟩ | ⟨h5, h6, h7, h7b, h8⟩
  · subst h5
    have hl0 : l.length = 0 := by rw [h6]; rfl
    refine x_tlenE dJx4a65c_grow_92f84_4 ?_
    refine x_istore_n [(2, .int 0), (0, .ref a), (1, .int (nI (l.length + 1)))] dJx4a65c_grow_92f84_5 (Nat.le_of_ble_eq_true rfl) rfl ?_
    refine x_iload_n 0 dJx4a65c_grow_92f84_6 rfl ?_
    refine x_if_gt 20 dJx4a65c_grow_92f84_7 (by decide) (fun c => absurd c (by decide)) (fun _ => ?_)
    refine x_aload_n 1 dJx4a65c_grow_92f84_10 rfl ?_
    refine gf_Jx4a65c_9 rfl dJx4a65c_grow_92f84_11 h1 ?_
    rw [h3]
    refine x_getsE dJx4a65c_grow_92f84_14 tk_0 ?_
    refine x_acmp_eq 45 dJx4a65c_grow_92f84_17 (by decide) (fun _ => ?_) (fun c => absurd rfl c)
    refine x_aload_n 1 dJx4a65c_grow_92f84_45 rfl ?_
    refine x_bipush 10 dJx4a65c_grow_92f84_46 (by decide) ?_
    refine x_iload_n 2 dJx4a65c_grow_92f84_48 rfl ?_
    refine ca_Jx4a65c_79 rfl dJx4a65c_grow_92f84_49 (Nat.le_of_ble_eq_true rfl) (Nat.le_of_ble_eq_true rfl) (Nat.le_of_ble_eq_true rfl) (Nat.le_of_ble_eq_true rfl) ?_
    rw [hl0, if_neg (show ¬ (10 : Int32) < nI (0 + 1) by decide)]
    refine x_anew 23 3 10 dJx4a65c_grow_92f84_52 tk_3 (Or.inr ⟨rfl, rfl, rfl⟩) (by decide) (by decide) (by decide) (Nat.le_of_ble_eq_true rfl) (Nat.le_of_ble_eq_true rfl) ?_
    refine x_dup_x1 dJx4a65c_grow_92f84_55 rfl rfl ?_
    have ha := hW.2.1 a (by omega)
    refine pf_Jx4a65c_9 rfl dJx4a65c_grow_92f84_56 (by rw [gK_nA, if_neg (by omega)]; exact h1) ?_
    refine x_areturn dJx4a65c_grow_92f84_59 rfl (Or.inr ⟨_, rfl⟩) (Nat.le_of_ble_eq_true rfl) (Nat.le_of_ble_eq_true rfl) ⟨rfl, 10, fun _ => none, ?_, by omega, by decide, fun i hi => absurd hi (by omega)⟩
    rw [uQ_id (nA S 23 10) (gN S) (fun _ => none) (by rw [gQ_nA, if_pos rfl])]
  · obtain hfd : gL S d = l.length := (hf d h3).elim (fun q => absurd q h5) id
    refine x_alen dJx4a65c_grow_92f84_4 (Or.inr (Or.inr h6)) ?_
    rw [hfd]
    refine x_istore_n [(2, .int (nI l.length)), (0, .ref a), (1, .int (nI (l.length + 1)))] dJx4a65c_grow_92f84_5 (Nat.le_of_ble_eq_true rfl) rfl ?_
    refine x_iload_n 0 dJx4a65c_grow_92f84_6 rfl ?_
    refine x_if_gt 20 dJx4a65c_grow_92f84_7 (by decide) (fun _ => ?_) (fun c => absurd (show nI 0 < nI l.length from nI_lt (by omega) (by omega)) c)
    refine x_iload_n 0 dJx4a65c_grow_92f84_20 rfl ?_
    refine x_iload_n 2 dJx4a65c_grow_92f84_21 rfl ?_
    refine x_iload_n 0 dJx4a65c_grow_92f84_22 rfl ?_
    refine x_isub dJx4a65c_grow_92f84_23 ?_
    rw [show nI (l.length + 1) - nI l.length = 1 by rw [← nI_1, Int32.add_comm, Int32.add_sub_cancel]]
    refine x_iload_n 0 dJx4a65c_grow_92f84_24 rfl ?_
    refine x_iconst 1 dJx4a65c_grow_92f84_25 (by decide) ?_
    refine x_ishr dJx4a65c_grow_92f84_26 ?_
    refine ca_Jx4a65c_73 [.int (nI l.length), .int 1, .int (nI l.length >>> (1 &&& 31))] [] (c_J8_newLength hl) rfl dJx4a65c_grow_92f84_27 rfl rfl ⟨(Nat.le_of_ble_eq_true rfl), (Nat.le_of_ble_eq_true rfl), (Nat.le_of_ble_eq_true rfl), (Nat.le_of_ble_eq_true rfl), (Nat.le_of_ble_eq_true rfl)⟩ (fun v T hq => ?_)
    obtain ⟨rfl, rfl⟩ := hq
    refine x_istore_n [(3, .int (nI (nLen l.length))), (2, .int (nI l.length)), (0, .ref a), (1, .int (nI (l.length + 1)))] dJx4a65c_grow_92f84_30 (Nat.le_of_ble_eq_true rfl) rfl ?_
    refine x_aload_n 2 dJx4a65c_grow_92f84_31 rfl ?_
    refine x_aload_n 2 dJx4a65c_grow_92f84_32 rfl ?_
    refine gf_Jx4a65c_9 rfl dJx4a65c_grow_92f84_33 h1 ?_
    rw [h3]
    refine x_iload_n 0 dJx4a65c_grow_92f84_36 rfl ?_
    have hb := nLen_b hl
    have ha := hW.2.1 a (by omega)
    have hd := hW.2.2.2 a d h1 h3
    refine ca_Jx4a65c_66 [.ref d, .int (nI (nLen l.length))] [.ref a] (c_J7_copyOf2 h6 hfd (by omega) hb.2 (by omega) (fun i y hi hy => ?_)) rfl dJx4a65c_grow_92f84_37 rfl rfl ⟨(Nat.le_of_ble_eq_true rfl), (Nat.le_of_ble_eq_true rfl), (Nat.le_of_ble_eq_true rfl), (Nat.le_of_ble_eq_true rfl), (Nat.le_of_ble_eq_true rfl)⟩ (fun v T hq => ?_)
    · rw [h8 i hi] at hy
      have e := hE _ (List.getElem_mem hi)
      have ey : l[i] = y := by simpa using hy
      rw [ey] at e
      exact ⟨e, by have := hW.2.1 y (by rcases e with e | e | e <;> omega); omega⟩
    · obtain ⟨rfl, row, rfl, hr⟩ := hq
      refine x_dup_x1 dJx4a65c_grow_92f84_40 rfl rfl ?_
      refine pf_Jx4a65c_9 rfl dJx4a65c_grow_92f84_41 (by rw [gK_uQ, gK_nA, if_neg (by omega)]; exact h1) ?_
      exact x_areturn dJx4a65c_grow_92f84_44 rfl (Or.inr ⟨_, rfl⟩) (Nat.le_of_ble_eq_true rfl) (Nat.le_of_ble_eq_true rfl) ⟨rfl, _, row, rfl, hb.1, hb.2, fun i hi => (hr i hi).trans (h8 i hi)⟩
set_option maxRecDepth 100000 in
theorem c_al_grow0 {k : KT} {S : HS} {a : Nat} {l : List Nat} (hA : AL k S a l) (hW : LW k S) (hE : ∀ y ∈ l, okE S y) (hl : l.length ≤ 599) (hf : ∀ d, gP S 1 a = some d → d = k.2.2.2.1 0 ∨ gL S d = l.length) : Ct k (mt_Jx4a65c_grow_d5877 (rm 4 1 900)) [.ref a] S (fun v T => v = some (.ref (gN S)) ∧ GW S T a l) := by
  refine Ct.ofF (by decide +kernel) (Nat.le_of_ble_eq_true rfl) ?_
  refine x_lv [(0, .ref a)] [0] rfl ?_
  refine x_aload_n 0 dJx4a65c_grow_d5877_0 rfl ?_
  refine x_aload_n 0 dJx4a65c_grow_d5877_1 rfl ?_
  refine gf_Jx4a65c_48 rfl dJx4a65c_grow_d5877_2 hA.1 ?_
  rw [hA.2.1]
  refine x_iconst 1 dJx4a65c_grow_d5877_5 (by decide) ?_
  refine x_iadd dJx4a65c_grow_d5877_6 ?_
  rw [nI_1]
  refine ca_Jx4a65c_69 [.int (nI (l.length + 1))] [] (c_al_grow1 hA hW hE hl hf) hA.1 rfl dJx4a65c_grow_d5877_7 rfl rfl ⟨(Nat.le_of_ble_eq_true rfl), (Nat.le_of_ble_eq_true rfl), (Nat.le_of_ble_eq_true rfl), (Nat.le_of_ble_eq_true rfl), (Nat.le_of_ble_eq_true rfl)⟩ (fun v T hq => ?_)
  obtain ⟨rfl, hq⟩ := hq
  exact x_areturn dJx4a65c_grow_d5877_10 rfl (Or.inr ⟨_, rfl⟩) (Nat.le_of_ble_eq_true rfl) (Nat.le_of_ble_eq_true rfl) ⟨rfl, hq⟩
theorem AL.full {k : KT} {S T : HS} {a e : Nat} {l : List Nat} (hA : AL k S a l) (hW : LW k S) (hG : GW S T a l) : AL k (uI (uQ T (gN S) (va_up (gQ T (gN S)) l.length (some e))) 2 a (nI (l.length + 1))) a (l ++ [e]) ∧ LW k (uI (uQ T (gN S) (va_up (gQ T (gN S)) l.length (some e))) 2 a (nI (l.length + 1))) ∧ LF a S (uI (uQ T (gN S) (va_up (gQ T (gN S)) l.length (some e))) 2 a (nI (l.length + 1))) := by
  obtain ⟨N, row, rfl, hN, hN2, hr⟩ := hG
  have ha := hW.2.1 a (by have := hA.1; omega)
  refine ⟨⟨?_, ?_, gN S, ?_, Or.inr ⟨?_, ?_, ?_, ?_, ?_⟩⟩, ⟨?_, ?_, ?_, ?_⟩, ⟨?_, ?_, ?_, ?_, ?_, ?_⟩⟩
  · rw [gK_uI, gK_uQ, gK_uP, gK_uQ, gK_nA, if_neg (by omega)]; exact hA.1
  · rw [gI_uI, if_pos ⟨rfl, rfl⟩, List.length_append]; rfl
  · rw [gP_uI, gP_uQ, gP_uP, if_pos ⟨rfl, rfl⟩]
  · have := hW.1; omega
  · rw [gK_uI, gK_uQ, gK_uP, gK_uQ, gK_nA, if_pos rfl]
  · rw [gL_uI, gL_uQ, gL_uP, gL_uQ, gL_nA, if_pos rfl, List.length_append]; simp only [List.length_cons, List.length_nil]; omega
  · rw [gL_uI, gL_uQ, gL_uP, gL_uQ, gL_nA, if_pos rfl]; omega
  · intro i hi
    rw [gQ_uI, gQ_uQ, if_pos rfl, gQ_uP, gQ_uQ, if_pos rfl]
    rw [List.length_append] at hi
    by_cases c : i = l.length
    · subst c
      show (if l.length = l.length then some e else row l.length) = _
      rw [if_pos rfl]; simp
    · show (if i = l.length then some e else row i) = _
      have h9 : i < l.length := by simp only [List.length_cons, List.length_nil] at hi; omega
      rw [if_neg c, hr i h9, List.getElem_append_left h9]
  · rw [gN_uI, gN_uQ, gN_uP, gN_uQ, gN_nA]; have := hW.1; omega
  · intro b hb
    rw [gK_uI, gK_uQ, gK_uP, gK_uQ, gK_nA] at hb
    rw [gN_uI, gN_uQ, gN_uP, gN_uQ, gN_nA]
    by_cases c : b = gN S
    · omega
    · rw [if_neg c] at hb; have := hW.2.1 b hb; omega
  · intro b c d hb hc hb2 hc2
    rw [gK_uI, gK_uQ, gK_uP, gK_uQ, gK_nA] at hb hc
    rw [gP_uI, gP_uQ, gP_uP, gP_uQ, gP_nA] at hb2 hc2
    by_cases eb : b = gN S
    · rw [if_pos eb] at hb; omega
    · by_cases ec : c = gN S
      · rw [if_pos ec] at hc; omega
      · rw [if_neg eb] at hb; rw [if_neg ec] at hc
        by_cases qb : b = a
        · by_cases qc : c = a
          · exact Or.inr (qb.trans qc.symm)
          · rw [if_pos ⟨rfl, qb⟩] at hb2
            rw [if_neg (fun q => qc q.2)] at hc2
            have := hW.2.2.2 c d hc hc2
            have e2 : gN S = d := by simpa using hb2
            omega
        · by_cases qc : c = a
          · rw [if_pos ⟨rfl, qc⟩] at hc2
            rw [if_neg (fun q => qb q.2)] at hb2
            have := hW.2.2.2 b d hb hb2
            have e2 : gN S = d := by simpa using hc2
            omega
          · rw [if_neg (fun q => qb q.2)] at hb2
            rw [if_neg (fun q => qc q.2)] at hc2
            exact hW.2.2.1 b c d hb hc hb2 hc2
  · intro b d hb hb2
    rw [gK_uI, gK_uQ, gK_uP, gK_uQ, gK_nA] at hb
    rw [gP_uI, gP_uQ, gP_uP, gP_uQ, gP_nA] at hb2
    rw [gN_uI, gN_uQ, gN_uP, gN_uQ, gN_nA]
    by_cases eb : b = gN S
    · rw [if_pos eb] at hb; omega
    · rw [if_neg eb] at hb
      by_cases qb : b = a
      · rw [if_pos ⟨rfl, qb⟩] at hb2
        have e2 : gN S = d := by simpa using hb2
        omega
      · rw [if_neg (fun q => qb q.2)] at hb2
        have := hW.2.2.2 b d hb hb2
        omega
  · rw [gN_uI, gN_uQ, gN_uP, gN_uQ, gN_nA]; omega
  · intro b hb
    refine ⟨by rw [gK_uI, gK_uQ, gK_uP, gK_uQ, gK_nA, if_neg (by omega)], by rw [gL_uI, gL_uQ, gL_uP, gL_uQ, gL_nA, if_neg (by omega)], by rw [gR_uI, gR_uQ, gR_uP, gR_uQ, gR_nA, if_neg (by omega)]⟩
  · intro b hb _
    rw [gQ_uI, gQ_uQ, if_neg (by omega), gQ_uP, gQ_uQ, if_neg (by omega), gQ_nA, if_neg (by omega)]
  · intro f b h
    rw [gI_uI, if_neg (by omega), gI_uQ, gI_uP, gI_uQ, gI_nA]
  · intro f b h
    rw [gP_uI, gP_uQ, gP_uP, if_neg (by omega), gP_uQ, gP_nA]
  · intro b hb hk
    rw [gK_uI, gK_uQ, gK_uP, gK_uQ, gK_nA]
    by_cases c : b = gN S
    · rw [if_pos c]; exact Or.inr rfl
    · rw [if_neg c]; exact Or.inl hk
theorem AL.room {k : KT} {S : HS} {a d e : Nat} {l : List Nat} (hA : AL k S a l) (hW : LW k S) (h3 : gP S 1 a = some d) (h5 : d ≠ k.2.2.2.1 0) (h7 : l.length < gL S d) : AL k (uI (uQ S d (va_up (gQ S d) l.length (some e))) 2 a (nI (l.length + 1))) a (l ++ [e]) ∧ LW k (uI (uQ S d (va_up (gQ S d) l.length (some e))) 2 a (nI (l.length + 1))) ∧ LF a S (uI (uQ S d (va_up (gQ S d) l.length (some e))) 2 a (nI (l.length + 1))) := by
  obtain ⟨h1, h2, d', h3', h4⟩ := hA
  have ed : d = d' := by rw [h3'] at h3; simpa using h3.symm
  subst ed
  obtain ⟨_, h6, _, h7b, h8⟩ : d ≠ k.2.2.2.1 0 ∧ gK S d = 23 ∧ l.length ≤ gL S d ∧ (0 < gL S d ∧ gL S d ≤ 2000) ∧ ∀ i (h : i < l.length), gQ S d i = some l[i] := h4.elim (fun q => absurd q.1 h5) id
  refine ⟨⟨h1, by rw [gI_uI, if_pos ⟨rfl, rfl⟩, List.length_append]; rfl, d, h3, Or.inr ⟨h5, h6, by rw [gL_uI, gL_uQ, List.length_append]; simp only [List.length_cons, List.length_nil]; omega, h7b, fun i hi => ?_⟩⟩, hW, ⟨Nat.le_refl _, fun b _ => ⟨rfl, rfl, rfl⟩, fun b _ hn => ?_, fun f b h => ?_, fun f b _ => rfl, fun b _ hk => Or.inl hk⟩⟩
  · rw [gQ_uI, gQ_uQ, if_pos rfl]
    rw [List.length_append] at hi
    by_cases c : i = l.length
    · subst c
      show (if l.length = l.length then some e else gQ S d l.length) = _
      rw [if_pos rfl]; simp
    · show (if i = l.length then some e else gQ S d i) = _
      have h9 : i < l.length := by simp only [List.length_cons, List.length_nil] at hi; omega
      rw [if_neg c, h8 i h9, List.getElem_append_left h9]
  · rw [gQ_uI, gQ_uQ, if_neg (fun q => hn.elim (fun z => z (by rw [q]; exact h3)) (fun z => z (by rw [q]; exact h6)))]
  · rw [gI_uI, if_neg (by omega), gI_uQ]
set_option maxRecDepth 100000 in
theorem c_al_add3 {k : KT} {S : HS} {a d e : Nat} {l : List Nat} (hA : AL k S a l) (hW : LW k S) (hE : ∀ y ∈ l, okE S y) (he : okE S e) (hl : l.length ≤ 599) (h3 : gP S 1 a = some d) : Ct k (mt_Jx4a65c_add_72be8 (rm 5 1 900)) [.ref a, .ref e, .ref d, .int (nI l.length)] S (fun v T => v = none ∧ AL k T a (l ++ [e]) ∧ LW k T ∧ LF a S T) := by
  have hA0 := hA
  obtain ⟨h1, h2, d', h3', h4⟩ := hA
  have ed : d = d' := by rw [h3'] at h3; simpa using h3.symm
  subst ed
  have ha := hW.2.1 a (by omega)
  have hek := hW.2.1 e (by rcases he with e | e | e <;> omega)
  obtain ⟨c, q, e1, e2, e3, e4⟩ := okE_cs he
  have tail : ∀ (T : HS), GW S T a l → X k (mt_Jx4a65c_add_72be8 (rm 5 1 900)) (Zm k (mt_Jx4a65c_add_72be8 (rm 5 1 900)) (fun v T => v = none ∧ AL k T a (l ++ [e]) ∧ LW k T ∧ LF a S T)) 10 [(0, .ref a), (1, .ref e), (2, .ref d), (3, .int (nI l.length))] [.ref (gN S)] T (0 + 1) (0 + 900) := by
    intro T hG
    have hf := AL.full (e := e) hA0 hW hG
    obtain ⟨N, row, eT, hN, hN2, hr⟩ := hG
    refine x_astore_n [(2, .ref (gN S)), (0, .ref a), (1, .ref e), (3, .int (nI l.length))] dJx4a65c_add_72be8_10 (Nat.le_of_ble_eq_true rfl) rfl ?_
    refine x_aload_n 0 dJx4a65c_add_72be8_11 rfl ?_
    refine x_iload_n 3 dJx4a65c_add_72be8_12 rfl ?_
    refine x_aload_n 2 dJx4a65c_add_72be8_13 rfl ?_
    refine x_aastore dJx4a65c_add_72be8_14 (by rw [eT, gK_uP, gK_uQ, gK_nA, if_pos rfl]) (by rw [eT, gL_uP, gL_uQ, gL_nA, if_pos rfl]; exact vp_in_nI hN (by omega)) (show gK T e = c + 1 by rw [eT, gK_uP, gK_uQ, gK_nA, if_neg (by omega)]; exact e1) e2 e3 e4 ?_
    refine x_aload_n 1 dJx4a65c_add_72be8_15 rfl ?_
    refine x_iload_n 3 dJx4a65c_add_72be8_16 rfl ?_
    refine x_iconst 1 dJx4a65c_add_72be8_17 (by decide) ?_
    refine x_iadd dJx4a65c_add_72be8_18 ?_
    rw [nI_1, nI_clamp (by omega)]
    refine pf_Jx4a65c_48 rfl dJx4a65c_add_72be8_19 (by rw [gK_uQ, eT, gK_uP, gK_uQ, gK_nA, if_neg (by omega)]; exact h1) ?_
    exact x_return dJx4a65c_add_72be8_22 rfl (Nat.le_of_ble_eq_true rfl) (Nat.le_of_ble_eq_true rfl) ⟨rfl, hf⟩
  refine Ct.ofF (by decide +kernel) (Nat.le_of_ble_eq_true rfl) ?_
  refine x_lv [(0, .ref a), (1, .ref e), (2, .ref d), (3, .int (nI l.length))] [0, 1, 2, 3] rfl ?_
  refine x_iload_n 3 dJx4a65c_add_72be8_0 rfl ?_
  refine x_aload_n 2 dJx4a65c_add_72be8_1 rfl ?_
  have hgrow : (∀ d, gP S 1 a = some d → d = k.2.2.2.1 0 ∨ gL S d = l.length) → X k (mt_Jx4a65c_add_72be8 (rm 5 1 900)) (Zm k (mt_Jx4a65c_add_72be8 (rm 5 1 900)) (fun v T => v = none ∧ AL k T a (l ++ [e]) ∧ LW k T ∧ LF a S T)) 6 [(0, .ref a), (1, .ref e), (2, .ref d), (3, .int (nI l.length))] [] S 0 0 := by
    intro hf
    refine x_aload_n 0 dJx4a65c_add_72be8_6 rfl ?_
    refine ca_Jx4a65c_129 [] [] (c_al_grow0 hA0 hW hE hl hf) h1 rfl dJx4a65c_add_72be8_7 rfl rfl ⟨(Nat.le_of_ble_eq_true rfl), (Nat.le_of_ble_eq_true rfl), (Nat.le_of_ble_eq_true rfl), (Nat.le_of_ble_eq_true rfl), (Nat.le_of_ble_eq_true rfl)⟩ (fun v T hq => ?_)
    obtain ⟨rfl, hq⟩ := hq
    exact tail T hq
  rcases h4 with ⟨h5, h6⟩ | ⟨h5, h6, h7, h7b, h8⟩
  · subst h5
    have hl0 : l.length = 0 := by rw [h6]; rfl
    refine x_tlenE dJx4a65c_add_72be8_2 ?_
    refine x_icmp_ne 11 dJx4a65c_add_72be8_3 (by decide) (fun c => absurd (by rw [hl0]; rfl) c) (fun _ => ?_)
    exact hgrow (fun d' hd' => Or.inl (by rw [h3] at hd'; simpa using hd'.symm))
  · refine x_alen dJx4a65c_add_72be8_2 (Or.inr (Or.inr h6)) ?_
    refine x_icmp_ne 11 dJx4a65c_add_72be8_3 (by decide) (fun c => ?_) (fun c => ?_)
    · have hlt : l.length < gL S d := by
        rcases Nat.lt_or_ge l.length (gL S d) with h | h
        · exact h
        · exact absurd (by rw [show l.length = gL S d by omega]) c
      refine x_aload_n 2 dJx4a65c_add_72be8_11 rfl ?_
      refine x_iload_n 3 dJx4a65c_add_72be8_12 rfl ?_
      refine x_aload_n 1 dJx4a65c_add_72be8_13 rfl ?_
      refine x_aastore dJx4a65c_add_72be8_14 h6 (vp_in_nI hlt (by omega)) e1 e2 e3 e4 ?_
      refine x_aload_n 0 dJx4a65c_add_72be8_15 rfl ?_
      refine x_iload_n 3 dJx4a65c_add_72be8_16 rfl ?_
      refine x_iconst 1 dJx4a65c_add_72be8_17 (by decide) ?_
      refine x_iadd dJx4a65c_add_72be8_18 ?_
      rw [nI_1, nI_clamp (by omega)]
      refine pf_Jx4a65c_48 rfl dJx4a65c_add_72be8_19 (by rw [gK_uQ]; exact h1) ?_
      exact x_return dJx4a65c_add_72be8_22 rfl (Nat.le_of_ble_eq_true rfl) (Nat.le_of_ble_eq_true rfl) ⟨rfl, AL.room hA0 hW h3 h5 hlt⟩
    · have heq : l.length = gL S d := (nI_eq (by omega) (by omega)).mp c
      exact hgrow (fun d' hd' => Or.inr (by rw [h3] at hd'; have : d = d' := by simpa using hd'
                                            rw [← this]; exact heq.symm))
theorem AL.mod {k : KT} {S : HS} {a b : Nat} {l : List Nat} {v : Int32} (h : AL k S b l) : AL k (uI S 0 a v) b l := by
  obtain ⟨h1, h2, d, h3, h4⟩ := h
  exact ⟨h1, by rw [gI_uI, if_neg (by omega)]; exact h2, d, h3, h4⟩
theorem LF.mod {a : Nat} {S T : HS} {v : Int32} (h : LF a (uI S 0 a v) T) : LF a S T :=
  ⟨h.1, h.2.1, h.2.2.1, fun f b q => (h.2.2.2.1 f b q).trans (by rw [gI_uI, if_neg (by omega)]), h.2.2.2.2.1, h.2.2.2.2.2⟩
set_option maxRecDepth 100000 in
theorem c_al_add {k : KT} {S : HS} {a e : Nat} {l : List Nat} (hA : AL k S a l) (hW : LW k S) (hE : ∀ y ∈ l, okE S y) (he : okE S e) (hl : l.length ≤ 599) : Ct k (mt_Jx4a65c_add_9ea2d (rm 6 1 900)) [.ref a, .ref e] S (fun v T => v = some (.int 1) ∧ AL k T a (l ++ [e]) ∧ LW k T ∧ LF a S T) := by
  refine Ct.ofF (by decide +kernel) (Nat.le_of_ble_eq_true rfl) ?_
  refine x_lv [(0, .ref a), (1, .ref e)] [0, 1] rfl ?_
  refine x_aload_n 0 dJx4a65c_add_9ea2d_0 rfl ?_
  refine x_dup dJx4a65c_add_9ea2d_1 rfl ?_
  refine gf_Jx4a65c_63 rfl dJx4a65c_add_9ea2d_2 hA.1 ?_
  refine x_iconst 1 dJx4a65c_add_9ea2d_5 (by decide) ?_
  refine x_iadd dJx4a65c_add_9ea2d_6 ?_
  refine x_topi (fun z _ => ?_)
  refine pf_Jx4a65c_63 rfl dJx4a65c_add_9ea2d_7 hA.1 ?_
  have hA1 : AL k (uI S 0 a z) a l := hA.mod
  have hW1 : LW k (uI S 0 a z) := hW
  obtain ⟨d, hd⟩ : ∃ d, gP (uI S 0 a z) 1 a = some d := by obtain ⟨_, _, d, q, _⟩ := hA1; exact ⟨d, q⟩
  refine x_aload_n 0 dJx4a65c_add_9ea2d_10 rfl ?_
  refine x_aload_n 1 dJx4a65c_add_9ea2d_11 rfl ?_
  refine x_aload_n 0 dJx4a65c_add_9ea2d_12 rfl ?_
  refine gf_Jx4a65c_9 rfl dJx4a65c_add_9ea2d_13 hA1.1 ?_
  rw [hd]
  refine x_aload_n 0 dJx4a65c_add_9ea2d_16 rfl ?_
  refine gf_Jx4a65c_48 rfl dJx4a65c_add_9ea2d_17 hA1.1 ?_
  rw [hA1.2.1]
  refine ca_Jx4a65c_131 [.ref e, .ref d, .int (nI l.length)] [] (c_al_add3 hA1 hW1 hE he hl hd) hA1.1 rfl dJx4a65c_add_9ea2d_20 rfl rfl ⟨(Nat.le_of_ble_eq_true rfl), (Nat.le_of_ble_eq_true rfl), (Nat.le_of_ble_eq_true rfl), (Nat.le_of_ble_eq_true rfl), (Nat.le_of_ble_eq_true rfl)⟩ (fun v T hq => ?_)
  obtain ⟨rfl, q1, q2, q3⟩ := hq
  refine x_iconst 1 dJx4a65c_add_9ea2d_23 (by decide) ?_
  exact x_zreturn dJx4a65c_add_9ea2d_24 rfl (by decide) (Nat.le_of_ble_eq_true rfl) (Nat.le_of_ble_eq_true rfl) ⟨rfl, q1, q2, q3.mod⟩
theorem eraseIdx_get {l : List Nat} {i j : Nat} (h : j < (l.eraseIdx i).length) (hi : i < l.length) : (l.eraseIdx i)[j] = if h9 : j < i then l[j] else l[j + 1]'(by rw [List.length_eraseIdx] at h; rw [if_pos hi] at h; omega) := by
  rw [List.getElem_eraseIdx]
theorem AL.rem {k : KT} {S : HS} {a d i : Nat} {l : List Nat} {f : Nat → Option Nat} (hA : AL k S a l) (hW : LW k S) (h3 : gP S 1 a = some d) (hi : i < l.length) (hf : ∀ j (h : j < l.length - 1), f j = some (if h9 : j < i then l[j] else l[j + 1])) : AL k (uI (uQ S d f) 2 a (nI (l.length - 1))) a (l.eraseIdx i) ∧ LW k (uI (uQ S d f) 2 a (nI (l.length - 1))) ∧ LF a S (uI (uQ S d f) 2 a (nI (l.length - 1))) := by
  obtain ⟨h1, h2, d', h3', h4⟩ := hA
  have ed : d = d' := by rw [h3'] at h3; simpa using h3.symm
  subst ed
  obtain ⟨h5, h6, h7, h7b, h8⟩ : d ≠ k.2.2.2.1 0 ∧ gK S d = 23 ∧ l.length ≤ gL S d ∧ (0 < gL S d ∧ gL S d ≤ 2000) ∧ ∀ i (h : i < l.length), gQ S d i = some l[i] := h4.elim (fun q => by rw [q.2] at hi; exact absurd hi (Nat.not_lt_zero _)) id
  have hlen : (l.eraseIdx i).length = l.length - 1 := by rw [List.length_eraseIdx, if_pos hi]
  refine ⟨⟨h1, by rw [gI_uI, if_pos ⟨rfl, rfl⟩, hlen], d, h3, Or.inr ⟨h5, h6, by rw [gL_uI, gL_uQ, hlen]; omega, h7b, fun j hj => ?_⟩⟩, hW, ⟨Nat.le_refl _, fun b _ => ⟨rfl, rfl, rfl⟩, fun b _ hn => ?_, fun f b h => ?_, fun f b _ => rfl, fun b _ hk => Or.inl hk⟩⟩
  · rw [gQ_uI, gQ_uQ, if_pos rfl, hf j (by omega), eraseIdx_get hj hi]
  · rw [gQ_uI, gQ_uQ, if_neg (fun q => hn.elim (fun z => z (by rw [q]; exact h3)) (fun z => z (by rw [q]; exact h6)))]
  · rw [gI_uI, if_neg (by omega), gI_uQ]
theorem uQ_uI (S : HS) (a f b : Nat) (r : Nat → Option Nat) (v : Int32) : uQ (uI S f b v) a r = uI (uQ S a r) f b v := rfl
theorem uQ_uQ (S : HS) (a : Nat) (r r2 : Nat → Option Nat) : uQ (uQ S a r) a r2 = uQ S a r2 := by
  have e : (fun b => if b = a then r2 else (fun b => if b = a then r else S.2.2.2.2.2.1 b) b) = (fun b => if b = a then r2 else S.2.2.2.2.2.1 b) := by
    funext b
    by_cases e : b = a
    · rw [if_pos e, if_pos e]
    · rw [if_neg e, if_neg e]; exact if_neg e
  show (S.1, S.2.1, S.2.2.1, S.2.2.2.1, S.2.2.2.2.1, (fun b => if b = a then r2 else (fun b => if b = a then r else S.2.2.2.2.2.1 b) b), S.2.2.2.2.2.2) = _
  rw [e]; rfl
set_option maxRecDepth 100000 in
theorem c_al_fast {k : KT} {S : HS} {a d i : Nat} {l : List Nat} (hA : AL k S a l) (hW : LW k S) (hE : ∀ y ∈ l, okE S y) (hi : i < l.length) (h3 : gP S 1 a = some d) : Ct k (mt_Jx4a65c_fastRemove_b59b0 (rm 1 0 0)) [.ref a, .ref d, .int (nI i)] S (fun v T => v = none ∧ AL k T a (l.eraseIdx i) ∧ LW k T ∧ LF a S T) := by
  refine Ct.ofF (by decide +kernel) (Nat.le_of_ble_eq_true rfl) ?_
  refine x_lv [(0, .ref a), (1, .ref d), (2, .int (nI i))] [0, 1, 2] rfl ?_
  refine x_aload_n 0 dJx4a65c_fastRemove_b59b0_0 rfl ?_
  refine x_dup dJx4a65c_fastRemove_b59b0_1 rfl ?_
  refine gf_Jx4a65c_63 rfl dJx4a65c_fastRemove_b59b0_2 hA.1 ?_
  refine x_iconst 1 dJx4a65c_fastRemove_b59b0_5 (by decide) ?_
  refine x_iadd dJx4a65c_fastRemove_b59b0_6 ?_
  refine x_topi (fun z _ => ?_)
  refine pf_Jx4a65c_63 rfl dJx4a65c_fastRemove_b59b0_7 hA.1 ?_
  have hA1 : AL k (uI S 0 a z) a l := hA.mod
  have hW1 : LW k (uI S 0 a z) := hW
  have hd : gP (uI S 0 a z) 1 a = some d := h3
  have hE1 : ∀ y ∈ l, okE (uI S 0 a z) y := hE
  have hfin : ∀ T, LF a (uI S 0 a z) T → LF a S T := fun T h => h.mod
  obtain ⟨S1, eS1⟩ : ∃ s9 : HS, s9 = uI S 0 a z := ⟨_, rfl⟩
  rw [← eS1] at hA1 hW1 hd hE1 hfin ⊢
  clear eS1
  have hA2 := hA1
  obtain ⟨h1, h2, d', h3', h4⟩ := hA1
  have ed : d = d' := by rw [h3'] at hd; simpa using hd.symm
  subst ed
  obtain ⟨h5, h6, h7, h7b, h8⟩ : d ≠ k.2.2.2.1 0 ∧ gK S1 d = 23 ∧ l.length ≤ gL S1 d ∧ (0 < gL S1 d ∧ gL S1 d ≤ 2000) ∧ ∀ i (h : i < l.length), gQ S1 d i = some l[i] := h4.elim (fun q => by rw [q.2] at hi; exact absurd hi (Nat.not_lt_zero _)) id
  refine x_aload_n 0 dJx4a65c_fastRemove_b59b0_10 rfl ?_
  refine gf_Jx4a65c_48 rfl dJx4a65c_fastRemove_b59b0_11 h1 ?_
  rw [h2]
  refine x_iconst 1 dJx4a65c_fastRemove_b59b0_14 (by decide) ?_
  refine x_isub dJx4a65c_fastRemove_b59b0_15 ?_
  rw [show nI l.length - 1 = nI (l.length - 1) by rw [show l.length = l.length - 1 + 1 by omega, nI_pred]; rfl]
  refine x_dup dJx4a65c_fastRemove_b59b0_16 rfl ?_
  refine x_istore_n [(3, .int (nI (l.length - 1))), (0, .ref a), (1, .ref d), (2, .int (nI i))] dJx4a65c_fastRemove_b59b0_17 (Nat.le_of_ble_eq_true rfl) rfl ?_
  refine x_iload_n 3 dJx4a65c_fastRemove_b59b0_18 rfl ?_
  have tail : ∀ f : Nat → Option Nat, (∀ j (h : j < l.length - 1), f j = some (if h9 : j < i then l[j] else l[j + 1])) → X k (mt_Jx4a65c_fastRemove_b59b0 (rm 1 0 0)) (Zm k (mt_Jx4a65c_fastRemove_b59b0 (rm 1 0 0)) (fun v T => v = none ∧ AL k T a (l.eraseIdx i) ∧ LW k T ∧ LF a S T)) 34 [(3, .int (nI (l.length - 1))), (0, .ref a), (1, .ref d), (2, .int (nI i))] [] (uQ S1 d f) 0 0 := by
    intro f hf
    refine x_aload_n 2 dJx4a65c_fastRemove_b59b0_34 rfl ?_
    refine x_aload_n 1 dJx4a65c_fastRemove_b59b0_35 rfl ?_
    refine x_iload_n 0 dJx4a65c_fastRemove_b59b0_36 rfl ?_
    refine x_dup_x1 dJx4a65c_fastRemove_b59b0_37 rfl rfl ?_
    refine pf_Jx4a65c_48 rfl dJx4a65c_fastRemove_b59b0_38 h1 ?_
    refine x_null dJx4a65c_fastRemove_b59b0_41 ?_
    refine x_aastoreN dJx4a65c_fastRemove_b59b0_42 h6 (vp_in_nI (show l.length - 1 < gL S1 d by omega) (show gL S1 d < 2 ^ 31 by omega)) ?_
    rw [gQ_uI, gQ_uQ, if_pos rfl, uQ_uI, uQ_uQ, nI_clamp (by omega)]
    have hr := AL.rem (f := va_up f (l.length - 1) none) hA2 hW1 hd hi (fun j hj => by
      show (if j = l.length - 1 then none else f j) = _
      rw [if_neg (by omega)]; exact hf j hj)
    exact x_return dJx4a65c_fastRemove_b59b0_43 rfl (Nat.le_of_ble_eq_true rfl) (Nat.le_of_ble_eq_true rfl) ⟨rfl, hr.1, hr.2.1, hfin _ hr.2.2⟩
  refine x_icmp_le 34 dJx4a65c_fastRemove_b59b0_19 (by decide) (fun c => ?_) (fun c => ?_)
  · have hil : l.length - 1 ≤ i := (nI_leI (by omega) (by omega)).mp c
    rw [← uQ_id S1 d (gQ S1 d) rfl]
    exact tail (gQ S1 d) (fun j hj => by rw [h8 j (by omega), dif_pos (by omega)])
  · have hil : i < l.length - 1 := by
      rcases Nat.lt_or_ge i (l.length - 1) with h | h
      · exact h
      · exact absurd (nI_le h (by omega)) c
    refine x_aload_n 2 dJx4a65c_fastRemove_b59b0_22 rfl ?_
    refine x_iload_n 3 dJx4a65c_fastRemove_b59b0_23 rfl ?_
    refine x_iconst 1 dJx4a65c_fastRemove_b59b0_24 (by decide) ?_
    refine x_iadd dJx4a65c_fastRemove_b59b0_25 ?_
    rw [nI_1]
    refine x_aload_n 2 dJx4a65c_fastRemove_b59b0_26 rfl ?_
    refine x_iload_n 3 dJx4a65c_fastRemove_b59b0_27 rfl ?_
    refine x_iload_n 0 dJx4a65c_fastRemove_b59b0_28 rfl ?_
    refine x_iload_n 3 dJx4a65c_fastRemove_b59b0_29 rfl ?_
    refine x_isub dJx4a65c_fastRemove_b59b0_30 ?_
    have esub : nI (l.length - 1) - nI i = nI (l.length - 1 - i) := by
      have : l.length - 1 = (l.length - 1 - i) + i := by omega
      conv => lhs; rw [this, ← nI_add, Int32.add_sub_cancel]
    rw [esub]
    have q1 := nI_clamp (n := i + 1) (by omega)
    have q2 := nI_clamp (n := i) (by omega)
    have q3 := nI_clamp (n := l.length - 1 - i) (by omega)
    refine x_copyQ dJx4a65c_fastRemove_b59b0_31 h6 h6 tk_15 tk_11 tk_12 tk_13 (nI_pos (by omega)) (nI_pos (by omega)) (nI_pos (by omega)) (by rw [q1, q3]; omega) (by rw [q2, q3]; omega) (fun j hj y hy => ?_) (Nat.le_of_ble_eq_true rfl) (Nat.le_of_ble_eq_true rfl) ?_
    · rw [q3] at hj
      rw [q1, h8 (i + 1 + j) (by omega)] at hy
      have ey : l[i + 1 + j] = y := by simpa using hy
      rw [← ey]
      exact okE_cs (hE1 _ (List.getElem_mem _))
    · rw [q1, q2, q3]
      refine tail _ (fun j hj => ?_)
      by_cases c9 : j < i
      · rw [pk_cpy_out (Or.inl c9), h8 j (by omega), dif_pos c9]
      · rw [pk_cpy_in (by omega) (by omega), h8 _ (by omega), dif_neg c9]
        congr 2
        omega
set_option maxRecDepth 100000 in
theorem c_al_remove {k : KT} {S : HS} {a i : Nat} {l : List Nat} (hA : AL k S a l) (hW : LW k S) (hE : ∀ y ∈ l, okE S y) (hi : i < l.length) : Ct k (mt_Jx4a65c_remove_915e3 (rm 3 0 0)) [.ref a, .int (nI i)] S (fun v T => v = some (.ref (l[i])) ∧ AL k T a (l.eraseIdx i) ∧ LW k T ∧ LF a S T) := by
  have hA0 := hA
  obtain ⟨h1, h2, d, h3, h4⟩ := hA
  obtain ⟨h5, h6, h7, h7b, h8⟩ : d ≠ k.2.2.2.1 0 ∧ gK S d = 23 ∧ l.length ≤ gL S d ∧ (0 < gL S d ∧ gL S d ≤ 2000) ∧ ∀ i (h : i < l.length), gQ S d i = some l[i] := h4.elim (fun q => by rw [q.2] at hi; exact absurd hi (Nat.not_lt_zero _)) id
  refine Ct.ofF (by decide +kernel) (Nat.le_of_ble_eq_true rfl) ?_
  refine x_lv [(0, .ref a), (1, .int (nI i))] [0, 1] rfl ?_
  refine x_iload_n 1 dJx4a65c_remove_915e3_0 rfl ?_
  refine x_aload_n 0 dJx4a65c_remove_915e3_1 rfl ?_
  refine gf_Jx4a65c_48 rfl dJx4a65c_remove_915e3_2 h1 ?_
  rw [h2]
  refine ca_Jx4a65c_118 [.int (nI i), .int (nI l.length)] [] (c_J15_checkIndex (nI_pos (by omega)) (nI_lt hi (by omega))) rfl dJx4a65c_remove_915e3_5 rfl rfl ⟨(Nat.le_of_ble_eq_true rfl), (Nat.le_of_ble_eq_true rfl), (Nat.le_of_ble_eq_true rfl), (Nat.le_of_ble_eq_true rfl), (Nat.le_of_ble_eq_true rfl)⟩ (fun v T hq => ?_)
  obtain ⟨rfl, rfl⟩ := hq
  refine x_pop dJx4a65c_remove_915e3_8 rfl ?_
  refine x_aload_n 0 dJx4a65c_remove_915e3_9 rfl ?_
  refine gf_Jx4a65c_9 rfl dJx4a65c_remove_915e3_10 h1 ?_
  rw [h3]
  refine x_astore_n [(2, .ref d), (0, .ref a), (1, .int (nI i))] dJx4a65c_remove_915e3_13 (Nat.le_of_ble_eq_true rfl) rfl ?_
  refine x_aload_n 0 dJx4a65c_remove_915e3_14 rfl ?_
  refine x_iload_n 2 dJx4a65c_remove_915e3_15 rfl ?_
  refine x_aaload23 dJx4a65c_remove_915e3_16 h6 (vp_in_nI (by omega) (by omega)) ?_
  rw [nI_clamp (by omega), h8 i hi]
  refine x_astore_n [(3, .ref (l[i])), (2, .ref d), (0, .ref a), (1, .int (nI i))] dJx4a65c_remove_915e3_17 (Nat.le_of_ble_eq_true rfl) rfl ?_
  refine x_aload_n 2 dJx4a65c_remove_915e3_18 rfl ?_
  refine x_aload_n 1 dJx4a65c_remove_915e3_19 rfl ?_
  refine x_iload_n 3 dJx4a65c_remove_915e3_20 rfl ?_
  refine ca_Jx4a65c_144 [.ref d, .int (nI i)] [] (c_al_fast hA0 hW hE hi h3) h1 rfl dJx4a65c_remove_915e3_21 rfl rfl ⟨(Nat.le_of_ble_eq_true rfl), (Nat.le_of_ble_eq_true rfl), (Nat.le_of_ble_eq_true rfl), (Nat.le_of_ble_eq_true rfl), (Nat.le_of_ble_eq_true rfl)⟩ (fun v T hq => ?_)
  obtain ⟨rfl, q1, q2, q3⟩ := hq
  refine x_aload_n 0 dJx4a65c_remove_915e3_24 rfl ?_
  exact x_areturn dJx4a65c_remove_915e3_25 rfl (Or.inl ⟨_, rfl⟩) (Nat.le_of_ble_eq_true rfl) (Nat.le_of_ble_eq_true rfl) ⟨rfl, q1, q2, q3⟩
