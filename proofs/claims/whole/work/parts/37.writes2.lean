set_option maxRecDepth 100000 in
theorem c_X0_init {k : KT} {S : HS} {a : Nat} (lon lat : Int32) (hK : gK S a = 2) : Ct k (mt_X0_init (rm 1 0 0)) [.ref (a), .int (lon), .int (lat)] S (fun v T => v = none ∧ T = uI (uI (S) 32 a (lon)) 33 a (lat)) := by
  refine Ct.ofF (by decide +kernel) (Nat.le_of_ble_eq_true rfl) ?_
  refine x_lv [(0, .ref (a)), (1, .int (lon)), (2, .int (lat))] [0, 1, 2] rfl ?_
  refine x_aload_n 0 dX0_init_0 rfl ?_
  refine ca_X0_1 rfl dX0_init_1 (Nat.le_of_ble_eq_true rfl) (Nat.le_of_ble_eq_true rfl) ?_
  refine x_aload_n 0 dX0_init_4 rfl ?_
  refine x_iload_n 1 dX0_init_5 rfl ?_
  refine pf_X0_7 rfl dX0_init_6 hK ?_
  refine x_aload_n 0 dX0_init_9 rfl ?_
  refine x_iload_n 2 dX0_init_10 rfl ?_
  refine pf_X0_13 rfl dX0_init_11 hK ?_
  exact x_return dX0_init_14 rfl (Nat.le_of_ble_eq_true rfl) (Nat.le_of_ble_eq_true rfl) ⟨rfl, rfl⟩
set_option maxRecDepth 100000 in
theorem c_X2_init {k : KT} {S : HS} {a : Nat} (v0 v1 v2 v3 v4 v5 : Int32) (hK : gK S a = 4) : Ct k (mt_X2_init (rm 1 0 0)) [.ref (a), .int (v0), .int (v1), .int (v2), .int (v3), .int (v4), .int (v5)] S (fun v T => v = none ∧ T = uI (uI (uI (uI (uI (uI (S) 96 a (v0)) 97 a (v1)) 98 a (v2)) 99 a (v3)) 100 a (v4)) 101 a (v5)) := by
  refine Ct.ofF (by decide +kernel) (Nat.le_of_ble_eq_true rfl) ?_
  refine x_lv [(0, .ref (a)), (1, .int (v0)), (2, .int (v1)), (3, .int (v2)), (4, .int (v3)), (5, .int (v4)), (6, .int (v5))] [0, 1, 2, 3, 4, 5, 6] rfl ?_
  refine x_aload_n 0 dX2_init_0 rfl ?_
  refine ca_X2_3 rfl dX2_init_1 (Nat.le_of_ble_eq_true rfl) (Nat.le_of_ble_eq_true rfl) ?_
  refine x_aload_n 0 dX2_init_4 rfl ?_
  refine x_iload_n 1 dX2_init_5 rfl ?_
  refine pf_X2_9 rfl rfl dX2_init_6 hK ?_
  refine x_aload_n 0 dX2_init_9 rfl ?_
  refine x_iload_n 2 dX2_init_10 rfl ?_
  refine pf_X2_15 rfl rfl dX2_init_11 hK ?_
  refine x_aload_n 0 dX2_init_14 rfl ?_
  refine x_iload_n 3 dX2_init_15 rfl ?_
  refine pf_X2_18 rfl rfl dX2_init_16 hK ?_
  refine x_at 19 rfl ?_
  refine x_aload_n 0 dX2_init_19 rfl ?_
  refine x_iload 4 dX2_init_20 rfl ?_
  refine pf_X2_21 rfl rfl dX2_init_22 hK ?_
  refine x_aload_n 0 dX2_init_25 rfl ?_
  refine x_iload 5 dX2_init_26 rfl ?_
  refine pf_X2_24 rfl rfl dX2_init_28 hK ?_
  refine x_aload_n 0 dX2_init_31 rfl ?_
  refine x_iload 6 dX2_init_32 rfl ?_
  refine pf_X2_27 rfl rfl dX2_init_34 hK ?_
  exact x_return dX2_init_37 rfl (Nat.le_of_ble_eq_true rfl) (Nat.le_of_ble_eq_true rfl) ⟨rfl, rfl⟩
set_option maxRecDepth 100000 in
theorem c_X3_init {k : KT} {S : HS} {a : Nat} (v0 v1 v2 v3 v4 : Int32) (hK : gK S a = 5) : Ct k (mt_X3_init (rm 1 0 0)) [.ref (a), .int (v0), .int (v1), .int (v2), .int (v3), .int (v4)] S (fun v T => v = none ∧ T = uI (uI (uI (uI (uI (S) 128 a (v0)) 129 a (v1)) 130 a (v2)) 131 a (v3)) 132 a (v4)) := by
  refine Ct.ofF (by decide +kernel) (Nat.le_of_ble_eq_true rfl) ?_
  refine x_lv [(0, .ref (a)), (1, .int (v0)), (2, .int (v1)), (3, .int (v2)), (4, .int (v3)), (5, .int (v4))] [0, 1, 2, 3, 4, 5] rfl ?_
  refine x_aload_n 0 dX3_init_0 rfl ?_
  refine ca_X3_1 rfl dX3_init_1 (Nat.le_of_ble_eq_true rfl) (Nat.le_of_ble_eq_true rfl) ?_
  refine x_aload_n 0 dX3_init_4 rfl ?_
  refine x_iload_n 1 dX3_init_5 rfl ?_
  refine pf_X3_7 rfl rfl dX3_init_6 hK ?_
  refine x_aload_n 0 dX3_init_9 rfl ?_
  refine x_iload_n 2 dX3_init_10 rfl ?_
  refine pf_X3_13 rfl rfl dX3_init_11 hK ?_
  refine x_aload_n 0 dX3_init_14 rfl ?_
  refine x_iload_n 3 dX3_init_15 rfl ?_
  refine pf_X3_16 rfl rfl dX3_init_16 hK ?_
  refine x_at 19 rfl ?_
  refine x_aload_n 0 dX3_init_19 rfl ?_
  refine x_iload 4 dX3_init_20 rfl ?_
  refine pf_X3_19 rfl rfl dX3_init_22 hK ?_
  refine x_aload_n 0 dX3_init_25 rfl ?_
  refine x_iload 5 dX3_init_26 rfl ?_
  refine pf_X3_22 rfl rfl dX3_init_28 hK ?_
  exact x_return dX3_init_31 rfl (Nat.le_of_ble_eq_true rfl) (Nat.le_of_ble_eq_true rfl) ⟨rfl, rfl⟩
def stT (l0 lo : Int32) : Int32 := f_X6_rest (lo - l0) 360
def stD (t : Int32) : Int32 := if 180 < t then (-1) else 1
def stL (t : Int32) : Int32 := if 360 - t < t then 360 - t else t
set_option maxRecDepth 100000 in
theorem c_X5_init {k : KT} {S : HS} {a b : Nat} {l0 a0 : Int32} (lo la : Int32) (hK : gK S a = 7) (hKb : gK S b = 2) (h32 : gI S 32 b = l0) (h33 : gI S 33 b = a0) : Ct k (mt_X5_init (rm 3 0 0)) [.ref a, .ref b, .int lo, .int la] S (fun v T => v = none ∧ T = uI (uI (uI (uI (uI S 192 a l0) 193 a (a0 * 60)) 194 a ((la - a0) * 60)) 196 a (stD (stT l0 lo))) 195 a (stL (stT l0 lo))) := by
  refine Ct.ofF (by decide +kernel) (Nat.le_of_ble_eq_true rfl) ?_
  refine x_lv [(0, .ref (a)), (1, .ref (b)), (2, .int (lo)), (3, .int (la))] [0, 1, 2, 3] rfl ?_
  refine x_aload_n 0 dX5_init_0 rfl ?_
  refine ca_X5_3 rfl dX5_init_1 (Nat.le_of_ble_eq_true rfl) (Nat.le_of_ble_eq_true rfl) ?_
  refine x_aload_n 0 dX5_init_4 rfl ?_
  refine x_aload_n 1 dX5_init_5 rfl ?_
  refine gf_X5_9 rfl dX5_init_6 hKb ?_
  rw [show gI (S) 32 (b) = l0 from h32]
  refine pf_X5_15 rfl rfl dX5_init_9 hK ?_
  refine x_aload_n 0 dX5_init_12 rfl ?_
  refine x_aload_n 1 dX5_init_13 rfl ?_
  refine gf_X5_18 rfl dX5_init_14 hKb ?_
  rw [show gI (uI (S) 192 (a) (l0)) 33 (b) = a0 from h33]
  refine x_bipush 60 dX5_init_17 (by decide) ?_
  refine x_imul dX5_init_19 ?_
  refine x_at 20 rfl ?_
  refine pf_X5_21 rfl rfl dX5_init_20 hK ?_
  refine x_aload_n 0 dX5_init_23 rfl ?_
  refine x_iload_n 3 dX5_init_24 rfl ?_
  refine x_aload_n 1 dX5_init_25 rfl ?_
  refine gf_X5_18 rfl dX5_init_26 hKb ?_
  rw [show gI (uI (uI (S) 192 (a) (l0)) 193 (a) ((a0 * 60))) 33 (b) = a0 from h33]
  refine x_isub dX5_init_29 ?_
  refine x_bipush 60 dX5_init_30 (by decide) ?_
  refine x_imul dX5_init_32 ?_
  refine pf_X5_24 rfl rfl dX5_init_33 hK ?_
  refine x_iload_n 2 dX5_init_36 rfl ?_
  refine x_aload_n 1 dX5_init_37 rfl ?_
  refine gf_X5_9 rfl dX5_init_38 hKb ?_
  rw [show gI (uI (uI (uI (S) 192 (a) (l0)) 193 (a) ((a0 * 60))) 194 (a) (((la - a0) * 60))) 32 (b) = l0 from h32]
  refine x_at 41 rfl ?_
  refine x_isub dX5_init_41 ?_
  refine x_sipush 360 dX5_init_42 (by decide) ?_
  refine ca_X5_27 [.int ((lo - l0)), .int (360)] [] (c_X6_rest ((lo - l0)) (360)) rfl dX5_init_45 rfl rfl ⟨(Nat.le_of_ble_eq_true rfl), (Nat.le_of_ble_eq_true rfl), (Nat.le_of_ble_eq_true rfl), (Nat.le_of_ble_eq_true rfl), (Nat.le_of_ble_eq_true rfl)⟩ (fun v T hq => ?_)
  obtain ⟨rfl, rfl⟩ := hq
  refine x_istore [(4, .int ((f_X6_rest ((lo - l0)) 360))), (0, .ref (a)), (1, .ref (b)), (2, .int (lo)), (3, .int (la))] dX5_init_48 (Nat.le_of_ble_eq_true rfl) rfl ?_
  refine x_aload_n 1 dX5_init_50 rfl ?_
  refine x_iload 0 dX5_init_51 rfl ?_
  refine x_sipush 180 dX5_init_53 (by decide) ?_
  refine x_icmp_gt 63 dX5_init_56 (by decide) (fun c1 => ?_) (fun c1 => ?_)
  · refine x_iconst (-1) dX5_init_63 (by decide) ?_
    refine pf_X5_31 rfl rfl dX5_init_64 hK ?_
    refine x_aload_n 1 dX5_init_67 rfl ?_
    refine x_iload 0 dX5_init_68 rfl ?_
    refine x_sipush 360 dX5_init_70 (by decide) ?_
    refine x_iload 0 dX5_init_73 rfl ?_
    refine x_isub dX5_init_75 ?_
    refine ca_X5_34 rfl dX5_init_76 (Nat.le_of_ble_eq_true rfl) (Nat.le_of_ble_eq_true rfl) (Nat.le_of_ble_eq_true rfl) (Nat.le_of_ble_eq_true rfl) ?_
    refine pf_X5_39 rfl rfl dX5_init_79 hK ?_
    exact x_return dX5_init_82 rfl (Nat.le_of_ble_eq_true rfl) (Nat.le_of_ble_eq_true rfl) ⟨rfl, by rw [stD, stT, if_pos c1]; rfl⟩
  · refine x_iconst 1 dX5_init_59 (by decide) ?_
    refine x_at 60 rfl ?_
    refine x_goto 64 dX5_init_60 (by decide) ?_
    refine pf_X5_31 rfl rfl dX5_init_64 hK ?_
    refine x_aload_n 1 dX5_init_67 rfl ?_
    refine x_iload 0 dX5_init_68 rfl ?_
    refine x_sipush 360 dX5_init_70 (by decide) ?_
    refine x_iload 0 dX5_init_73 rfl ?_
    refine x_isub dX5_init_75 ?_
    refine ca_X5_34 rfl dX5_init_76 (Nat.le_of_ble_eq_true rfl) (Nat.le_of_ble_eq_true rfl) (Nat.le_of_ble_eq_true rfl) (Nat.le_of_ble_eq_true rfl) ?_
    refine pf_X5_39 rfl rfl dX5_init_79 hK ?_
    exact x_return dX5_init_82 rfl (Nat.le_of_ble_eq_true rfl) (Nat.le_of_ble_eq_true rfl) ⟨rfl, by rw [stD, stT, if_neg c1]; rfl⟩
section
variable {k : KT} {S T : HS} {x n c q p f a : Nat} {ca pa na : Nat → Nat} {σ τ : MS} {v : Int32}
theorem AL.pI {b : Nat} {l : List Nat} (h : AL k S b l) (hf : f ≠ 2) : AL k (uI S f a v) b l := by
  obtain ⟨h1, h2, h3⟩ := h
  exact ⟨h1, by rw [gI_uI, if_neg (by omega)]; exact h2, h3⟩
theorem CPe.pI (h : CPe S c ca σ) (h1 : f ≠ 32) (h2 : f ≠ 33) : CPe (uI S f a v) c ca σ := fun i hi => by
  rw [gI_uI, if_neg (by omega), gI_uI, if_neg (by omega)]; exact h i hi
theorem PMi.pI {b i : Nat} (h : PMi S b σ i n) (hf : f < 128 ∨ 132 < f) : PMi (uI S f a v) b σ i n := by
  unfold PMi
  rw [gI_uI, if_neg (by omega), gI_uI, if_neg (by omega), gI_uI, if_neg (by omega), gI_uI, if_neg (by omega), gI_uI, if_neg (by omega)]; exact h
theorem NMi.pI {b i : Nat} (h : NMi S b σ i n) (hf : f < 96 ∨ 104 < f ∨ f = 103) : NMi (uI S f a v) b σ i n := by
  have e : ∀ g, (96 ≤ g ∧ g ≤ 102 ∨ g = 104) → gI (uI S f a v) g b = gI S g b := fun g hg => by rw [gI_uI, if_neg (by omega)]
  unfold NMi
  rw [e 96 (by decide), e 97 (by decide), e 98 (by decide), e 99 (by decide), e 100 (by decide), e 101 (by decide), e 102 (by decide), e 104 (by decide)]; exact h
theorem CB.pI (h : CB S x n p na σ) (h1 : f ≠ 66) (h2 : f ≠ 103) : CB (uI S f a v) x n p na σ := fun g hg =>
  ⟨by rw [gI_uI, if_neg (by omega)]; exact (h g hg).1, fun j hj => by rw [gI_uI, if_neg (by omega)]; exact (h g hg).2 j hj⟩
theorem NE.of (hi : ∀ j, j ≠ 10 → j ≠ 11 → j ≠ 21 → τ.1 j = σ.1 j) (hr : ∀ a, a ≠ 13 → a ≠ 14 → τ.2 a = σ.2 a) : NE σ τ :=
  ⟨hi 2 (by decide) (by decide) (by decide), hr 1 (by decide) (by decide), hr 7 (by decide) (by decide), hr 8 (by decide) (by decide), hr 9 (by decide) (by decide), hr 10 (by decide) (by decide), hr 11 (by decide) (by decide), hr 12 (by decide) (by decide)⟩
theorem CX.pI (h : CX k S x n c q p ca pa na σ) (hf : f = 67 ∨ f = 68 ∨ f = 162 ∨ 229 ≤ f) (hm : CM (uI S f a v) x n τ) (hi : ∀ j, j ≠ 10 → j ≠ 11 → j ≠ 21 → τ.1 j = σ.1 j) (hr : ∀ a, a ≠ 13 → a ≠ 14 → τ.2 a = σ.2 a) : CX k (uI S f a v) x n c q p ca pa na τ := by
  refine ⟨?_, h.lw, h.l, hm, CP.cg (hr 2 (by decide) (by decide)) (hr 3 (by decide) (by decide)) ⟨h.cp.1.pI (by omega), h.cp.2.1, CPe.pI (S := S) h.cp.2.2 (by omega) (by omega)⟩, CQ.cg (hr 4 (by decide) (by decide)) (hr 5 (by decide) (by decide)) (hr 6 (by decide) (by decide)) ⟨fun i hi => (h.qq.1 i hi).pI (by omega), fun g hg => (h.qq.2 g hg).pI (by omega)⟩, CW.cg (NE.of hi hr) ⟨h.w.1.pI (by omega), h.w.2.1, fun i hi => (h.w.2.2.1 i hi).pI (by omega), fun g hg => ⟨(h.w.2.2.2 g hg).1.pI (by omega), (h.w.2.2.2 g hg).2⟩⟩, CB.cg (NE.of hi hr) (h.b.pI (by omega) (by omega))⟩
  rw [hi 1 (by decide) (by decide) (by decide), hi 3 (by decide) (by decide) (by decide), hi 6 (by decide) (by decide) (by decide), hi 12 (by decide) (by decide) (by decide)]
  exact h.1
theorem CX.p67 {g : Nat} (h : CX k S x n c q p ca pa na σ) (hg : g < n) : CX k (uI S 67 (x + 7 + 3 * g) v) x n c q p ca pa na (fR σ 13 (upd (σ.2 13) g v)) := by
  refine h.pI (by decide) ⟨h.m.1, fun g2 h2 => ?_⟩ (fun j _ _ _ => rfl) (fun a h1 _ => if_neg h1)
  have q := h.m.2 g2 h2
  refine ⟨?_, q.2⟩
  rw [gI_uI]
  show _ = upd (σ.2 13) g v g2
  by_cases e : g2 = g
  · subst e; rw [if_pos ⟨rfl, rfl⟩, pk_us]
  · rw [if_neg (by omega), pk_un e]; exact q.1
theorem CX.p68 {g : Nat} (h : CX k S x n c q p ca pa na σ) (hg : g < n) : CX k (uI S 68 (x + 7 + 3 * g) v) x n c q p ca pa na (fR σ 14 (upd (σ.2 14) g v)) := by
  refine h.pI (by decide) ⟨h.m.1, fun g2 h2 => ?_⟩ (fun j _ _ _ => rfl) (fun a _ h1 => if_neg h1)
  have q := h.m.2 g2 h2
  refine ⟨q.1, ?_⟩
  rw [gI_uI]
  show _ = upd (σ.2 14) g v g2
  by_cases e : g2 = g
  · subst e; rw [if_pos ⟨rfl, rfl⟩, pk_us]
  · rw [if_neg (by omega), pk_un e]; exact q.2
theorem CX.p230 (h : CX k S x n c q p ca pa na σ) : CX k (uI S 230 x v) x n c q p ca pa na (fI σ 10 v) :=
  h.pI (by decide) ⟨⟨h.m.1.1, h.m.1.2.1, by rw [gI_uI, if_pos ⟨rfl, rfl⟩]; rfl, h.m.1.2.2.2.1, h.m.1.2.2.2.2⟩, h.m.2⟩ (fun j h1 _ _ => if_neg h1) (fun a _ _ => rfl)
theorem CX.p231 (h : CX k S x n c q p ca pa na σ) : CX k (uI S 231 x v) x n c q p ca pa na (fI σ 11 v) :=
  h.pI (by decide) ⟨⟨h.m.1.1, h.m.1.2.1, h.m.1.2.2.1, by rw [gI_uI, if_pos ⟨rfl, rfl⟩]; rfl, h.m.1.2.2.2.2⟩, h.m.2⟩ (fun j _ h1 _ => if_neg h1) (fun a _ _ => rfl)
theorem CX.p232 (h : CX k S x n c q p ca pa na σ) : CX k (uI S 232 x v) x n c q p ca pa na (fI σ 21 v) :=
  h.pI (by decide) ⟨⟨h.m.1.1, h.m.1.2.1, h.m.1.2.2.1, h.m.1.2.2.2.1, by rw [gI_uI, if_pos ⟨rfl, rfl⟩]; rfl⟩, h.m.2⟩ (fun j _ _ h1 => if_neg h1) (fun a _ _ => rfl)
theorem CX.lf {b : Nat} (h : CX k S x n c q p ca pa na σ) (hF : LF b S T) (hT : LW k T) (hb : gK S b = 1) (hc : AL k T (x + 1) ((List.range c).map ca)) (hw : AL k T (x + 2) ((List.range p).map na)) (hq : ∀ g, g < n → AL k T (x + 8 + 3 * g) ((pl σ q g).map pa)) (hn : ∀ g, g < n → AL k T (x + 9 + 3 * g) ((hl σ p g).map na)) : CX k T x n c q p ca pa na σ :=
  ⟨h.1, hT, h.l.lf h.lw hF, h.m.lf hF, ⟨hc, h.cp.2.1, CPe.lf (S := S) h.cp.2.2 h.lw hF⟩, ⟨fun i hi => (h.qq.1 i hi).lf h.lw hF, hq⟩, ⟨hw, h.w.2.1, fun i hi => (h.w.2.2.1 i hi).lf h.lw hF, fun g hg => ⟨hn g hg, (h.w.2.2.2 g hg).2⟩⟩, h.b.lf hF⟩
end
theorem rng_up {f : Nat → Nat} {c v : Nat} : (List.range (c + 1)).map (va_up f c v) = (List.range c).map f ++ [v] := by
  rw [List.range_succ, List.map_append]
  congr 1
  · refine List.map_congr_left (fun i hi => ?_)
    have := List.mem_range.mp hi
    show (if i = c then v else f i) = f i
    rw [if_neg (by omega)]
  · show [if c = c then v else f c] = [v]
    rw [if_pos rfl]
theorem up_eq {f : Nat → Nat} {c v : Nat} : va_up f c v c = v := if_pos rfl
theorem up_ne {f : Nat → Nat} {c v i : Nat} (h : i ≠ c) : va_up f c v i = f i := if_neg h
set_option maxRecDepth 100000 in
theorem l_cpaper {k : KT} {S0 : HS} {x n c q p : Nat} {ca pa na : Nat → Nat} {ac al : Int32} (hnb : n ≤ 24) : ∀ (m j : Nat), j + m = n → ∀ (S : HS) (τ : MS) (hI : CX k S x n c q p ca pa na τ) (hF : FX x S0 S), X k (mt_X6_paper (rm 2 0 0)) (Zm k (mt_X6_paper (rm 2 0 0)) (fun v T => v = some (.int (lp_X7_paper ac al m j τ).1) ∧ CI k T x (lp_X7_paper ac al m j τ).2 ∧ FX x S0 T)) 56 [(0, .ref (x)), (1, .int (ac)), (2, .int (al)), (3, .ref (x + 6)), (4, .int (nI n)), (5, .int (nI j))] [] S 0 0 := by
  intro m
  induction m with
  | zero =>
    intro j hj S τ hI hF
    refine x_iload 5 dX6_paper_56 rfl ?_
    refine x_iload 4 dX6_paper_58 rfl ?_
    refine x_icmp_ge 81 dX6_paper_60 (by decide) (fun c1 => ?_) (fun c1 => ?_)
    · refine x_iconst 1 dX6_paper_81 (by decide) ?_
      exact x_zreturn dX6_paper_82 rfl (by decide) (Nat.le_of_ble_eq_true rfl) (Nat.le_of_ble_eq_true rfl) ⟨by rw [lp_X7_paper], by rw [lp_X7_paper]; exact ⟨n, c, q, p, ca, pa, na, hI⟩, hF⟩
    · exact absurd (nI_le (by omega) (by omega)) c1
  | succ m ih =>
    intro j hj S τ hI hF
    have hg : j < n := by omega
    refine x_iload 5 dX6_paper_56 rfl ?_
    refine x_iload 4 dX6_paper_58 rfl ?_
    refine x_icmp_ge 81 dX6_paper_60 (by decide) (fun c1 => ?_) (fun c1 => ?_)
    · exact absurd c1 (nI_ge (by omega) (by omega))
    · refine x_aload_n 3 dX6_paper_63 rfl ?_
      refine x_iload 5 dX6_paper_64 rfl ?_
      refine x_aaload22 dX6_paper_66 hI.l.2.2.2.2.1.1 (by rw [show gL (S) (x + 6) = n from hI.l.2.2.2.2.1.2]; exact (vp_in_nI hg (by omega))) ?_
      rw [nI_clamp (by omega), (hI.l.2.2.2.2.2 j hg).1]
      refine x_astore [(6, .ref (x + 7 + 3 * j)), (0, .ref (x)), (1, .int (ac)), (2, .int (al)), (3, .ref (x + 6)), (4, .int (nI n)), (5, .int (nI j))] dX6_paper_67 (Nat.le_of_ble_eq_true rfl) rfl ?_
      refine x_aload 0 dX6_paper_69 rfl ?_
      refine x_iconst 1 dX6_paper_71 (by decide) ?_
      refine pf_X6_146 rfl dX6_paper_72 (by decide) (hI.l.2.2.2.2.2 j hg).2.1 ?_
      obtain ⟨S2, eS2⟩ : ∃ s9 : HS, s9 = uI (S) 67 (x + 7 + 3 * j) (1) := ⟨_, rfl⟩
      rw [← eS2]
      have hI2 : CX k S2 x n c q p ca pa na (fR (τ) 13 (upd ((τ).2 13) j (1))) := by rw [eS2]; exact hI.p67 hg
      have hF2 : FX x S0 S2 := by rw [eS2]; exact FX.tr hF (FX.pI (by decide))
      clear eS2
      refine x_iinc 6 (nI j + 1) [(5, .int ((nI j + 1))), (6, .ref (x + 7 + 3 * j)), (0, .ref (x)), (1, .int (ac)), (2, .int (al)), (3, .ref (x + 6)), (4, .int (nI n))] dX6_paper_75 rfl rfl (Nat.le_of_ble_eq_true rfl) rfl ?_
      refine x_goto 56 dX6_paper_78 (by decide) ?_
      refine x_lv [(0, .ref (x)), (1, .int (ac)), (2, .int (al)), (3, .ref (x + 6)), (4, .int (nI n)), (5, .int (nI (j + 1)))] [2, 3, 4, 5, 6, 0] (by rw [← nI_1 j]; rfl) ?_
      have q9 := ih (j + 1) (by omega) S2 (fR (τ) 13 (upd ((τ).2 13) j (1))) hI2 hF2
      rw [show lp_X7_paper ac al (m + 1) j τ = lp_X7_paper ac al m (j + 1) (fR τ 13 (upd (τ.2 13) j 1)) from by rw [lp_X7_paper, nI_clamp (by omega)]]
      exact q9
set_option maxRecDepth 100000 in
theorem c_X6_paper {k : KT} {S : HS} {x n c q p : Nat} {ca pa na : Nat → Nat} {σ : MS} (hI : CX k S x n c q p ca pa na σ) (ac al : Int32) : Ct k (mt_X6_paper (rm 2 0 0)) [.ref x, .int ac, .int al] S (fun v T => v = some (.int (h_X7_paper σ ac al).1) ∧ CI k T x (h_X7_paper σ ac al).2 ∧ FX x S T) := by
  refine Ct.ofF (by decide +kernel) (Nat.le_of_ble_eq_true rfl) ?_
  refine x_lv [(0, .ref (x)), (1, .int (ac)), (2, .int (al))] [0, 1, 2] rfl ?_
  refine x_iload_n 1 dX6_paper_0 rfl ?_
  refine ca_X6_137 [.int (ac)] [] (c_X6_isGrowth (ac)) rfl dX6_paper_1 rfl rfl ⟨(Nat.le_of_ble_eq_true rfl), (Nat.le_of_ble_eq_true rfl), (Nat.le_of_ble_eq_true rfl), (Nat.le_of_ble_eq_true rfl), (Nat.le_of_ble_eq_true rfl)⟩ (fun v T hq => ?_)
  obtain ⟨rfl, rfl⟩ := hq
  refine x_if_eq 14 dX6_paper_4 (by decide) (fun c1 => ?_) (fun c1 => ?_)
  · refine x_iconst 0 dX6_paper_14 (by decide) ?_
    exact x_zreturn dX6_paper_15 rfl (by decide) (Nat.le_of_ble_eq_true rfl) (Nat.le_of_ble_eq_true rfl) ⟨by rw [h_X7_paper, ← growth_eq, ← growth_eq, if_pos c1], by rw [h_X7_paper, ← growth_eq, ← growth_eq, if_pos c1]; exact ⟨n, c, q, p, ca, pa, na, hI⟩, FX.rf⟩
  · refine x_iload_n 2 dX6_paper_7 rfl ?_
    refine ca_X6_137 [.int (al)] [] (c_X6_isGrowth (al)) rfl dX6_paper_8 rfl rfl ⟨(Nat.le_of_ble_eq_true rfl), (Nat.le_of_ble_eq_true rfl), (Nat.le_of_ble_eq_true rfl), (Nat.le_of_ble_eq_true rfl), (Nat.le_of_ble_eq_true rfl)⟩ (fun v T hq => ?_)
    obtain ⟨rfl, rfl⟩ := hq
    refine x_if_ne 16 dX6_paper_11 (by decide) (fun c2 => ?_) (fun c2 => ?_)
    · refine x_iload_n 1 dX6_paper_16 rfl ?_
      refine x_aload_n 0 dX6_paper_17 rfl ?_
      refine gf_X6_140 rfl dX6_paper_18 hI.l.1 ?_
      rw [show gI (S) 230 (x) = σ.1 10 from hI.m.1.2.2.1]
      refine x_icmp_ne 34 dX6_paper_21 (by decide) (fun c3 => ?_) (fun c3 => ?_)
      · refine x_aload_n 0 dX6_paper_34 rfl ?_
        refine x_iload_n 1 dX6_paper_35 rfl ?_
        refine pf_X6_140 rfl dX6_paper_36 hI.l.1 ?_
        obtain ⟨S4, eS4⟩ : ∃ s9 : HS, s9 = uI (S) 230 (x) (ac) := ⟨_, rfl⟩
        rw [← eS4]
        have hI4 : CX k S4 x n c q p ca pa na (fI (σ) 10 (ac)) := by rw [eS4]; exact hI.p230
        have hF4 : FX x S S4 := by rw [eS4]; exact FX.tr FX.rf (FX.pI (by decide))
        clear eS4
        refine x_aload_n 0 dX6_paper_39 rfl ?_
        refine x_iload_n 2 dX6_paper_40 rfl ?_
        refine pf_X6_143 rfl dX6_paper_41 hI4.l.1 ?_
        obtain ⟨S5, eS5⟩ : ∃ s9 : HS, s9 = uI (S4) 231 (x) (al) := ⟨_, rfl⟩
        rw [← eS5]
        have hI5 : CX k S5 x n c q p ca pa na (fI (fI (σ) 10 (ac)) 11 (al)) := by rw [eS5]; exact hI4.p231
        have hF5 : FX x S S5 := by rw [eS5]; exact FX.tr hF4 (FX.pI (by decide))
        clear eS5
        refine x_aload_n 0 dX6_paper_44 rfl ?_
        refine gf_X6_40 rfl dX6_paper_45 hI5.l.1 ?_
        rw [show gP (S5) 225 (x) = some (x + 6) from hI5.l.2.1.1]
        refine x_astore_n [(3, .ref (x + 6)), (0, .ref (x)), (1, .int (ac)), (2, .int (al))] dX6_paper_48 (Nat.le_of_ble_eq_true rfl) rfl ?_
        refine x_aload_n 0 dX6_paper_49 rfl ?_
        refine x_alen dX6_paper_50 (Or.inr (Or.inl hI5.l.2.2.2.2.1.1)) ?_
        rw [show gL (S5) (x + 6) = n from hI5.l.2.2.2.2.1.2]
        refine x_at 51 rfl ?_
        refine x_istore [(4, .int ((nI n))), (3, .ref (x + 6)), (0, .ref (x)), (1, .int (ac)), (2, .int (al))] dX6_paper_51 (Nat.le_of_ble_eq_true rfl) rfl ?_
        refine x_iconst 0 dX6_paper_53 (by decide) ?_
        refine x_istore [(5, .int (0)), (4, .int ((nI n))), (3, .ref (x + 6)), (0, .ref (x)), (1, .int (ac)), (2, .int (al))] dX6_paper_54 (Nat.le_of_ble_eq_true rfl) rfl ?_
        refine x_lv [(0, .ref (x)), (1, .int (ac)), (2, .int (al)), (3, .ref (x + 6)), (4, .int ((nI n))), (5, .int (nI 0))] [3, 4, 5, 2, 1, 0] rfl ?_
        have q9 := l_cpaper (S0 := S) (ac := ac) (al := al) hI.nb.2 n 0 (by omega) S5 (fI (fI (σ) 10 (ac)) 11 (al)) hI5 hF5
        rw [show h_X7_paper σ ac al = lp_X7_paper ac al n 0 (fI (fI (σ) 10 (ac)) 11 (al)) from by rw [h_X7_paper, ← growth_eq, ← growth_eq, if_neg c1, if_neg c2, if_neg c3, hI.n1, nI_clamp (by have := hI.nb; omega)]]
        exact q9
      · refine x_iload_n 2 dX6_paper_24 rfl ?_
        refine x_aload_n 0 dX6_paper_25 rfl ?_
        refine gf_X6_143 rfl dX6_paper_26 hI.l.1 ?_
        rw [show gI (S) 231 (x) = σ.1 11 from hI.m.1.2.2.2.1]
        refine x_icmp_ne 34 dX6_paper_29 (by decide) (fun c6 => ?_) (fun c6 => ?_)
        · refine x_aload_n 0 dX6_paper_34 rfl ?_
          refine x_iload_n 1 dX6_paper_35 rfl ?_
          refine pf_X6_140 rfl dX6_paper_36 hI.l.1 ?_
          obtain ⟨S7, eS7⟩ : ∃ s9 : HS, s9 = uI (S) 230 (x) (ac) := ⟨_, rfl⟩
          rw [← eS7]
          have hI7 : CX k S7 x n c q p ca pa na (fI (σ) 10 (ac)) := by rw [eS7]; exact hI.p230
          have hF7 : FX x S S7 := by rw [eS7]; exact FX.tr FX.rf (FX.pI (by decide))
          clear eS7
          refine x_aload_n 0 dX6_paper_39 rfl ?_
          refine x_iload_n 2 dX6_paper_40 rfl ?_
          refine pf_X6_143 rfl dX6_paper_41 hI7.l.1 ?_
          obtain ⟨S8, eS8⟩ : ∃ s9 : HS, s9 = uI (S7) 231 (x) (al) := ⟨_, rfl⟩
          rw [← eS8]
          have hI8 : CX k S8 x n c q p ca pa na (fI (fI (σ) 10 (ac)) 11 (al)) := by rw [eS8]; exact hI7.p231
          have hF8 : FX x S S8 := by rw [eS8]; exact FX.tr hF7 (FX.pI (by decide))
          clear eS8
          refine x_aload_n 0 dX6_paper_44 rfl ?_
          refine gf_X6_40 rfl dX6_paper_45 hI8.l.1 ?_
          rw [show gP (S8) 225 (x) = some (x + 6) from hI8.l.2.1.1]
          refine x_astore_n [(3, .ref (x + 6)), (0, .ref (x)), (1, .int (ac)), (2, .int (al))] dX6_paper_48 (Nat.le_of_ble_eq_true rfl) rfl ?_
          refine x_aload_n 0 dX6_paper_49 rfl ?_
          refine x_alen dX6_paper_50 (Or.inr (Or.inl hI8.l.2.2.2.2.1.1)) ?_
          rw [show gL (S8) (x + 6) = n from hI8.l.2.2.2.2.1.2]
          refine x_at 51 rfl ?_
          refine x_istore [(4, .int ((nI n))), (3, .ref (x + 6)), (0, .ref (x)), (1, .int (ac)), (2, .int (al))] dX6_paper_51 (Nat.le_of_ble_eq_true rfl) rfl ?_
          refine x_iconst 0 dX6_paper_53 (by decide) ?_
          refine x_istore [(5, .int (0)), (4, .int ((nI n))), (3, .ref (x + 6)), (0, .ref (x)), (1, .int (ac)), (2, .int (al))] dX6_paper_54 (Nat.le_of_ble_eq_true rfl) rfl ?_
          refine x_lv [(0, .ref (x)), (1, .int (ac)), (2, .int (al)), (3, .ref (x + 6)), (4, .int ((nI n))), (5, .int (nI 0))] [3, 4, 5, 2, 1, 0] rfl ?_
          have q9 := l_cpaper (S0 := S) (ac := ac) (al := al) hI.nb.2 n 0 (by omega) S8 (fI (fI (σ) 10 (ac)) 11 (al)) hI8 hF8
          rw [show h_X7_paper σ ac al = lp_X7_paper ac al n 0 (fI (fI (σ) 10 (ac)) 11 (al)) from by rw [h_X7_paper, ← growth_eq, ← growth_eq, if_neg c1, if_neg c2, if_pos c3, if_neg c6, hI.n1, nI_clamp (by have := hI.nb; omega)]]
          exact q9
        · refine x_iconst 0 dX6_paper_32 (by decide) ?_
          exact x_zreturn dX6_paper_33 rfl (by decide) (Nat.le_of_ble_eq_true rfl) (Nat.le_of_ble_eq_true rfl) ⟨by rw [h_X7_paper, ← growth_eq, ← growth_eq, if_neg c1, if_neg c2, if_pos c3, if_pos c6], by rw [h_X7_paper, ← growth_eq, ← growth_eq, if_neg c1, if_neg c2, if_pos c3, if_pos c6]; exact ⟨n, c, q, p, ca, pa, na, hI⟩, FX.rf⟩
    · refine x_iconst 0 dX6_paper_14 (by decide) ?_
      exact x_zreturn dX6_paper_15 rfl (by decide) (Nat.le_of_ble_eq_true rfl) (Nat.le_of_ble_eq_true rfl) ⟨by rw [h_X7_paper, ← growth_eq, ← growth_eq, if_neg c1, if_pos c2], by rw [h_X7_paper, ← growth_eq, ← growth_eq, if_neg c1, if_pos c2]; exact ⟨n, c, q, p, ca, pa, na, hI⟩, FX.rf⟩
set_option maxRecDepth 100000 in
theorem l_cedit {k : KT} {S0 : HS} {x n c q p : Nat} {ca pa na : Nat → Nat} (hnb : n ≤ 24) : ∀ (m j : Nat) (a : Int32), j + m = n → ∀ (S : HS) (τ : MS) (hI : CX k S x n c q p ca pa na τ) (hF : FX x S0 S), X k (mt_X6_edition (rm 1 0 0)) (Zm k (mt_X6_edition (rm 1 0 0)) (fun v T => v = some (.int (lp_X7_edition m j τ a).1) ∧ CI k T x (lp_X7_edition m j τ a).2 ∧ FX x S0 T)) 23 [(0, .ref (x)), (1, .int (a)), (2, .ref (x + 6)), (3, .int (nI n)), (4, .int (nI j))] [] S 0 0 := by
  intro m
  induction m with
  | zero =>
    intro j a hj S τ hI hF
    refine x_iload 4 dX6_edition_23 rfl ?_
    refine x_iload_n 3 dX6_edition_25 rfl ?_
    refine x_icmp_ge 67 dX6_edition_26 (by decide) (fun c1 => ?_) (fun c1 => ?_)
    · refine x_iload_n 1 dX6_edition_67 rfl ?_
      exact x_ireturn dX6_edition_68 rfl (Nat.le_of_ble_eq_true rfl) (Nat.le_of_ble_eq_true rfl) ⟨by rw [lp_X7_edition], by rw [lp_X7_edition]; exact ⟨n, c, q, p, ca, pa, na, hI⟩, hF⟩
    · exact absurd (nI_le (by omega) (by omega)) c1
  | succ m ih =>
    intro j a hj S τ hI hF
    have hg : j < n := by omega
    refine x_iload 4 dX6_edition_23 rfl ?_
    refine x_iload_n 3 dX6_edition_25 rfl ?_
    refine x_icmp_ge 67 dX6_edition_26 (by decide) (fun c1 => ?_) (fun c1 => ?_)
    · exact absurd c1 (nI_ge (by omega) (by omega))
    · refine x_aload_n 2 dX6_edition_29 rfl ?_
      refine x_iload 4 dX6_edition_30 rfl ?_
      refine x_aaload22 dX6_edition_32 hI.l.2.2.2.2.1.1 (by rw [show gL (S) (x + 6) = n from hI.l.2.2.2.2.1.2]; exact (vp_in_nI hg (by omega))) ?_
      rw [nI_clamp (by omega), (hI.l.2.2.2.2.2 j hg).1]
      refine x_astore [(5, .ref (x + 7 + 3 * j)), (0, .ref (x)), (1, .int (a)), (2, .ref (x + 6)), (3, .int (nI n)), (4, .int (nI j))] dX6_edition_33 (Nat.le_of_ble_eq_true rfl) rfl ?_
      refine x_aload 0 dX6_edition_35 rfl ?_
      refine gf_X6_146 rfl dX6_edition_37 (hI.l.2.2.2.2.2 j hg).2.1 ?_
      rw [show gI (S) 67 (x + 7 + 3 * j) = (τ).2 13 j from (hI.m.2 j hg).1]
      refine x_if_eq 61 dX6_edition_40 (by decide) (fun c2 => ?_) (fun c2 => ?_)
      · refine x_iinc 5 (nI j + 1) [(4, .int ((nI j + 1))), (5, .ref (x + 7 + 3 * j)), (0, .ref (x)), (1, .int (a)), (2, .ref (x + 6)), (3, .int (nI n))] dX6_edition_61 rfl rfl (Nat.le_of_ble_eq_true rfl) rfl ?_
        refine x_goto 23 dX6_edition_64 (by decide) ?_
        refine x_lv [(0, .ref (x)), (1, .int (a)), (2, .ref (x + 6)), (3, .int (nI n)), (4, .int (nI (j + 1)))] [2, 3, 4, 5, 0] (by rw [← nI_1 j]; rfl) ?_
        have q9 := ih (j + 1) a (by omega) S (τ) hI hF
        rw [show lp_X7_edition (m + 1) j τ a = lp_X7_edition m (j + 1) (τ) a from by rw [lp_X7_edition, nI_clamp (by omega), if_pos c2]]
        exact q9
      · refine x_aload 0 dX6_edition_43 rfl ?_
        refine x_iconst 0 dX6_edition_45 (by decide) ?_
        refine pf_X6_146 rfl dX6_edition_46 (by decide) (hI.l.2.2.2.2.2 j hg).2.1 ?_
        obtain ⟨S3, eS3⟩ : ∃ s9 : HS, s9 = uI (S) 67 (x + 7 + 3 * j) (0) := ⟨_, rfl⟩
        rw [← eS3]
        have hI3 : CX k S3 x n c q p ca pa na (fR (τ) 13 (upd ((τ).2 13) j (0))) := by rw [eS3]; exact hI.p67 hg
        have hF3 : FX x S0 S3 := by rw [eS3]; exact FX.tr hF (FX.pI (by decide))
        clear eS3
        refine x_aload 0 dX6_edition_49 rfl ?_
        refine x_aload_n 1 dX6_edition_51 rfl ?_
        refine gf_X6_214 rfl dX6_edition_52 hI3.l.1 ?_
        rw [show gI (S3) 232 (x) = (fR (τ) 13 (upd ((τ).2 13) j (0))).1 21 from hI3.m.1.2.2.2.2]
        refine pf_X6_217 rfl dX6_edition_55 (hI3.l.2.2.2.2.2 j hg).2.1 ?_
        obtain ⟨S4, eS4⟩ : ∃ s9 : HS, s9 = uI (S3) 68 (x + 7 + 3 * j) ((fR (τ) 13 (upd ((τ).2 13) j (0))).1 21) := ⟨_, rfl⟩
        rw [← eS4]
        have hI4 : CX k S4 x n c q p ca pa na (fR (fR (τ) 13 (upd ((τ).2 13) j (0))) 14 (upd ((fR (τ) 13 (upd ((τ).2 13) j (0))).2 14) j ((fR (τ) 13 (upd ((τ).2 13) j (0))).1 21))) := by rw [eS4]; exact hI3.p68 hg
        have hF4 : FX x S0 S4 := by rw [eS4]; exact FX.tr hF3 (FX.pI (by decide))
        clear eS4
        refine x_iinc 2 (a + 1) [(1, .int ((a + 1))), (5, .ref (x + 7 + 3 * j)), (0, .ref (x)), (2, .ref (x + 6)), (3, .int (nI n)), (4, .int (nI j))] dX6_edition_58 rfl rfl (Nat.le_of_ble_eq_true rfl) rfl ?_
        refine x_iinc 5 (nI j + 1) [(4, .int ((nI j + 1))), (1, .int ((a + 1))), (5, .ref (x + 7 + 3 * j)), (0, .ref (x)), (2, .ref (x + 6)), (3, .int (nI n))] dX6_edition_61 rfl rfl (Nat.le_of_ble_eq_true rfl) rfl ?_
        refine x_goto 23 dX6_edition_64 (by decide) ?_
        refine x_lv [(0, .ref (x)), (1, .int ((a + 1))), (2, .ref (x + 6)), (3, .int (nI n)), (4, .int (nI (j + 1)))] [3, 1, 4, 5, 0] (by rw [← nI_1 j]; rfl) ?_
        have q9 := ih (j + 1) (a + 1) (by omega) S4 (fR (fR (τ) 13 (upd ((τ).2 13) j (0))) 14 (upd ((fR (τ) 13 (upd ((τ).2 13) j (0))).2 14) j ((fR (τ) 13 (upd ((τ).2 13) j (0))).1 21))) hI4 hF4
        rw [show lp_X7_edition (m + 1) j τ a = lp_X7_edition m (j + 1) (fR (fR τ 13 (upd (τ.2 13) j 0)) 14 (upd (τ.2 14) j (τ.1 21))) (a + 1) from by rw [lp_X7_edition, nI_clamp (by omega), if_neg c2]]
        exact q9
set_option maxRecDepth 100000 in
theorem c_X6_edition {k : KT} {S : HS} {x n c q p : Nat} {ca pa na : Nat → Nat} {σ : MS} (hI : CX k S x n c q p ca pa na σ)  : Ct k (mt_X6_edition (rm 1 0 0)) [.ref x] S (fun v T => v = some (.int (h_X7_edition σ).1) ∧ CI k T x (h_X7_edition σ).2 ∧ FX x S T) := by
  refine Ct.ofF (by decide +kernel) (Nat.le_of_ble_eq_true rfl) ?_
  refine x_lv [(0, .ref (x))] [0] rfl ?_
  refine x_aload_n 0 dX6_edition_0 rfl ?_
  refine x_dup dX6_edition_1 rfl ?_
  refine gf_X6_214 rfl dX6_edition_2 hI.l.1 ?_
  rw [show gI (S) 232 (x) = σ.1 21 from hI.m.1.2.2.2.2]
  refine x_iconst 1 dX6_edition_5 (by decide) ?_
  refine x_iadd dX6_edition_6 ?_
  refine pf_X6_214 rfl dX6_edition_7 hI.l.1 ?_
  obtain ⟨S1, eS1⟩ : ∃ s9 : HS, s9 = uI (S) 232 (x) ((σ.1 21 + 1)) := ⟨_, rfl⟩
  rw [← eS1]
  have hI1 : CX k S1 x n c q p ca pa na (fI (σ) 21 ((σ.1 21 + 1))) := by rw [eS1]; exact hI.p232
  have hF1 : FX x S S1 := by rw [eS1]; exact FX.tr FX.rf (FX.pI (by decide))
  clear eS1
  refine x_iconst 0 dX6_edition_10 (by decide) ?_
  refine x_istore_n [(1, .int (0)), (0, .ref (x))] dX6_edition_11 (Nat.le_of_ble_eq_true rfl) rfl ?_
  refine x_aload_n 1 dX6_edition_12 rfl ?_
  refine gf_X6_40 rfl dX6_edition_13 hI1.l.1 ?_
  rw [show gP (S1) 225 (x) = some (x + 6) from hI1.l.2.1.1]
  refine x_astore_n [(2, .ref (x + 6)), (1, .int (0)), (0, .ref (x))] dX6_edition_16 (Nat.le_of_ble_eq_true rfl) rfl ?_
  refine x_at 17 rfl ?_
  refine x_aload_n 0 dX6_edition_17 rfl ?_
  refine x_alen dX6_edition_18 (Or.inr (Or.inl hI1.l.2.2.2.2.1.1)) ?_
  rw [show gL (S1) (x + 6) = n from hI1.l.2.2.2.2.1.2]
  refine x_istore_n [(3, .int ((nI n))), (2, .ref (x + 6)), (1, .int (0)), (0, .ref (x))] dX6_edition_19 (Nat.le_of_ble_eq_true rfl) rfl ?_
  refine x_iconst 0 dX6_edition_20 (by decide) ?_
  refine x_istore [(4, .int (0)), (3, .int ((nI n))), (2, .ref (x + 6)), (1, .int (0)), (0, .ref (x))] dX6_edition_21 (Nat.le_of_ble_eq_true rfl) rfl ?_
  refine x_lv [(0, .ref (x)), (1, .int (0)), (2, .ref (x + 6)), (3, .int ((nI n))), (4, .int (nI 0))] [4, 3, 2, 1, 0] rfl ?_
  have q9 := l_cedit (S0 := S) hI.nb.2 n 0 0 (by omega) S1 (fI (σ) 21 ((σ.1 21 + 1))) hI1 hF1
  rw [show h_X7_edition σ = lp_X7_edition n 0 (fI (σ) 21 ((σ.1 21 + 1))) 0 from by rw [h_X7_edition, hI.n1, nI_clamp (by have := hI.nb; omega)]]
  exact q9
