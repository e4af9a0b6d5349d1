/-! A PIECE MORE -/
theorem adds_eq {σ : MS} {q g : Nat} {cst s1 h1 s2 h2 : Int32} (hq : q < 600) (h6 : σ.1 6 = nI q) (hg : g < 2 ^ 31) : g_X7_adds σ (nI g) cst s1 h1 s2 h2 = fR (fI (fR (fR (fR (fR (fR (fR (σ) 4 (upd (σ.2 4) q (nI g))) 5 (upd (σ.2 5) q cst)) 6 (upd (σ.2 6) (4 * q) s1)) 6 (upd (upd (σ.2 6) (4 * q) s1) (4 * q + 1) h1)) 6 (upd (upd (upd (σ.2 6) (4 * q) s1) (4 * q + 1) h1) (4 * q + 2) s2)) 6 (upd (upd (upd (upd (σ.2 6) (4 * q) s1) (4 * q + 1) h1) (4 * q + 2) s2) (4 * q + 3) h2)) 6 (nI q + 1)) 13 (upd (σ.2 13) g 1) := by
  have e0 : ((4 : Int32) * nI q) = nI (4 * q) := pk_mul 4 q
  have e1 : (nI (4 * q) + (1 : Int32)) = nI (4 * q + 1) := nI_add _ 1
  have e2 : (nI (4 * q) + (2 : Int32)) = nI (4 * q + 2) := nI_add _ 2
  have e3 : (nI (4 * q) + (3 : Int32)) = nI (4 * q + 3) := nI_add _ 3
  unfold g_X7_adds
  rw [h6, e0, e1, e2, e3, nI_clamp (by omega), nI_clamp (by omega), nI_clamp (by omega), nI_clamp (by omega), nI_clamp (by omega), nI_clamp (by omega)]
theorem pl_ad {σ τ : MS} {q g g2 : Nat} (h1 : g < 2 ^ 31) (h2 : g2 < 2 ^ 31) (h4 : τ.2 4 = upd (σ.2 4) q (nI g)) : pl τ (q + 1) g2 = pl σ q g2 ++ if g2 = g then [q] else [] := by
  unfold pl
  rw [List.range_succ, List.filter_append, h4]
  congr 1
  · refine List.filter_congr (fun j hj => ?_)
    have := List.mem_range.mp hj
    rw [pk_un (by omega)]
  · by_cases e : g2 = g
    · subst e; simp [pk_us]
    · have e2 : ¬ nI g = nI g2 := fun z => e ((nI_eq h1 h2).mp z).symm
      simp [pk_us, e, e2]
/-- steps stay as they are -/
def SF (S T : HS) : Prop := ∀ t, gK S t = 7 → gK T t = 7 ∧ ∀ f, 192 ≤ f → f ≤ 196 → gI T f t = gI S f t
theorem SF.rf {S : HS} : SF S S := fun _ h => ⟨h, fun _ _ _ => rfl⟩
theorem SF.tr {S T U : HS} (h1 : SF S T) (h2 : SF T U) : SF S U := fun t h => ⟨(h2 t (h1 t h).1).1, fun f a b => ((h2 t (h1 t h).1).2 f a b).trans ((h1 t h).2 f a b)⟩
theorem SF.lf {k : KT} {S T : HS} {b : Nat} (hW : LW k S) (hF : LF b S T) : SF S T := fun t h => ⟨by rw [(hF.2.1 t (hW.2.1 t (by omega))).1]; exact h, fun f a _ => hF.2.2.2.1 f t (Or.inl (by omega))⟩
theorem SF.ex {k : KT} {S T : HS} (hW : LW k S) (hE : EX S T) : SF S T := fun t h => ⟨by rw [(hE.2 t (hW.2.1 t (by omega))).1]; exact h, fun f _ _ => (hE.2 t (hW.2.1 t (by omega))).2.2.2.2.1 f⟩
theorem SF.pI {S : HS} {f a : Nat} {v : Int32} (hf : f < 192 ∨ 196 < f) : SF S (uI S f a v) := fun t h => ⟨h, fun g _ _ => by rw [gI_uI, if_neg (by omega)]⟩
section
variable {k : KT} {S T : HS} {x n c q p : Nat} {ca pa na : Nat → Nat} {σ : MS}
def PM0 (S : HS) (a : Nat) (cst s1 h1 s2 h2 : Int32) : Prop := gK S a = 5 ∧ (gI S 128 a = cst ∧ gI S 129 a = s1 ∧ gI S 130 a = h1 ∧ gI S 131 a = s2 ∧ gI S 132 a = h2)
theorem CX.lay {a g : Nat} {cst s1 h1 s2 h2 : Int32} (h : CX k S x n c q p ca pa na σ) (hq : q < 600) (hg : g < n) (hP : PM0 S a cst s1 h1 s2 h2) (hA : AL k T (x + 8 + 3 * g) ((pl σ q g).map pa ++ [a])) (hW : LW k T) (hF : LF (x + 8 + 3 * g) S T) : CX k (uI (uI T 67 (x + 7 + 3 * g) 1) 229 x (nI q + 1)) x n c (q + 1) p ca (va_up pa q a) na (g_X7_adds σ (nI g) cst s1 h1 s2 h2) := by
  have hn := h.nb
  rw [adds_eq hq h.q1.2 (by omega)]
  have hb : gK S (x + 8 + 3 * g) = 1 := (h.qq.2 g hg).1
  have keep : ∀ b l, b ≠ x + 8 + 3 * g → AL k S b l → AL k (uI (uI T 67 (x + 7 + 3 * g) 1) 229 x (nI q + 1)) b l := fun b l n1 ha => ((ha.keep h.lw hb hF n1).pI (by decide)).pI (by decide)
  have e : ∀ f b, f ≠ 0 ∧ f ≠ 2 → f ≠ 67 → f ≠ 229 → gI (uI (uI T 67 (x + 7 + 3 * g) 1) 229 x (nI q + 1)) f b = gI S f b := fun f b h1 h2 h3 => by
    rw [gI_uI, if_neg (fun z => h3 z.1), gI_uI, if_neg (fun z => h2 z.1)]; exact hF.2.2.2.1 f b (Or.inl h1)
  refine ⟨⟨h.1.1, h.1.2.1, ⟨by omega, nI_1 q⟩, h.1.2.2.2⟩, hW, (show CL T x n from h.l.lf h.lw hF), ⟨?_, fun g2 h2 => ?_⟩, CP.cg (σ := σ) rfl rfl ⟨keep _ _ (by omega) h.cp.1, h.cp.2.1, CPe.pI (S := uI T 67 (x + 7 + 3 * g) 1) (CPe.pI (S := T) (CPe.lf (S := S) h.cp.2.2 h.lw hF) (by decide) (by decide)) (by decide) (by decide)⟩, ⟨fun i hi => ?_, fun g2 h2 => ?_⟩, CW.cg (σ := σ) ⟨rfl, rfl, rfl, rfl, rfl, rfl, rfl, rfl⟩ ⟨keep _ _ (by omega) h.w.1, h.w.2.1, fun i hi => (((h.w.2.2.1 i hi).lf h.lw hF).pI (by decide)).pI (by decide), fun g2 h2 => ⟨keep _ _ (by omega) (h.w.2.2.2 g2 h2).1, (h.w.2.2.2 g2 h2).2⟩⟩, CB.cg (σ := σ) ⟨rfl, rfl, rfl, rfl, rfl, rfl, rfl, rfl⟩ (((h.b.lf hF).pI (by decide) (by decide)).pI (by decide) (by decide))⟩
  · refine ⟨by rw [e 224 x (by decide) (by decide) (by decide)]; exact h.m.1.1, ?_, by rw [e 230 x (by decide) (by decide) (by decide)]; exact h.m.1.2.2.1, by rw [e 231 x (by decide) (by decide) (by decide)]; exact h.m.1.2.2.2.1, by rw [e 232 x (by decide) (by decide) (by decide)]; exact h.m.1.2.2.2.2⟩
    rw [gI_uI, if_pos ⟨rfl, rfl⟩]; rfl
  · refine ⟨?_, by rw [e 68 _ (by decide) (by decide) (by decide)]; exact (h.m.2 g2 h2).2⟩
    show _ = upd (σ.2 13) g 1 g2
    rw [gI_uI, if_neg (fun z => absurd z.1 (by decide)), gI_uI]
    by_cases eg : g2 = g
    · subst eg; rw [if_pos ⟨rfl, rfl⟩, pk_us]
    · rw [if_neg (fun z => eg (by omega)), pk_un eg, hF.2.2.2.1 67 _ (Or.inl (by decide))]; exact (h.m.2 g2 h2).1
  · show gK T (va_up pa q a i) = 5 ∧ (_ = upd (σ.2 5) q cst i ∧ _ = upd (upd (upd (upd (σ.2 6) (4 * q) s1) (4 * q + 1) h1) (4 * q + 2) s2) (4 * q + 3) h2 (4 * i) ∧ _ = upd (upd (upd (upd (σ.2 6) (4 * q) s1) (4 * q + 1) h1) (4 * q + 2) s2) (4 * q + 3) h2 (4 * i + 1) ∧ _ = upd (upd (upd (upd (σ.2 6) (4 * q) s1) (4 * q + 1) h1) (4 * q + 2) s2) (4 * q + 3) h2 (4 * i + 2) ∧ _ = upd (upd (upd (upd (σ.2 6) (4 * q) s1) (4 * q + 1) h1) (4 * q + 2) s2) (4 * q + 3) h2 (4 * i + 3)) ∧ ∃ g3, g3 < n ∧ upd (σ.2 4) q (nI g) i = nI g3
    rw [e 128 _ (by decide) (by decide) (by decide), e 129 _ (by decide) (by decide) (by decide), e 130 _ (by decide) (by decide) (by decide), e 131 _ (by decide) (by decide) (by decide), e 132 _ (by decide) (by decide) (by decide)]
    by_cases ei : i = q
    · subst ei
      rw [up_eq, pk_us, pk_us, pk_us, pk_un (show 4 * i ≠ 4 * i + 3 by omega), pk_un (show 4 * i ≠ 4 * i + 2 by omega), pk_un (show 4 * i ≠ 4 * i + 1 by omega), pk_us, pk_un (show 4 * i + 1 ≠ 4 * i + 3 by omega), pk_un (show 4 * i + 1 ≠ 4 * i + 2 by omega), pk_us, pk_un (show 4 * i + 2 ≠ 4 * i + 3 by omega), pk_us]
      exact ⟨by rw [(hF.2.1 a (h.lw.2.1 a (by have := hP.1; omega))).1]; exact hP.1, hP.2, g, hg, rfl⟩
    · have hi2 : i < q := by omega
      have hPi := (h.qq.1 i hi2).lf h.lw hF
      rw [up_ne ei, pk_un ei, pk_un ei]
      have u : ∀ d, d < 4 → upd (upd (upd (upd (σ.2 6) (4 * q) s1) (4 * q + 1) h1) (4 * q + 2) s2) (4 * q + 3) h2 (4 * i + d) = σ.2 6 (4 * i + d) := fun d hd => by
        rw [pk_un (by omega), pk_un (by omega), pk_un (by omega), pk_un (by omega)]
      rw [u 1 (by decide), u 2 (by decide), u 3 (by decide), show upd (upd (upd (upd (σ.2 6) (4 * q) s1) (4 * q + 1) h1) (4 * q + 2) s2) (4 * q + 3) h2 (4 * i) = σ.2 6 (4 * i) from u 0 (by decide)]
      exact ⟨hPi.1, (h.qq.1 i hi2).2⟩
  · rw [pl_ad (σ := σ) (q := q) (g := g) (by omega) (by omega) rfl]
    by_cases eg : g2 = g
    · subst eg
      rw [if_pos rfl, List.map_append, show List.map (va_up pa q a) (pl σ q g2) = List.map pa (pl σ q g2) from List.map_congr_left (fun i hi => up_ne (by have := (pl_mem.mp hi).1; omega))]
      show AL k _ _ (_ ++ [va_up pa q a q])
      rw [up_eq]; exact (hA.pI (by decide)).pI (by decide)
    · rw [if_neg eg, List.append_nil, show List.map (va_up pa q a) (pl σ q g2) = List.map pa (pl σ q g2) from List.map_congr_left (fun i hi => up_ne (by have := (pl_mem.mp hi).1; omega))]
      exact keep _ _ (by omega) (h.qq.2 g2 h2)
end
set_option maxRecDepth 100000 in
theorem c_lay {k : KT} {S : HS} {x n c q p : Nat} {ca pa na : Nat → Nat} {σ : MS} (hI : CX k S x n c q p ca pa na σ) {a g : Nat} {cst s1 h1 s2 h2 : Int32} (hq : q < 600) (hg : g < n) (hP : PM0 S a cst s1 h1 s2 h2) : Ct k (mt_X6_lay (rm 7 1 900)) [.ref x, .int (nI g), .ref a] S (fun v T => v = none ∧ (∃ pa2, CX k T x n c (q + 1) p ca pa2 na (g_X7_adds σ (nI g) cst s1 h1 s2 h2)) ∧ FX x S T ∧ SF S T) := by
  have hnb := hI.nb
  have hok : ∀ y ∈ (pl σ q g).map pa, okE S y := fun y hy => by
    obtain ⟨i, hi, rfl⟩ := List.mem_map.mp hy
    exact Or.inr (Or.inr (hI.qq.1 i (pl_mem.mp hi).1).1)
  refine Ct.ofF (by decide +kernel) (Nat.le_of_ble_eq_true rfl) ?_
  refine x_lv [(0, .ref (x)), (1, .int (nI g)), (2, .ref (a))] [0, 1, 2] rfl ?_
  refine x_aload_n 0 dX6_lay_0 rfl ?_
  refine x_iload_n 1 dX6_lay_1 rfl ?_
  refine ca_X6_109 [.int (nI g)] [] (c_goreOf hI hg) hI.l.1 rfl dX6_lay_2 rfl rfl ⟨(Nat.le_of_ble_eq_true rfl), (Nat.le_of_ble_eq_true rfl), (Nat.le_of_ble_eq_true rfl), (Nat.le_of_ble_eq_true rfl), (Nat.le_of_ble_eq_true rfl)⟩ (fun v T hq => ?_)
  obtain ⟨rfl, rfl⟩ := hq
  refine x_astore_n [(3, .ref (x + 7 + 3 * g)), (0, .ref (x)), (1, .int (nI g)), (2, .ref (a))] dX6_lay_5 (Nat.le_of_ble_eq_true rfl) rfl ?_
  refine x_aload_n 0 dX6_lay_6 rfl ?_
  refine x_ifnonnull 11 dX6_lay_7 (by decide) ?_
  refine x_aload_n 0 dX6_lay_11 rfl ?_
  refine gf_X6_113 rfl dX6_lay_12 (hI.l.2.2.2.2.2 g hg).2.1 ?_
  rw [show gP (S) 64 (x + 7 + 3 * g) = some (x + 8 + 3 * g) from (hI.l.2.2.2.2.2 g hg).2.2.1]
  refine x_aload_n 3 dX6_lay_15 rfl ?_
  refine ca_X6_69 [.ref a] [] (c_al_add (hI.qq.2 g hg) hI.lw hok (Or.inr (Or.inr hP.1)) (by rw [List.length_map]; have := List.length_filter_le (fun i => decide (σ.2 4 i = nI g)) (List.range q); rw [List.length_range] at this; exact Nat.le_trans this (by omega))) (hI.qq.2 g hg).1 rfl dX6_lay_16 rfl rfl ⟨(Nat.le_of_ble_eq_true rfl), (Nat.le_of_ble_eq_true rfl), (Nat.le_of_ble_eq_true rfl), (Nat.le_of_ble_eq_true rfl), (Nat.le_of_ble_eq_true rfl)⟩ (fun v T hq2 => ?_)
  obtain ⟨rfl, q1, q2, q3⟩ := hq2
  have hnew := hI.lay hq hg hP q1 q2 q3
  have hKT : ∀ b, gK S b ≠ 0 → gK T b = gK S b := fun b hb => (q3.2.1 b (hI.lw.2.1 b hb)).1
  have hgk : gK T (x + 7 + 3 * g) = 3 := by rw [hKT _ (by rw [(hI.l.2.2.2.2.2 g hg).2.1]; decide)]; exact (hI.l.2.2.2.2.2 g hg).2.1
  have hxk : gK T x = 8 := by rw [hKT _ (by rw [hI.l.1]; decide)]; exact hI.l.1
  have h229 : gI T 229 x = nI q := by rw [q3.2.2.2.1 229 _ (Or.inl (by decide)), hI.m.1.2.1]; exact hI.q1.2
  refine x_pop dX6_lay_19 rfl ?_
  refine x_aload_n 0 dX6_lay_20 rfl ?_
  refine x_iconst 1 dX6_lay_21 (by decide) ?_
  refine pf_X6_146 rfl dX6_lay_22 (by decide) hgk ?_
  refine x_aload_n 1 dX6_lay_25 rfl ?_
  refine x_dup dX6_lay_26 rfl ?_
  refine gf_X6_92 rfl dX6_lay_27 hxk ?_
  rw [show gI (uI (T) 67 (x + 7 + 3 * g) (1)) 229 (x) = nI q from h229]
  refine x_at 30 rfl ?_
  refine x_iconst 1 dX6_lay_30 (by decide) ?_
  refine x_iadd dX6_lay_31 ?_
  refine pf_X6_92 rfl dX6_lay_32 hxk ?_
  refine x_return dX6_lay_35 rfl (Nat.le_of_ble_eq_true rfl) (Nat.le_of_ble_eq_true rfl) ⟨rfl, ⟨_, hnew⟩, ?_, ?_⟩
  · exact FX.tr (FX.lf q3) (FX.tr (FX.pI (by decide)) (FX.pI (by decide)))
  · exact SF.tr (SF.lf hI.lw q3) (SF.tr (SF.pI (by decide)) (SF.pI (by decide)))
/-- a step's numbers -/
def STp (S : HS) (t : Nat) (l0 ht ri ln dr : Int32) : Prop := gK S t = 7 ∧ gI S 192 t = l0 ∧ gI S 193 t = ht ∧ gI S 194 t = ri ∧ gI S 195 t = ln ∧ gI S 196 t = dr
theorem STp.sf {S T : HS} {t : Nat} {l0 ht ri ln dr : Int32} (h : STp S t l0 ht ri ln dr) (hF : SF S T) : STp T t l0 ht ri ln dr := by
  have := hF t h.1
  exact ⟨this.1, by rw [this.2 192 (by decide) (by decide)]; exact h.2.1, by rw [this.2 193 (by decide) (by decide)]; exact h.2.2.1, by rw [this.2 194 (by decide) (by decide)]; exact h.2.2.2.1, by rw [this.2 195 (by decide) (by decide)]; exact h.2.2.2.2.1, by rw [this.2 196 (by decide) (by decide)]; exact h.2.2.2.2.2⟩
set_option maxRecDepth 100000 in
theorem c_layUpright {k : KT} {S : HS} {x n c q p : Nat} {ca pa na : Nat → Nat} {σ : MS} (hI : CX k S x n c q p ca pa na σ) {t g : Nat} {cst l0 ht ri ln dr : Int32} (hq : q < 600) (hg : g < n) (hSt : STp S t l0 ht ri ln dr) : Ct k (mt_X6_layUpright (rm 8 2 905)) [.ref x, .int cst, .ref t, .int (nI g)] S (fun v T => v = none ∧ (∃ pa2, CX k T x n c (q + 1) p ca pa2 na (g_X7_adds σ (nI g) cst (f_X6_sideOf (σ.1 2) l0 (nI g)) ht (f_X6_sideOf (σ.1 2) l0 (nI g)) (ht + ri))) ∧ FX x S T ∧ SF S T) := by
  have hnb := hI.nb
  refine Ct.ofF (by decide +kernel) (Nat.le_of_ble_eq_true rfl) ?_
  refine x_lv [(0, .ref (x)), (1, .int (cst)), (2, .ref (t)), (3, .int (nI g))] [0, 1, 2, 3] rfl ?_
  refine x_aload_n 0 dX6_layUpright_0 rfl ?_
  refine x_aload_n 2 dX6_layUpright_1 rfl ?_
  refine gf_X6_253 rfl dX6_layUpright_2 hSt.1 ?_
  rw [show gI (S) 192 (t) = l0 from hSt.2.1]
  refine x_iload_n 3 dX6_layUpright_5 rfl ?_
  refine ca_X6_160 [.int (l0), .int (nI g)] [] (c_X6_sideOf (σ.1 2) (l0) (nI g) hI.l.1 hI.m.1.1) hI.l.1 rfl dX6_layUpright_6 rfl rfl ⟨(Nat.le_of_ble_eq_true rfl), (Nat.le_of_ble_eq_true rfl), (Nat.le_of_ble_eq_true rfl), (Nat.le_of_ble_eq_true rfl), (Nat.le_of_ble_eq_true rfl)⟩ (fun v T hq => ?_)
  obtain ⟨rfl, rfl⟩ := hq
  refine x_istore [(4, .int ((f_X6_sideOf (σ.1 2) l0 (nI g)))), (0, .ref (x)), (1, .int (cst)), (2, .ref (t)), (3, .int (nI g))] dX6_layUpright_9 (Nat.le_of_ble_eq_true rfl) rfl ?_
  refine x_aload_n 1 dX6_layUpright_11 rfl ?_
  refine x_iload_n 4 dX6_layUpright_12 rfl ?_
  refine nw_X6_120 rfl dX6_layUpright_13 (Nat.le_of_ble_eq_true rfl) (Nat.le_of_ble_eq_true rfl) ?_
  have hE0 : EX S (nO S 4) := EX.rf.nO 4
  have hSt0 : STp (nO S 4) t l0 ht ri ln dr := hSt.sf (SF.ex hI.lw hE0)
  have hI0 := hI.ex hE0 (hI.lw.nO 4)
  refine x_dup dX6_layUpright_16 rfl ?_
  refine x_iload_n 2 dX6_layUpright_17 rfl ?_
  refine x_at 18 rfl ?_
  refine x_iload 0 dX6_layUpright_18 rfl ?_
  refine x_aload_n 3 dX6_layUpright_20 rfl ?_
  refine gf_X6_260 rfl dX6_layUpright_21 hSt0.1 ?_
  rw [show gI (nO S 4) 193 (t) = ht from hSt0.2.2.1]
  refine x_iload 0 dX6_layUpright_24 rfl ?_
  refine x_aload_n 3 dX6_layUpright_26 rfl ?_
  refine gf_X6_260 rfl dX6_layUpright_27 hSt0.1 ?_
  rw [show gI (nO S 4) 193 (t) = ht from hSt0.2.2.1]
  refine x_aload_n 3 dX6_layUpright_30 rfl ?_
  refine gf_X6_261 rfl dX6_layUpright_31 hSt0.1 ?_
  rw [show gI (nO S 4) 194 (t) = ri from hSt0.2.2.2.1]
  refine x_iadd dX6_layUpright_34 ?_
  refine ca_X6_264 [.int (cst), .int ((f_X6_sideOf (σ.1 2) l0 (nI g))), .int (ht), .int ((f_X6_sideOf (σ.1 2) l0 (nI g))), .int ((ht + ri))] [.ref (gN S), .int (nI g), .ref (x)] (c_X3_init (cst) ((f_X6_sideOf (σ.1 2) l0 (nI g))) (ht) ((f_X6_sideOf (σ.1 2) l0 (nI g))) ((ht + ri)) (by rw [gK_nO, if_pos rfl])) rfl dX6_layUpright_35 rfl rfl ⟨(Nat.le_of_ble_eq_true rfl), (Nat.le_of_ble_eq_true rfl), (Nat.le_of_ble_eq_true rfl), (Nat.le_of_ble_eq_true rfl), (Nat.le_of_ble_eq_true rfl)⟩ (fun v T hq2 => ?_)
  obtain ⟨rfl, rfl⟩ := hq2
  obtain ⟨S1, eS1⟩ : ∃ s9 : HS, s9 = uI (uI (uI (uI (uI (nO S 4) 128 (gN S) (cst)) 129 (gN S) ((f_X6_sideOf (σ.1 2) l0 (nI g)))) 130 (gN S) (ht)) 131 (gN S) ((f_X6_sideOf (σ.1 2) l0 (nI g)))) 132 (gN S) ((ht + ri)) := ⟨_, rfl⟩
  rw [← eS1]
  have hE1 : EX S S1 := by rw [eS1]; exact (((((EX.rf.nO 4).uI (Nat.le_refl _)).uI (Nat.le_refl _)).uI (Nat.le_refl _)).uI (Nat.le_refl _)).uI (Nat.le_refl _)
  have hW1 : LW k S1 := by rw [eS1]; exact hI.lw.nO 4
  have hI1 := hI.ex hE1 hW1
  have hP1 : PM0 S1 (gN S) (cst) ((f_X6_sideOf (σ.1 2) l0 (nI g))) (ht) ((f_X6_sideOf (σ.1 2) l0 (nI g))) ((ht + ri)) := by rw [eS1]; refine ⟨if_pos rfl, ?_⟩; simp [gI_uI]
  have hSF1 : SF S S1 := SF.ex hI.lw hE1
  clear eS1
  refine ca_X6_267 [.int (nI g), .ref (gN S)] [] (c_lay hI1 hq hg hP1) hI1.l.1 rfl dX6_layUpright_38 rfl rfl ⟨(Nat.le_of_ble_eq_true rfl), (Nat.le_of_ble_eq_true rfl), (Nat.le_of_ble_eq_true rfl), (Nat.le_of_ble_eq_true rfl), (Nat.le_of_ble_eq_true rfl)⟩ (fun v T hq2 => ?_)
  obtain ⟨rfl, u1, u2, u3⟩ := hq2
  exact x_return dX6_layUpright_41 rfl (Nat.le_of_ble_eq_true rfl) (Nat.le_of_ble_eq_true rfl) ⟨rfl, u1, FX.tr hE1.fx u2, SF.tr hSF1 u3⟩
