/-! UPRIGHT -/
theorem st2 {n W F : Int} (h : NWp n W) (h0 : 0 ≤ F) (h1 : F ≤ 359) (hm : F % W = 0) : (F / W - 1) % n = (F / W + n - 1) % n ∧ (0 ≤ (F / W + n - 1) % n ∧ (F / W + n - 1) % n < n) ∧ (F - (F / W + n - 1) % n * W) % 360 = W := by
  rcases h with ⟨rfl, rfl⟩ | ⟨rfl, rfl⟩ | ⟨rfl, rfl⟩ | ⟨rfl, rfl⟩ | ⟨rfl, rfl⟩ | ⟨rfl, rfl⟩ | ⟨rfl, rfl⟩ | ⟨rfl, rfl⟩ | ⟨rfl, rfl⟩ <;> refine ⟨?_, ⟨?_, ?_⟩, ?_⟩ <;> omega
theorem gone_edge {W : Nat} {fr : Int32} (h1 : 0 ≤ fr.toInt) (h2 : fr.toInt ≤ 359) (hW0 : 0 < W) (hW1 : W ≤ 60) : f_X6_goneFromEdge (nI W) fr 1 = 0 ↔ ¬ f_X7_isEdge (nI W) fr = 0 := by
  obtain ⟨b, hb, e, hm⟩ := gone_b (dr := 1) (Or.inl rfl) h1 h2 hW0 hW1
  rw [show (1 : Int32).toInt = 1 from rfl, Int.one_mul] at hm
  rw [isE_i h1 hW0 hW1, e, ← hm]
  constructor
  · intro z
    have := (nI_eq (a := b) (b := 0) (by omega) (by decide)).mp z
    omega
  · intro z
    rw [show b = 0 by omega]; rfl
theorem up2 {n W g : Nat} {fr : Int32} (hNW : NWp n W) (hW : 15 ≤ W ∧ W ≤ 60) (hn : 6 ≤ n ∧ n ≤ 24) (h1 : 0 ≤ fr.toInt) (h2 : fr.toInt ≤ 359) (hm : fr.toInt % W = 0) (hg : fr / nI W = nI g) (hgn : g < n) : ∃ g2, g2 < n ∧ f_X6_rest (nI g - 1) (nI n) = nI g2 ∧ nI g + nI n - 1 - (nI g + nI n - 1) / nI n * nI n = nI g2 ∧ f_X6_sideOf (nI W) fr (nI g2) = nI W := by
  have hwI : (nI W).toInt = W := nI_toInt (by omega)
  have hnI : (nI n).toInt = n := nI_toInt (by omega)
  have hgI : (nI g).toInt = g := nI_toInt (by omega)
  have hgd : (g : Int) = fr.toInt / W := by rw [← hgI, ← hg, t_divp h1 (by rw [hwI]; omega), hwI]
  have hs := st2 hNW h1 h2 hm
  rw [← hgd] at hs
  obtain ⟨s1, s2, s3⟩ := hs
  have e1 : (nI g - 1).toInt = g - 1 := by rw [t_sub (by rw [hgI]; show _ ≤ _ - 1; omega) (by rw [hgI]; show _ - 1 < _; omega), hgI]; rfl
  have hz : ((((g + n - 1) % n : Nat)) : Int) = ((g : Int) + n - 1) % n := by
    rw [Int.natCast_emod]
    congr 1; omega
  have hlt : (g + n - 1) % n < n := Nat.mod_lt _ (by omega)
  refine ⟨(g + n - 1) % n, hlt, t_ext ?_, ?_, ?_⟩
  · rw [t_rs (by rw [hnI]; omega), e1, hnI, nI_toInt (by omega), hz]; exact s1
  · rw [nI_add, show nI (g + n) - 1 = nI (g + n - 1) from pk_sub (b := 1) (by omega), pk_rem (by omega) (by omega) (by omega)]
  · rw [← hz] at s2 s3
    generalize (g + n - 1) % n = r at *
    have hrI : (nI r).toInt = r := nI_toInt (by omega)
    have hrw : r * W ≤ 24 * 60 := Nat.mul_le_mul (by omega) hW.2
    have hrc : (((r * W : Nat)) : Int) = (r : Int) * W := Int.natCast_mul r W
    have e2 : (fr - nI r * nI W).toInt = fr.toInt - (r : Int) * W := by
      rw [pk_mul, t_sub (by rw [nI_toInt (by omega)]; omega) (by rw [nI_toInt (by omega)]; omega), nI_toInt (by omega), hrc]
    unfold f_X6_sideOf
    rw [show f_X6_rest (fr - nI r * nI W) 360 = nI W from t_ext (by rw [t_rs (by decide), e2, hwI]; exact s3), show (2 : Int32) * nI W = nI (2 * W) from pk_mul 2 W, pk_sub (by omega), show 2 * W - W = W by omega]
set_option maxRecDepth 100000 in
theorem c_cutU {k : KT} {S : HS} {x n c q p : Nat} {ca pa na : Nat → Nat} {σ : MS} (hI : CX k S x n c q p ca pa na σ) {t W : Nat} {cst l0 ht hi ri ln : Int32} (hO : okS σ) (hNW : NWp n W) (hW : 15 ≤ W ∧ W ≤ 60) (hw : σ.1 2 = nI W) (h1 : 0 ≤ l0.toInt) (h2 : l0.toInt ≤ 359) (hq : q + (if f_X7_isEdge (σ.1 2) l0 = 0 then 1 else 2) ≤ 600) (hSt : STp S t l0 ht ri ln 1) (hhi : ht + ri = hi) : Ct k (mt_X6_cutUpright (rm 9 4 1810)) [.ref x, .int cst, .ref t] S (fun v T => v = none ∧ (∃ q2 pa2, CX k T x n c q2 p ca pa2 na (h_X7_stays σ cst l0 ht hi)) ∧ FX x S T ∧ SF S T) := by
  have hq0 : q < 600 := by
    by_cases z : f_X7_isEdge (σ.1 2) l0 = 0
    · rw [if_pos z] at hq; omega
    · rw [if_neg z] at hq; omega
  have hw0 : ¬ nI W = 0 := nI_ne0 (by omega) (by omega)
  obtain ⟨g, hg, eg, es, -⟩ := gore_of hO hI.n1 hI.nn ⟨h1, h2⟩
  refine Ct.ofF (by decide +kernel) (Nat.le_of_ble_eq_true rfl) ?_
  refine x_lv [(0, .ref (x)), (1, .int (cst)), (2, .ref (t))] [0, 1, 2] rfl ?_
  refine x_aload_n 2 dX6_cutUpright_0 rfl ?_
  refine gf_X6_253 rfl dX6_cutUpright_1 hSt.1 ?_
  rw [show gI (S) 192 (t) = l0 from hSt.2.1]
  refine x_aload_n 0 dX6_cutUpright_4 rfl ?_
  refine gf_X6_34 rfl dX6_cutUpright_5 hI.l.1 ?_
  rw [show gI (S) 224 (x) = σ.1 2 from hI.m.1.1]
  refine ca_X6_30 [.int (l0), .int (σ.1 2)] [] (c_X6_wholes (l0) (σ.1 2)) rfl dX6_cutUpright_8 rfl rfl ⟨(Nat.le_of_ble_eq_true rfl), (Nat.le_of_ble_eq_true rfl), (Nat.le_of_ble_eq_true rfl), (Nat.le_of_ble_eq_true rfl), (Nat.le_of_ble_eq_true rfl)⟩ (fun v T hq => ?_)
  obtain ⟨rfl, rfl⟩ := hq
  rw [show f_X6_wholes l0 (σ.1 2) = nI g from (wh_div h1 (wid_pos hO hI.n1 hI.nn)).trans eg]
  refine x_istore_n [(3, .int (nI g)), (0, .ref (x)), (1, .int (cst)), (2, .ref (t))] dX6_cutUpright_11 (Nat.le_of_ble_eq_true rfl) rfl ?_
  refine x_aload_n 1 dX6_cutUpright_12 rfl ?_
  refine x_iload_n 2 dX6_cutUpright_13 rfl ?_
  refine x_aload_n 3 dX6_cutUpright_14 rfl ?_
  refine x_iload_n 0 dX6_cutUpright_15 rfl ?_
  refine ca_X6_257 [.int cst, .ref t, .int (nI g)] [] (c_layUpright hI (by omega) hg hSt) hI.l.1 rfl dX6_cutUpright_16 rfl rfl ⟨(Nat.le_of_ble_eq_true rfl), (Nat.le_of_ble_eq_true rfl), (Nat.le_of_ble_eq_true rfl), (Nat.le_of_ble_eq_true rfl), (Nat.le_of_ble_eq_true rfl)⟩ (fun v T hq2 => ?_)
  obtain ⟨rfl, ⟨pa1, hI1⟩, u2, u3⟩ := hq2
  have hSt1 := hSt.sf u3
  rw [hhi, es] at hI1
  have hw1 : gI T 224 x = nI W := hI1.m.1.1.trans hw
  refine x_at 19 rfl ?_
  refine x_aload_n 1 dX6_cutUpright_19 rfl ?_
  refine x_aload_n 3 dX6_cutUpright_20 rfl ?_
  refine ca_X6_254 [.ref (t)] [] (c_X6_goneFromEdge (nI W) (l0) (1)  hI1.l.1 hw1 hSt1.1 hSt1.2.1 hSt1.2.2.2.2.2) hI1.l.1 rfl dX6_cutUpright_21 rfl rfl ⟨(Nat.le_of_ble_eq_true rfl), (Nat.le_of_ble_eq_true rfl), (Nat.le_of_ble_eq_true rfl), (Nat.le_of_ble_eq_true rfl), (Nat.le_of_ble_eq_true rfl)⟩ (fun v T hq => ?_)
  obtain ⟨rfl, rfl⟩ := hq
  refine x_if_ne 44 dX6_cutUpright_24 (by decide) (fun c1 => ?_) (fun c1 => ?_)
  · have he : f_X7_isEdge (σ.1 2) l0 = 0 := by rw [hw]; exact Decidable.byContradiction (fun z => c1 ((gone_edge h1 h2 (by omega) hW.2).mpr z))
    refine x_return dX6_cutUpright_44 rfl (Nat.le_of_ble_eq_true rfl) (Nat.le_of_ble_eq_true rfl) ⟨rfl, ⟨q + 1, pa1, ?_⟩, u2, u3⟩
    rw [h_X7_stays, if_pos he, eg]
    exact hI1
  · refine x_aload_n 1 dX6_cutUpright_27 rfl ?_
    refine x_iload_n 2 dX6_cutUpright_28 rfl ?_
    refine x_aload_n 3 dX6_cutUpright_29 rfl ?_
    refine x_iload_n 0 dX6_cutUpright_30 rfl ?_
    refine x_iconst 1 dX6_cutUpright_31 (by decide) ?_
    refine x_isub dX6_cutUpright_32 ?_
    refine x_aload_n 1 dX6_cutUpright_33 rfl ?_
    refine gf_X6_40 rfl dX6_cutUpright_34 hI1.l.1 ?_
    rw [show gP (T) 225 (x) = some (x + 6) from hI1.l.2.1.1]
    refine x_alen dX6_cutUpright_37 (Or.inr (Or.inl hI1.l.2.2.2.2.1.1)) ?_
    rw [show gL (T) (x + 6) = n from hI1.l.2.2.2.2.1.2]
    refine ca_X6_247 [.int ((nI g - 1)), .int ((nI n))] [.ref (t), .int (cst), .ref (x)] (c_X6_rest ((nI g - 1)) ((nI n))) rfl dX6_cutUpright_38 rfl rfl ⟨(Nat.le_of_ble_eq_true rfl), (Nat.le_of_ble_eq_true rfl), (Nat.le_of_ble_eq_true rfl), (Nat.le_of_ble_eq_true rfl), (Nat.le_of_ble_eq_true rfl)⟩ (fun v T hq => ?_)
    obtain ⟨rfl, rfl⟩ := hq
    refine x_at 41 rfl ?_
    have hne := (gone_edge h1 h2 (by omega) hW.2).mp c1
    obtain ⟨g2, hg2, f1, f2, f3⟩ := up2 hNW hW hI.nb h1 h2 (Decidable.byContradiction (fun z => hne ((isE_i h1 (by omega) hW.2).mpr z))) (by rw [← hw]; exact eg) hg
    rw [f1]
    rw [← hw] at hne
    rw [if_neg hne] at hq
    refine ca_X6_257 [.int cst, .ref t, .int (nI g2)] [] (c_layUpright hI1 (by omega) hg2 hSt1) hI1.l.1 rfl dX6_cutUpright_41 rfl rfl ⟨(Nat.le_of_ble_eq_true rfl), (Nat.le_of_ble_eq_true rfl), (Nat.le_of_ble_eq_true rfl), (Nat.le_of_ble_eq_true rfl), (Nat.le_of_ble_eq_true rfl)⟩ (fun v U hq2 => ?_)
    obtain ⟨rfl, ⟨pa2, hI2⟩, v2, v3⟩ := hq2
    rw [hhi, show f_X6_sideOf ((g_X7_adds σ (nI g) cst (2 * (l0 - nI g * σ.1 2) - σ.1 2) ht (2 * (l0 - nI g * σ.1 2) - σ.1 2) hi).1 2) l0 (nI g2) = σ.1 2 from by rw [show (g_X7_adds σ (nI g) cst (2 * (l0 - nI g * σ.1 2) - σ.1 2) ht (2 * (l0 - nI g * σ.1 2) - σ.1 2) hi).1 2 = σ.1 2 from rfl, hw]; exact f3] at hI2
    refine x_return dX6_cutUpright_44 rfl (Nat.le_of_ble_eq_true rfl) (Nat.le_of_ble_eq_true rfl) ⟨rfl, ⟨q + 1 + 1, pa2, ?_⟩, FX.tr u2 v2, SF.tr u3 v3⟩
    rw [h_X7_stays, if_neg hne, eg, hI.n1, f2]
    exact hI2
theorem goP_w {σ : MS} {cst fr lo hi dr bg e : Int32} {P : Nat} : (goP σ cst fr lo hi dr P bg e).1 2 = σ.1 2 := rfl
set_option maxRecDepth 100000 in
theorem l_cutS {k : KT} {S0 : HS} {x n c p t W b L cm : Nat} {ca na : Nat → Nat} {cst fr lo hi ri by_ dr ft : Int32} {σF : MS} (hW : 15 ≤ W ∧ W ≤ 60) (hb : b < W) (hL : 0 < L) (hL2 : L < 180) (hcm : cm = cmN W b L) (hri : ri = hi - lo) (hed : ∀ e, e < 181 → (f_X7_isEdge (nI W) (atE fr dr (nI e)) = 0 ↔ ¬ (b + e) % W = 0)) (hSL : ∀ j, j < cm → SLk n W b L fr dr ft j) : ∀ (m j : Nat), j + m = cm → ∀ (S : HS) (σ : MS) (q : Nat) (pa : Nat → Nat), CX k S x n c q p ca pa na σ → STp S t fr lo ri (nI L) dr → σ.1 2 = nI W → q + m ≤ 600 → lp_X7_goes cst fr lo hi by_ dr L (L - Bk W b L j) (Bk W b L j + 1) σ (nI (Bk W b L j)) = σF → FX x S0 S → SF S0 S → X k (mt_X6_cutSlanting (rm 8 26 11765)) (Zm k (mt_X6_cutSlanting (rm 8 26 11765)) (fun v T => v = none ∧ (∃ q2 pa2, CX k T x n c q2 p ca pa2 na σF) ∧ FX x S0 T ∧ SF S0 T)) 41 [(0, .ref (x)), (1, .int (cst)), (2, .ref (t)), (3, .int (nI cm)), (4, .int (nI b)), (5, .int (ft)), (6, .int (nI j))] [] S (2 * j) (905 * j) := by
  have hc13 : cm ≤ 13 := by rw [hcm]; exact cm_le hW.1 hb hL2
  intro m
  induction m with
  | zero =>
    intro j hj S σ q pa hI hSt hw hq hgo hF hSF
    refine x_iload 6 dX6_cutSlanting_41 rfl ?_
    refine x_iload_n 3 dX6_cutSlanting_43 rfl ?_
    refine x_icmp_ge 160 dX6_cutSlanting_44 (by decide) (fun c1 => ?_) (fun c1 => ?_)
    · refine x_return dX6_cutSlanting_160 rfl (by show 2 * j ≤ 26; omega) (by show 905 * j ≤ 11765; omega) ⟨rfl, ⟨q, pa, ?_⟩, hF, hSF⟩
      rw [← hgo, show j = cm by omega, hcm, Bk_cm (by omega) hL, Nat.sub_self, lp_X7_goes]
      exact hI
    · exact absurd (nI_le (by omega) (by omega)) c1
  | succ m ih =>
    intro j hj S σ q pa hI hSt hw hq hgo hF hSF
    have hnb := hI.nb
    have hj2 : j < cmN W b L := by omega
    have hBs := Bk_step (by omega) hb hL hj2
    obtain ⟨sl1, ⟨g, hg, eg⟩, sl3, sl4⟩ := hSL j (by omega)
    rw [eg] at sl1 sl3 sl4
    rw [goes_B (by omega) hb hL hL2 (by rw [hw]; exact hed) hj2] at hgo
    have hσ : g_X7_adds σ (nI g) cst (f_X6_sideOf (nI W) (f_X5_longitudeAt fr dr (nI (Bk W b L j))) (nI g)) (f_X5_heightAt lo ri (nI L) (nI (Bk W b L j))) (f_X6_sideOf (nI W) (f_X5_longitudeAt fr dr (nI (Bk W b L (j + 1)))) (nI g)) (f_X5_heightAt lo ri (nI L) (nI (Bk W b L (j + 1)))) = goP σ cst fr lo hi dr L (nI (Bk W b L j)) (nI (Bk W b L (j + 1))) := by
      unfold goP
      rw [hw, eg, sl3, sl4, hgt_eq hri hL hL2 (by omega), hgt_eq hri hL hL2 (by omega)]
    refine x_iload 6 dX6_cutSlanting_41 rfl ?_
    refine x_iload_n 3 dX6_cutSlanting_43 rfl ?_
    refine x_icmp_ge 160 dX6_cutSlanting_44 (by decide) (fun c1 => ?_) (fun c1 => ?_)
    · exact absurd c1 (nI_ge (by omega) (by omega))
    · refine x_iload 5 dX6_cutSlanting_47 rfl ?_
      refine x_aload_n 2 dX6_cutSlanting_49 rfl ?_
      refine gf_X6_250 rfl dX6_cutSlanting_50 hSt.1 ?_
      rw [show gI (S) 196 (t) = dr from hSt.2.2.2.2.2]
      refine x_iload 6 dX6_cutSlanting_53 rfl ?_
      refine x_imul dX6_cutSlanting_55 ?_
      refine x_iadd dX6_cutSlanting_56 ?_
      refine x_aload_n 0 dX6_cutSlanting_57 rfl ?_
      refine gf_X6_40 rfl dX6_cutSlanting_58 hI.l.1 ?_
      rw [show gP (S) 225 (x) = some (x + 6) from hI.l.2.1.1]
      refine x_alen dX6_cutSlanting_61 (Or.inr (Or.inl hI.l.2.2.2.2.1.1)) ?_
      rw [show gL (S) (x + 6) = n from hI.l.2.2.2.2.1.2]
      refine ca_X6_247 [.int ((ft + (dr * nI j))), .int ((nI n))] [] (c_X6_rest ((ft + (dr * nI j))) ((nI n))) rfl dX6_cutSlanting_62 rfl rfl ⟨(Nat.le_of_ble_eq_true rfl), (Nat.le_of_ble_eq_true rfl), by show 2 * j + 0 ≤ 26; omega, by show 905 * j + 0 ≤ 11765; omega, (Nat.le_of_ble_eq_true rfl)⟩ (fun v T hq => ?_)
      obtain ⟨rfl, rfl⟩ := hq
      rw [sl1]
      refine x_istore [(7, .int (nI g)), (0, .ref (x)), (1, .int (cst)), (2, .ref (t)), (3, .int (nI cm)), (4, .int (nI b)), (5, .int (ft)), (6, .int (nI j))] dX6_cutSlanting_65 (Nat.le_of_ble_eq_true rfl) rfl ?_
      refine x_at 67 rfl ?_
      refine x_iconst 0 dX6_cutSlanting_67 (by decide) ?_
      refine x_iload 7 dX6_cutSlanting_68 rfl ?_
      refine x_aload_n 1 dX6_cutSlanting_70 rfl ?_
      refine gf_X6_34 rfl dX6_cutSlanting_71 hI.l.1 ?_
      rw [show gI (S) 224 (x) = nI W from (hI.m.1.1.trans hw)]
      refine x_imul dX6_cutSlanting_74 ?_
      refine x_iload 5 dX6_cutSlanting_75 rfl ?_
      refine x_isub dX6_cutSlanting_77 ?_
      refine ca_X6_271 rfl dX6_cutSlanting_78 (Nat.le_of_ble_eq_true rfl) (Nat.le_of_ble_eq_true rfl) (by show 2 * j ≤ 26; omega) (by show 905 * j ≤ 11765; omega) ?_
      rw [from_eq hW hb hL hL2 hj2]
      refine x_istore [(8, .int (nI (Bk W b L j))), (7, .int (nI g)), (0, .ref (x)), (1, .int (cst)), (2, .ref (t)), (3, .int (nI cm)), (4, .int (nI b)), (5, .int (ft)), (6, .int (nI j))] dX6_cutSlanting_81 (Nat.le_of_ble_eq_true rfl) rfl ?_
      refine x_aload_n 4 dX6_cutSlanting_83 rfl ?_
      refine gf_X6_85 rfl dX6_cutSlanting_84 hSt.1 ?_
      rw [show gI (S) 195 (t) = nI L from hSt.2.2.2.2.1]
      refine x_iload 8 dX6_cutSlanting_87 rfl ?_
      refine x_at 89 rfl ?_
      refine x_iconst 1 dX6_cutSlanting_89 (by decide) ?_
      refine x_iadd dX6_cutSlanting_90 ?_
      refine x_aload_n 2 dX6_cutSlanting_91 rfl ?_
      refine gf_X6_34 rfl dX6_cutSlanting_92 hI.l.1 ?_
      rw [show gI (S) 224 (x) = nI W from (hI.m.1.1.trans hw)]
      refine x_imul dX6_cutSlanting_95 ?_
      refine x_iload 6 dX6_cutSlanting_96 rfl ?_
      refine x_isub dX6_cutSlanting_98 ?_
      refine ca_X6_274 rfl dX6_cutSlanting_99 (Nat.le_of_ble_eq_true rfl) (Nat.le_of_ble_eq_true rfl) (by show 2 * j ≤ 26; omega) (by show 905 * j ≤ 11765; omega) ?_
      rw [till_eq hW hb hL hL2 hj2]
      refine x_istore [(9, .int (nI (Bk W b L (j + 1)))), (8, .int (nI (Bk W b L j))), (7, .int (nI g)), (0, .ref (x)), (1, .int (cst)), (2, .ref (t)), (3, .int (nI cm)), (4, .int (nI b)), (5, .int (ft)), (6, .int (nI j))] dX6_cutSlanting_102 (Nat.le_of_ble_eq_true rfl) rfl ?_
      refine x_aload_n 3 dX6_cutSlanting_104 rfl ?_
      refine x_iload 2 dX6_cutSlanting_105 rfl ?_
      refine nw_X6_120 rfl dX6_cutSlanting_107 (by show 2 * j + 1 ≤ 26; omega) (by show 905 * j + 5 ≤ 11765; omega) ?_
      have hE0 : EX S (nO S 4) := EX.rf.nO 4
      have hSt0 : STp (nO S 4) t fr lo ri (nI L) dr := hSt.sf (SF.ex hI.lw hE0)
      have hI0 := hI.ex hE0 (hI.lw.nO 4)
      have hw0 : gI (nO S 4) 224 x = nI W := hI0.m.1.1.trans hw
      refine x_at 110 rfl ?_
      refine x_dup dX6_cutSlanting_110 rfl ?_
      refine x_iload_n 4 dX6_cutSlanting_111 rfl ?_
      refine x_aload_n 3 dX6_cutSlanting_112 rfl ?_
      refine x_aload_n 5 dX6_cutSlanting_113 rfl ?_
      refine x_iload 1 dX6_cutSlanting_114 rfl ?_
      refine ca_X6_277 [.int (nI (Bk W b L j))] [.ref (x), .int (cst), .ref (gN S), .ref (gN S), .int (nI g), .ref (x)] (c_X5_longitudeAt (fr) (dr) (nI (Bk W b L j)) hSt0.1 hSt0.2.1 hSt0.2.2.2.2.2) hSt0.1 rfl dX6_cutSlanting_116 rfl rfl ⟨(Nat.le_of_ble_eq_true rfl), (Nat.le_of_ble_eq_true rfl), by show 2 * j + 1 ≤ 26; omega, by show 905 * j + 5 ≤ 11765; omega, (Nat.le_of_ble_eq_true rfl)⟩ (fun v T hq => ?_)
      obtain ⟨rfl, rfl⟩ := hq
      refine x_iload 2 dX6_cutSlanting_119 rfl ?_
      refine ca_X6_160 [.int ((f_X5_longitudeAt fr dr (nI (Bk W b L j)))), .int (nI g)] [.int (cst), .ref (gN S), .ref (gN S), .int (nI g), .ref (x)] (c_X6_sideOf (nI W) ((f_X5_longitudeAt fr dr (nI (Bk W b L j)))) (nI g) hI0.l.1 hw0) hI0.l.1 rfl dX6_cutSlanting_121 rfl rfl ⟨(Nat.le_of_ble_eq_true rfl), (Nat.le_of_ble_eq_true rfl), by show 2 * j + 1 ≤ 26; omega, by show 905 * j + 5 ≤ 11765; omega, (Nat.le_of_ble_eq_true rfl)⟩ (fun v T hq => ?_)
      obtain ⟨rfl, rfl⟩ := hq
      refine x_aload_n 5 dX6_cutSlanting_124 rfl ?_
      refine x_iload 1 dX6_cutSlanting_125 rfl ?_
      refine ca_X6_280 [.int (nI (Bk W b L j))] [.int ((f_X6_sideOf (nI W) ((f_X5_longitudeAt fr dr (nI (Bk W b L j)))) (nI g))), .int (cst), .ref (gN S), .ref (gN S), .int (nI g), .ref (x)] (c_X5_heightAt (lo) (ri) (nI L) (nI (Bk W b L j)) hSt0.1 hSt0.2.2.1 hSt0.2.2.2.1 hSt0.2.2.2.2.1) hSt0.1 rfl dX6_cutSlanting_127 rfl rfl ⟨(Nat.le_of_ble_eq_true rfl), (Nat.le_of_ble_eq_true rfl), by show 2 * j + 1 ≤ 26; omega, by show 905 * j + 5 ≤ 11765; omega, (Nat.le_of_ble_eq_true rfl)⟩ (fun v T hq => ?_)
      obtain ⟨rfl, rfl⟩ := hq
      refine x_aload_n 3 dX6_cutSlanting_130 rfl ?_
      refine x_at 131 rfl ?_
      refine x_aload_n 5 dX6_cutSlanting_131 rfl ?_
      refine x_iload 0 dX6_cutSlanting_132 rfl ?_
      refine ca_X6_277 [.int (nI (Bk W b L (j + 1)))] [.ref (x), .int ((f_X5_heightAt lo ri (nI L) (nI (Bk W b L j)))), .int ((f_X6_sideOf (nI W) ((f_X5_longitudeAt fr dr (nI (Bk W b L j)))) (nI g))), .int (cst), .ref (gN S), .ref (gN S), .int (nI g), .ref (x)] (c_X5_longitudeAt (fr) (dr) (nI (Bk W b L (j + 1))) hSt0.1 hSt0.2.1 hSt0.2.2.2.2.2) hSt0.1 rfl dX6_cutSlanting_134 rfl rfl ⟨(Nat.le_of_ble_eq_true rfl), (Nat.le_of_ble_eq_true rfl), by show 2 * j + 1 ≤ 26; omega, by show 905 * j + 5 ≤ 11765; omega, (Nat.le_of_ble_eq_true rfl)⟩ (fun v T hq => ?_)
      obtain ⟨rfl, rfl⟩ := hq
      refine x_iload 2 dX6_cutSlanting_137 rfl ?_
      refine ca_X6_160 [.int ((f_X5_longitudeAt fr dr (nI (Bk W b L (j + 1))))), .int (nI g)] [.int ((f_X5_heightAt lo ri (nI L) (nI (Bk W b L j)))), .int ((f_X6_sideOf (nI W) ((f_X5_longitudeAt fr dr (nI (Bk W b L j)))) (nI g))), .int (cst), .ref (gN S), .ref (gN S), .int (nI g), .ref (x)] (c_X6_sideOf (nI W) ((f_X5_longitudeAt fr dr (nI (Bk W b L (j + 1))))) (nI g) hI0.l.1 hw0) hI0.l.1 rfl dX6_cutSlanting_139 rfl rfl ⟨(Nat.le_of_ble_eq_true rfl), (Nat.le_of_ble_eq_true rfl), by show 2 * j + 1 ≤ 26; omega, by show 905 * j + 5 ≤ 11765; omega, (Nat.le_of_ble_eq_true rfl)⟩ (fun v T hq => ?_)
      obtain ⟨rfl, rfl⟩ := hq
      refine x_aload_n 5 dX6_cutSlanting_142 rfl ?_
      refine x_iload 0 dX6_cutSlanting_143 rfl ?_
      refine ca_X6_280 [.int (nI (Bk W b L (j + 1)))] [.int ((f_X6_sideOf (nI W) ((f_X5_longitudeAt fr dr (nI (Bk W b L (j + 1))))) (nI g))), .int ((f_X5_heightAt lo ri (nI L) (nI (Bk W b L j)))), .int ((f_X6_sideOf (nI W) ((f_X5_longitudeAt fr dr (nI (Bk W b L j)))) (nI g))), .int (cst), .ref (gN S), .ref (gN S), .int (nI g), .ref (x)] (c_X5_heightAt (lo) (ri) (nI L) (nI (Bk W b L (j + 1))) hSt0.1 hSt0.2.2.1 hSt0.2.2.2.1 hSt0.2.2.2.2.1) hSt0.1 rfl dX6_cutSlanting_145 rfl rfl ⟨(Nat.le_of_ble_eq_true rfl), (Nat.le_of_ble_eq_true rfl), by show 2 * j + 1 ≤ 26; omega, by show 905 * j + 5 ≤ 11765; omega, (Nat.le_of_ble_eq_true rfl)⟩ (fun v T hq => ?_)
      obtain ⟨rfl, rfl⟩ := hq
      refine ca_X6_264 [.int (cst), .int ((f_X6_sideOf (nI W) ((f_X5_longitudeAt fr dr (nI (Bk W b L j)))) (nI g))), .int ((f_X5_heightAt lo ri (nI L) (nI (Bk W b L j)))), .int ((f_X6_sideOf (nI W) ((f_X5_longitudeAt fr dr (nI (Bk W b L (j + 1))))) (nI g))), .int ((f_X5_heightAt lo ri (nI L) (nI (Bk W b L (j + 1)))))] [.ref (gN S), .int (nI g), .ref (x)] (c_X3_init (cst) ((f_X6_sideOf (nI W) ((f_X5_longitudeAt fr dr (nI (Bk W b L j)))) (nI g))) ((f_X5_heightAt lo ri (nI L) (nI (Bk W b L j)))) ((f_X6_sideOf (nI W) ((f_X5_longitudeAt fr dr (nI (Bk W b L (j + 1))))) (nI g))) ((f_X5_heightAt lo ri (nI L) (nI (Bk W b L (j + 1))))) (by rw [gK_nO, if_pos rfl])) rfl dX6_cutSlanting_148 rfl rfl ⟨(Nat.le_of_ble_eq_true rfl), (Nat.le_of_ble_eq_true rfl), by show 2 * j + 1 ≤ 26; omega, by show 905 * j + 5 ≤ 11765; omega, (Nat.le_of_ble_eq_true rfl)⟩ (fun v T hq2 => ?_)
      obtain ⟨rfl, rfl⟩ := hq2
      obtain ⟨S1, eS1⟩ : ∃ s9 : HS, s9 = uI (uI (uI (uI (uI (nO S 4) 128 (gN S) (cst)) 129 (gN S) ((f_X6_sideOf (nI W) ((f_X5_longitudeAt fr dr (nI (Bk W b L j)))) (nI g)))) 130 (gN S) ((f_X5_heightAt lo ri (nI L) (nI (Bk W b L j))))) 131 (gN S) ((f_X6_sideOf (nI W) ((f_X5_longitudeAt fr dr (nI (Bk W b L (j + 1))))) (nI g)))) 132 (gN S) ((f_X5_heightAt lo ri (nI L) (nI (Bk W b L (j + 1))))) := ⟨_, rfl⟩
      rw [← eS1]
      have hE1 : EX S S1 := by rw [eS1]; exact (((((EX.rf.nO 4).uI (Nat.le_refl _)).uI (Nat.le_refl _)).uI (Nat.le_refl _)).uI (Nat.le_refl _)).uI (Nat.le_refl _)
      have hW1 : LW k S1 := by rw [eS1]; exact hI.lw.nO 4
      have hI1 := hI.ex hE1 hW1
      have hP1 : PM0 S1 (gN S) (cst) ((f_X6_sideOf (nI W) ((f_X5_longitudeAt fr dr (nI (Bk W b L j)))) (nI g))) ((f_X5_heightAt lo ri (nI L) (nI (Bk W b L j)))) ((f_X6_sideOf (nI W) ((f_X5_longitudeAt fr dr (nI (Bk W b L (j + 1))))) (nI g))) ((f_X5_heightAt lo ri (nI L) (nI (Bk W b L (j + 1))))) := by rw [eS1]; refine ⟨if_pos rfl, ?_⟩; simp [gI_uI]
      have hSF1 : SF S S1 := SF.ex hI.lw hE1
      clear eS1
      refine ca_X6_267 [.int (nI g), .ref (gN S)] [] (c_lay hI1 (by omega) hg hP1) hI1.l.1 rfl dX6_cutSlanting_151 rfl rfl ⟨(Nat.le_of_ble_eq_true rfl), (Nat.le_of_ble_eq_true rfl), by show 2 * j + 1 + 1 ≤ 26; omega, by show 905 * j + 5 + 900 ≤ 11765; omega, (Nat.le_of_ble_eq_true rfl)⟩ (fun v T hq2 => ?_)
      obtain ⟨rfl, ⟨pa2, hI2⟩, u2, u3⟩ := hq2
      rw [hσ] at hI2
      refine x_iinc 9 (nI j + 1) [(6, .int ((nI j + 1))), (9, .int (nI (Bk W b L (j + 1)))), (8, .int (nI (Bk W b L j))), (7, .int (nI g)), (0, .ref (x)), (1, .int (cst)), (2, .ref (t)), (3, .int (nI cm)), (4, .int (nI b)), (5, .int (ft))] dX6_cutSlanting_154 rfl rfl (Nat.le_of_ble_eq_true rfl) rfl ?_
      refine x_goto 41 dX6_cutSlanting_157 (by decide) ?_
      refine x_lv [(0, .ref (x)), (1, .int (cst)), (2, .ref (t)), (3, .int (nI cm)), (4, .int (nI b)), (5, .int (ft)), (6, .int (nI (j + 1)))] [4, 5, 6, 7, 8, 9, 0] (by rw [← nI_1 j]; rfl) ?_
      refine x_widen [] (2 * (j + 1)) (905 * (j + 1)) (by show 2 * j + 1 + 1 ≤ _; omega) (by show 905 * j + 5 + 900 ≤ _; omega) ?_
      exact ih (j + 1) (by omega) T _ (q + 1) pa2 hI2 (hSt.sf (SF.tr hSF1 u3)) hw (by omega) hgo (FX.tr hF (FX.tr hE1.fx u2)) (SF.tr hSF (SF.tr hSF1 u3))
set_option maxRecDepth 100000 in
theorem c_cutS {k : KT} {S : HS} {x n c q p : Nat} {ca pa na : Nat → Nat} {σ : MS} (hI : CX k S x n c q p ca pa na σ) {t W b L : Nat} {cst fr lo hi ri by_ dr : Int32} (hNW : NWp n W) (hW : 15 ≤ W ∧ W ≤ 60) (hw : σ.1 2 = nI W) (h1 : 0 ≤ fr.toInt) (h2 : fr.toInt ≤ 359) (hd : dr = 1 ∨ dr = -1) (hb : b < W) (hgb : f_X6_goneFromEdge (nI W) fr dr = nI b) (hbm : (b : Int) = (dr.toInt * fr.toInt) % W) (hL : 0 < L) (hL2 : L < 180) (hq : q + cmN W b L ≤ 600) (hSt : STp S t fr lo ri (nI L) dr) (hri : ri = hi - lo) : Ct k (mt_X6_cutSlanting (rm 8 26 11765)) [.ref x, .int cst, .ref t, .int (nI (cmN W b L))] S (fun v T => v = none ∧ (∃ q2 pa2, CX k T x n c q2 p ca pa2 na (lp_X7_goes cst fr lo hi by_ dr L L 1 σ 0)) ∧ FX x S T ∧ SF S T) := by
  have hw0 : ¬ nI W = 0 := nI_ne0 (by omega) (by omega)
  have hed : ∀ e, e < 181 → (f_X7_isEdge (nI W) (atE fr dr (nI e)) = 0 ↔ ¬ (b + e) % W = 0) := fun e he => edge_b hNW (by omega) hd h1 h2 hbm he
  refine Ct.ofF (by decide +kernel) (Nat.le_of_ble_eq_true rfl) ?_
  refine x_lv [(0, .ref (x)), (1, .int (cst)), (2, .ref (t)), (3, .int (nI (cmN W b L)))] [0, 1, 2, 3] rfl ?_
  rcases hd with rfl | rfl
  · refine x_aload_n 0 dX6_cutSlanting_0 rfl ?_
    refine x_aload_n 2 dX6_cutSlanting_1 rfl ?_
    refine ca_X6_254 [.ref (t)] [] (c_X6_goneFromEdge (nI W) (fr) (1)  hI.l.1 (hI.m.1.1.trans hw) hSt.1 hSt.2.1 hSt.2.2.2.2.2) hI.l.1 rfl dX6_cutSlanting_2 rfl rfl ⟨(Nat.le_of_ble_eq_true rfl), (Nat.le_of_ble_eq_true rfl), (Nat.le_of_ble_eq_true rfl), (Nat.le_of_ble_eq_true rfl), (Nat.le_of_ble_eq_true rfl)⟩ (fun v T hq => ?_)
    obtain ⟨rfl, rfl⟩ := hq
    rw [hgb]
    refine x_istore [(4, .int (nI b)), (0, .ref (x)), (1, .int (cst)), (2, .ref (t)), (3, .int (nI (cmN W b L)))] dX6_cutSlanting_5 (Nat.le_of_ble_eq_true rfl) rfl ?_
    refine x_aload_n 3 dX6_cutSlanting_7 rfl ?_
    refine gf_X6_253 rfl dX6_cutSlanting_8 hSt.1 ?_
    rw [show gI (S) 192 (t) = fr from hSt.2.1]
    refine x_aload_n 3 dX6_cutSlanting_11 rfl ?_
    refine gf_X6_250 rfl dX6_cutSlanting_12 hSt.1 ?_
    rw [show gI (S) 196 (t) = 1 from hSt.2.2.2.2.2]
    refine x_iload 0 dX6_cutSlanting_15 rfl ?_
    refine x_imul dX6_cutSlanting_17 ?_
    refine x_isub dX6_cutSlanting_18 ?_
    refine x_at 19 rfl ?_
    refine x_aload_n 1 dX6_cutSlanting_19 rfl ?_
    refine gf_X6_34 rfl dX6_cutSlanting_20 hI.l.1 ?_
    rw [show gI (S) 224 (x) = nI W from (hI.m.1.1.trans hw)]
    refine ca_X6_30 [.int ((fr - (1 * nI b))), .int (nI W)] [] (c_X6_wholes ((fr - (1 * nI b))) (nI W)) rfl dX6_cutSlanting_23 rfl rfl ⟨(Nat.le_of_ble_eq_true rfl), (Nat.le_of_ble_eq_true rfl), (Nat.le_of_ble_eq_true rfl), (Nat.le_of_ble_eq_true rfl), (Nat.le_of_ble_eq_true rfl)⟩ (fun v T hq => ?_)
    obtain ⟨rfl, rfl⟩ := hq
    refine x_istore [(5, .int ((f_X6_wholes ((fr - (1 * nI b))) (nI W)))), (4, .int (nI b)), (0, .ref (x)), (1, .int (cst)), (2, .ref (t)), (3, .int (nI (cmN W b L)))] dX6_cutSlanting_26 (Nat.le_of_ble_eq_true rfl) rfl ?_
    refine x_aload_n 4 dX6_cutSlanting_28 rfl ?_
    refine gf_X6_250 rfl dX6_cutSlanting_29 hSt.1 ?_
    rw [show gI (S) 196 (t) = 1 from hSt.2.2.2.2.2]
    refine x_if_ge 38 dX6_cutSlanting_32 (by decide) (fun c1 => ?_) (fun c1 => ?_)
    · refine x_iconst 0 dX6_cutSlanting_38 (by decide) ?_
      refine x_istore [(6, .int (0)), (5, .int ((f_X6_wholes ((fr - (1 * nI b))) (nI W)))), (4, .int (nI b)), (0, .ref (x)), (1, .int (cst)), (2, .ref (t)), (3, .int (nI (cmN W b L)))] dX6_cutSlanting_39 (Nat.le_of_ble_eq_true rfl) rfl ?_
      refine x_lv [(0, .ref (x)), (1, .int (cst)), (2, .ref (t)), (3, .int (nI (cmN W b L))), (4, .int (nI b)), (5, .int ((f_X6_wholes ((fr - (1 * nI b))) (nI W)))), (6, .int (nI 0))] [3, 4, 5, 6, 2, 1, 0] rfl ?_
      exact l_cutS (by_ := by_) (hi := hi) hW hb hL hL2 rfl hri hed (fun j hj => sl_up hNW hW hI.nb h1 h2 hb hbm hL hL2 hj) (cmN W b L) 0 (by omega) S σ q pa hI hSt hw hq (by rw [Bk_0]; rfl) FX.rf SF.rf
    · exact absurd (by decide) c1
  · refine x_aload_n 0 dX6_cutSlanting_0 rfl ?_
    refine x_aload_n 2 dX6_cutSlanting_1 rfl ?_
    refine ca_X6_254 [.ref (t)] [] (c_X6_goneFromEdge (nI W) (fr) ((-1))  hI.l.1 (hI.m.1.1.trans hw) hSt.1 hSt.2.1 hSt.2.2.2.2.2) hI.l.1 rfl dX6_cutSlanting_2 rfl rfl ⟨(Nat.le_of_ble_eq_true rfl), (Nat.le_of_ble_eq_true rfl), (Nat.le_of_ble_eq_true rfl), (Nat.le_of_ble_eq_true rfl), (Nat.le_of_ble_eq_true rfl)⟩ (fun v T hq => ?_)
    obtain ⟨rfl, rfl⟩ := hq
    rw [hgb]
    refine x_istore [(4, .int (nI b)), (0, .ref (x)), (1, .int (cst)), (2, .ref (t)), (3, .int (nI (cmN W b L)))] dX6_cutSlanting_5 (Nat.le_of_ble_eq_true rfl) rfl ?_
    refine x_aload_n 3 dX6_cutSlanting_7 rfl ?_
    refine gf_X6_253 rfl dX6_cutSlanting_8 hSt.1 ?_
    rw [show gI (S) 192 (t) = fr from hSt.2.1]
    refine x_aload_n 3 dX6_cutSlanting_11 rfl ?_
    refine gf_X6_250 rfl dX6_cutSlanting_12 hSt.1 ?_
    rw [show gI (S) 196 (t) = (-1) from hSt.2.2.2.2.2]
    refine x_iload 0 dX6_cutSlanting_15 rfl ?_
    refine x_imul dX6_cutSlanting_17 ?_
    refine x_isub dX6_cutSlanting_18 ?_
    refine x_at 19 rfl ?_
    refine x_aload_n 1 dX6_cutSlanting_19 rfl ?_
    refine gf_X6_34 rfl dX6_cutSlanting_20 hI.l.1 ?_
    rw [show gI (S) 224 (x) = nI W from (hI.m.1.1.trans hw)]
    refine ca_X6_30 [.int ((fr - ((-1) * nI b))), .int (nI W)] [] (c_X6_wholes ((fr - ((-1) * nI b))) (nI W)) rfl dX6_cutSlanting_23 rfl rfl ⟨(Nat.le_of_ble_eq_true rfl), (Nat.le_of_ble_eq_true rfl), (Nat.le_of_ble_eq_true rfl), (Nat.le_of_ble_eq_true rfl), (Nat.le_of_ble_eq_true rfl)⟩ (fun v T hq => ?_)
    obtain ⟨rfl, rfl⟩ := hq
    refine x_istore [(5, .int ((f_X6_wholes ((fr - ((-1) * nI b))) (nI W)))), (4, .int (nI b)), (0, .ref (x)), (1, .int (cst)), (2, .ref (t)), (3, .int (nI (cmN W b L)))] dX6_cutSlanting_26 (Nat.le_of_ble_eq_true rfl) rfl ?_
    refine x_aload_n 4 dX6_cutSlanting_28 rfl ?_
    refine gf_X6_250 rfl dX6_cutSlanting_29 hSt.1 ?_
    rw [show gI (S) 196 (t) = (-1) from hSt.2.2.2.2.2]
    refine x_if_ge 38 dX6_cutSlanting_32 (by decide) (fun c1 => ?_) (fun c1 => ?_)
    · exact absurd c1 (by decide)
    · refine x_iinc 0 ((f_X6_wholes ((fr - ((-1) * nI b))) (nI W)) + (-1)) [(5, .int (((f_X6_wholes ((fr - ((-1) * nI b))) (nI W)) + (-1)))), (4, .int (nI b)), (0, .ref (x)), (1, .int (cst)), (2, .ref (t)), (3, .int (nI (cmN W b L)))] dX6_cutSlanting_35 rfl rfl (Nat.le_of_ble_eq_true rfl) rfl ?_
      refine x_iconst 0 dX6_cutSlanting_38 (by decide) ?_
      refine x_istore [(6, .int (0)), (5, .int (((f_X6_wholes ((fr - ((-1) * nI b))) (nI W)) + (-1)))), (4, .int (nI b)), (0, .ref (x)), (1, .int (cst)), (2, .ref (t)), (3, .int (nI (cmN W b L)))] dX6_cutSlanting_39 (Nat.le_of_ble_eq_true rfl) rfl ?_
      refine x_lv [(0, .ref (x)), (1, .int (cst)), (2, .ref (t)), (3, .int (nI (cmN W b L))), (4, .int (nI b)), (5, .int (((f_X6_wholes ((fr - ((-1) * nI b))) (nI W)) + (-1)))), (6, .int (nI 0))] [3, 4, 5, 6, 2, 1, 0] rfl ?_
      exact l_cutS (by_ := by_) (hi := hi) hW hb hL hL2 rfl hri hed (fun j hj => sl_dn hNW hW hI.nb h1 h2 hb hbm hL hL2 hj) (cmN W b L) 0 (by omega) S σ q pa hI hSt hw hq (by rw [Bk_0]; rfl) FX.rf SF.rf
