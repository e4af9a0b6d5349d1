def okW (σ : MS) : Prop := ∃ n : Nat, n ∈ [6, 8, 9, 10, 12, 15, 18, 20, 24] ∧ σ.1 1 = nI n ∧ σ.1 2 = nI (360 / n)
theorem okS.w {σ : MS} (h : okS σ) : okW σ := h.gn
theorem okW.wid9 {σ : MS} (h : okW σ) {Pr : Int32 → Int32 → Prop} (h6 : Pr 6 60) (h8 : Pr 8 45) (h9 : Pr 9 40) (h10 : Pr 10 36) (h12 : Pr 12 30) (h15 : Pr 15 24) (h18 : Pr 18 20) (h20 : Pr 20 18) (h24 : Pr 24 15) : Pr (σ.1 1) (σ.1 2) := by
  obtain ⟨n, h1, h2, h3⟩ := h
  rw [h2, h3]
  simp only [List.mem_cons, List.not_mem_nil, or_false] at h1
  rcases h1 with rfl | rfl | rfl | rfl | rfl | rfl | rfl | rfl | rfl
  · exact h6
  · exact h8
  · exact h9
  · exact h10
  · exact h12
  · exact h15
  · exact h18
  · exact h20
  · exact h24
theorem okW.wi0 {σ : MS} (h : okW σ) : ¬ σ.1 2 = 0 := h.wid9 (Pr := fun _ w => ¬ w = 0) (by decide) (by decide) (by decide) (by decide) (by decide) (by decide) (by decide) (by decide) (by decide)
theorem okW.go0 {σ : MS} (h : okW σ) : ¬ σ.1 1 = 0 := h.wid9 (Pr := fun g _ => ¬ g = 0) (by decide) (by decide) (by decide) (by decide) (by decide) (by decide) (by decide) (by decide) (by decide)
theorem okW.lw {σ : MS} (h : okW σ) {lon : Int32} (h1 : 0 ≤ lon.toInt) (h2 : lon.toInt ≤ 359) : vp_in (lon / σ.1 2) 24 := by
  refine h.wid9 (Pr := fun _ w => vp_in (lon / w) 24) ?_ ?_ ?_ ?_ ?_ ?_ ?_ ?_ ?_ <;> refine dw_in h1 h2 (by decide) ?_
  · show lon.toInt / 60 < 24; omega
  · show lon.toInt / 45 < 24; omega
  · show lon.toInt / 40 < 24; omega
  · show lon.toInt / 36 < 24; omega
  · show lon.toInt / 30 < 24; omega
  · show lon.toInt / 24 < 24; omega
  · show lon.toInt / 20 < 24; omega
  · show lon.toInt / 18 < 24; omega
  · show lon.toInt / 15 < 24; omega
theorem stay_in {x go : Int32} (hx : vp_in x 24) (hg : 6 ≤ go.toInt ∧ go.toInt ≤ 24) : vp_in (x + go - 1 - (x + go - 1) / go * go) 24 := by
  obtain ⟨a, b⟩ := vp_in_iff.mp hx
  have e1 : (x + go).toInt = x.toInt + go.toInt := t_add (by omega) (by omega)
  have e2 : (x + go - 1).toInt = x.toInt + go.toInt - 1 := by rw [t_sub (by rw [e1]; simp only [show (1 : Int32).toInt = 1 from rfl]; omega) (by rw [e1]; simp only [show (1 : Int32).toInt = 1 from rfl]; omega), e1]; rfl
  have e3 := t_remp (x := x + go - 1) (y := go) (by rw [e2]; omega) (by omega)
  have h1 := Int.emod_nonneg (x + go - 1).toInt (show go.toInt ≠ 0 by omega)
  have h2 := Int.emod_lt_of_pos (x + go - 1).toInt (show 0 < go.toInt by omega)
  exact t_in (by rw [e3]; exact h1) (by rw [e3]; omega)
theorem okW.go2 {σ : MS} (h : okW σ) : 6 ≤ (σ.1 1).toInt ∧ (σ.1 1).toInt ≤ 24 := h.wid9 (Pr := fun g _ => 6 ≤ g.toInt ∧ g.toInt ≤ 24) (by decide) (by decide) (by decide) (by decide) (by decide) (by decide) (by decide) (by decide) (by decide)
/-- the place after e degrees of a step -/
def atE (fr dr : Int32) (e : Int32) : Int32 := fr + dr * e + 360 - (fr + dr * e + 360) / 360 * 360
/-- how many pieces the rounds from j on will lay -/
def remA (wi fr dr : Int32) : Nat → Nat → Nat
  | 0, _ => 0
  | m + 1, j => (if m ≠ 0 ∧ f_X7_isEdge wi (atE fr dr (nI j)) = 0 then 0 else 1) + remA wi fr dr m (j + 1)
theorem remA_add {wi fr dr : Int32} {m j : Nat} (h : m = 0 ∨ ¬ f_X7_isEdge wi (atE fr dr (nI j)) = 0) : remA wi fr dr (m + 1) j = 1 + remA wi fr dr m (j + 1) := by
  rw [remA, if_neg]
  intro q
  rcases h with h | h
  · exact q.1 h
  · exact h q.2
theorem remA_skip {wi fr dr : Int32} {m j : Nat} (h : m ≠ 0) (h2 : f_X7_isEdge wi (atE fr dr (nI j)) = 0) : remA wi fr dr (m + 1) j = remA wi fr dr m (j + 1) := by
  rw [remA, if_pos ⟨h, h2⟩, Nat.zero_add]
theorem atE_rng {fr dr : Int32} {b : Nat} (h1 : 0 ≤ fr.toInt) (h2 : fr.toInt ≤ 359) (hd : dr = 1 ∨ dr = -1) (hb : b < 181) : 0 ≤ (atE fr dr (nI b)).toInt ∧ (atE fr dr (nI b)).toInt ≤ 359 := by
  have e0 : (nI b).toInt = b := nI_toInt (by omega)
  have e1 : (dr * nI b).toInt = dr.toInt * b := by
    rcases hd with rfl | rfl
    · rw [t_mul (by rw [e0]; show _ ≤ 1 * _; omega) (by rw [e0]; show 1 * _ < _; omega), e0]
    · rw [t_mul (by rw [e0]; show _ ≤ (-1) * _; omega) (by rw [e0]; show (-1) * _ < _; omega), e0]
  have e1b : -180 ≤ (dr * nI b).toInt ∧ (dr * nI b).toInt ≤ 180 := by
    rw [e1]
    rcases hd with rfl | rfl
    · show -180 ≤ 1 * (b : Int) ∧ 1 * (b : Int) ≤ 180; omega
    · show -180 ≤ (-1) * (b : Int) ∧ (-1) * (b : Int) ≤ 180; omega
  have e2 : (fr + dr * nI b).toInt = fr.toInt + (dr * nI b).toInt := t_add (by omega) (by omega)
  have e3 : (fr + dr * nI b + 360).toInt = fr.toInt + (dr * nI b).toInt + 360 := by rw [t_add (by rw [e2]; simp only [show (360 : Int32).toInt = 360 from rfl]; omega) (by rw [e2]; simp only [show (360 : Int32).toInt = 360 from rfl]; omega), e2]; rfl
  have e4 : (atE fr dr (nI b)).toInt = (fr.toInt + (dr * nI b).toInt + 360) % 360 := by
    unfold atE
    rw [t_remp (by rw [e3]; omega) (by decide), e3]; rfl
  rw [e4]; omega
theorem west_in {σ : MS} (h : okW σ) {x : Int32} (h1 : 0 ≤ x.toInt) (h2 : x.toInt ≤ 359) : vp_in ((x + 359 - (x + 359) / 360 * 360) / σ.1 2) 24 := by
  have e : (x + 359).toInt = x.toInt + 359 := by rw [t_add (by simp only [show (359 : Int32).toInt = 359 from rfl]; omega) (by simp only [show (359 : Int32).toInt = 359 from rfl]; omega)]; rfl
  have e2 : (x + 359 - (x + 359) / 360 * 360).toInt = (x.toInt + 359) % 360 := by rw [t_remp (by rw [e]; omega) (by decide), e]; rfl
  exact h.lw (by rw [e2]; omega) (by rw [e2]; omega)
def h_X7_stays (σ : MS) (cst : Int32) (at_ : Int32) (lo : Int32) (hi : Int32) : MS := (if (f_X7_isEdge (σ.1 2) at_) = 0 then (g_X7_adds (σ) ((at_ / σ.1 2)) cst (((2 * (at_ - ((at_ / σ.1 2) * σ.1 2))) - σ.1 2)) lo (((2 * (at_ - ((at_ / σ.1 2) * σ.1 2))) - σ.1 2)) hi) else (g_X7_adds ((g_X7_adds (σ) ((at_ / σ.1 2)) cst (((2 * (at_ - ((at_ / σ.1 2) * σ.1 2))) - σ.1 2)) lo (((2 * (at_ - ((at_ / σ.1 2) * σ.1 2))) - σ.1 2)) hi)) (((((at_ / σ.1 2) + σ.1 1) - 1) - (((at_ / σ.1 2) + σ.1 1) - 1) / σ.1 1 * σ.1 1)) cst (σ.1 2) lo (σ.1 2) hi))
set_option maxRecDepth 100000 in
theorem c_X7_stays {k : KT} {S : HS} {o : Nat} (σ : MS) (cst : Int32) (at_ : Int32) (lo : Int32) (hi : Int32) (hM : MI S o σ) (hw : okW σ) (h1 : 0 ≤ at_.toInt) (h2 : at_.toInt ≤ 359) (q : Nat) (hq : σ.1 6 = nI q) (hr : q + (if f_X7_isEdge (σ.1 2) at_ = 0 then 1 else 2) ≤ 600) : Ct k (mt_X7_stays (rm 2 0 0)) [.ref o, .int (cst), .int (at_), .int (lo), .int (hi)] S (Pv o S (h_X7_stays σ cst at_ lo hi)) := by
  have hr1 : q < 600 := by split at hr <;> omega
  refine Ct.ofF (by decide +kernel) (Nat.le_of_ble_eq_true rfl) ?_
  refine x_lv [(0, .ref (o)), (1, .int (cst)), (2, .int (at_)), (3, .int (lo)), (4, .int (hi))] [0, 1, 2, 3, 4] rfl ?_
  refine x_iload_n 2 dX7_stays_0 rfl ?_
  refine x_aload_n 0 dX7_stays_1 rfl ?_
  refine gf_X7_66 rfl dX7_stays_2 (mhK hM.1) ?_
  rw [show gI (S) 258 (o) = σ.1 2 from (hM.i 2 (by decide))]
  refine x_idiv dX7_stays_5 hw.wi0 ?_
  refine x_istore [(5, .int ((at_ / σ.1 2))), (0, .ref (o)), (1, .int (cst)), (2, .int (at_)), (3, .int (lo)), (4, .int (hi))] dX7_stays_6 (Nat.le_of_ble_eq_true rfl) rfl ?_
  refine x_iconst 2 dX7_stays_8 (by decide) ?_
  refine x_iload_n 3 dX7_stays_9 rfl ?_
  refine x_iload 0 dX7_stays_10 rfl ?_
  refine x_aload_n 1 dX7_stays_12 rfl ?_
  refine gf_X7_66 rfl dX7_stays_13 (mhK hM.1) ?_
  rw [show gI (S) 258 (o) = σ.1 2 from (hM.i 2 (by decide))]
  refine x_imul dX7_stays_16 ?_
  refine x_at 17 rfl ?_
  refine x_isub dX7_stays_17 ?_
  refine x_imul dX7_stays_18 ?_
  refine x_aload_n 1 dX7_stays_19 rfl ?_
  refine gf_X7_66 rfl dX7_stays_20 (mhK hM.1) ?_
  rw [show gI (S) 258 (o) = σ.1 2 from (hM.i 2 (by decide))]
  refine x_isub dX7_stays_23 ?_
  refine x_istore [(6, .int (((2 * (at_ - ((at_ / σ.1 2) * σ.1 2))) - σ.1 2))), (5, .int ((at_ / σ.1 2))), (0, .ref (o)), (1, .int (cst)), (2, .int (at_)), (3, .int (lo)), (4, .int (hi))] dX7_stays_24 (Nat.le_of_ble_eq_true rfl) rfl ?_
  refine x_aload_n 2 dX7_stays_26 rfl ?_
  refine x_iload 1 dX7_stays_27 rfl ?_
  refine x_iload_n 3 dX7_stays_29 rfl ?_
  refine x_iload 0 dX7_stays_30 rfl ?_
  refine x_iload_n 5 dX7_stays_32 rfl ?_
  refine x_iload 0 dX7_stays_33 rfl ?_
  refine x_at 35 rfl ?_
  refine x_iload 6 dX7_stays_35 rfl ?_
  refine ca_X7_110 [.int ((at_ / σ.1 2)), .int (cst), .int (((2 * (at_ - ((at_ / σ.1 2) * σ.1 2))) - σ.1 2)), .int (lo), .int (((2 * (at_ - ((at_ / σ.1 2) * σ.1 2))) - σ.1 2)), .int (hi)] [] (c_X7_adds (σ) ((at_ / σ.1 2)) (cst) (((2 * (at_ - ((at_ / σ.1 2) * σ.1 2))) - σ.1 2)) (lo) (((2 * (at_ - ((at_ / σ.1 2) * σ.1 2))) - σ.1 2)) (hi) hM (by rw [hq]; exact vp_in_nI (by omega) (by decide)) (hw.lw h1 h2)) (mhK hM.1) rfl dX7_stays_37 rfl rfl ⟨(Nat.le_of_ble_eq_true rfl), (Nat.le_of_ble_eq_true rfl), (Nat.le_of_ble_eq_true rfl), (Nat.le_of_ble_eq_true rfl), (Nat.le_of_ble_eq_true rfl)⟩ (fun v T1 hq => ?_)
  obtain ⟨rfl, hM1, hF1⟩ := hq
  have hF1 := FM.tr FM.rf hF1
  refine x_aload_n 2 dX7_stays_40 rfl ?_
  refine x_iload_n 4 dX7_stays_41 rfl ?_
  refine ca_X7_95 [.int (at_)] [] (c_X7_isEdge (σ.1 2) (at_) hM1.1 (hM1.i 2 (by decide)) hw.wi0) (mhK hM1.1) rfl dX7_stays_42 rfl rfl ⟨(Nat.le_of_ble_eq_true rfl), (Nat.le_of_ble_eq_true rfl), (Nat.le_of_ble_eq_true rfl), (Nat.le_of_ble_eq_true rfl), (Nat.le_of_ble_eq_true rfl)⟩ (fun v T hq => ?_)
  obtain ⟨rfl, rfl⟩ := hq
  refine x_if_eq 78 dX7_stays_45 (by decide) (fun c2 => ?_) (fun c2 => ?_)
  · exact x_return dX7_stays_78 rfl (Nat.le_of_ble_eq_true rfl) (Nat.le_of_ble_eq_true rfl) ⟨rfl, by rw [h_X7_stays, if_pos c2]; exact hM1, hF1⟩
  · refine x_aload_n 2 dX7_stays_48 rfl ?_
    refine x_iload 1 dX7_stays_49 rfl ?_
    refine x_aload_n 2 dX7_stays_51 rfl ?_
    refine gf_X7_62 rfl dX7_stays_52 (mhK hM1.1) ?_
    rw [show gI (T1) 257 (o) = σ.1 1 from (hM1.i 1 (by decide))]
    refine x_iadd dX7_stays_55 ?_
    refine x_iconst 1 dX7_stays_56 (by decide) ?_
    refine x_isub dX7_stays_57 ?_
    refine x_aload_n 2 dX7_stays_58 rfl ?_
    refine gf_X7_62 rfl dX7_stays_59 (mhK hM1.1) ?_
    rw [show gI (T1) 257 (o) = σ.1 1 from (hM1.i 1 (by decide))]
    refine x_irem dX7_stays_62 hw.go0 ?_
    refine x_at 63 rfl ?_
    refine x_iload_n 3 dX7_stays_63 rfl ?_
    refine x_aload_n 2 dX7_stays_64 rfl ?_
    refine gf_X7_66 rfl dX7_stays_65 (mhK hM1.1) ?_
    rw [show gI (T1) 258 (o) = σ.1 2 from (hM1.i 2 (by decide))]
    refine x_iload_n 5 dX7_stays_68 rfl ?_
    refine x_aload_n 2 dX7_stays_69 rfl ?_
    refine gf_X7_66 rfl dX7_stays_70 (mhK hM1.1) ?_
    rw [show gI (T1) 258 (o) = σ.1 2 from (hM1.i 2 (by decide))]
    refine x_iload 6 dX7_stays_73 rfl ?_
    refine ca_X7_110 [.int (((((at_ / σ.1 2) + σ.1 1) - 1) - (((at_ / σ.1 2) + σ.1 1) - 1) / σ.1 1 * σ.1 1)), .int (cst), .int (σ.1 2), .int (lo), .int (σ.1 2), .int (hi)] [] (c_X7_adds ((g_X7_adds (σ) ((at_ / σ.1 2)) cst (((2 * (at_ - ((at_ / σ.1 2) * σ.1 2))) - σ.1 2)) lo (((2 * (at_ - ((at_ / σ.1 2) * σ.1 2))) - σ.1 2)) hi)) (((((at_ / σ.1 2) + σ.1 1) - 1) - (((at_ / σ.1 2) + σ.1 1) - 1) / σ.1 1 * σ.1 1)) (cst) (σ.1 2) (lo) (σ.1 2) (hi) hM1 (by show vp_in (σ.1 6 + 1) 600; rw [hq, nI_1]; exact vp_in_nI (by rw [if_neg c2] at hr; omega) (by decide)) (stay_in (hw.lw h1 h2) hw.go2)) (mhK hM1.1) rfl dX7_stays_75 rfl rfl ⟨(Nat.le_of_ble_eq_true rfl), (Nat.le_of_ble_eq_true rfl), (Nat.le_of_ble_eq_true rfl), (Nat.le_of_ble_eq_true rfl), (Nat.le_of_ble_eq_true rfl)⟩ (fun v T3 hq => ?_)
    obtain ⟨rfl, hM3, hF3⟩ := hq
    have hF3 := FM.tr hF1 hF3
    exact x_return dX7_stays_78 rfl (Nat.le_of_ble_eq_true rfl) (Nat.le_of_ble_eq_true rfl) ⟨rfl, by rw [h_X7_stays, if_neg c2]; exact hM3, hF3⟩
theorem okW_adds {σ : MS} {g cst s1 h1 s2 h2 : Int32} (h : okW σ) : okW (g_X7_adds σ g cst s1 h1 s2 h2) := h
theorem m0_of {P m j : Nat} (hj : j + (m + 1) = P + 1) (hP : P < 2 ^ 30) (c : nI P ≤ nI j) : m = 0 := by
  have := (nI_leI (by omega) (by omega)).mp c
  omega
theorem m1_of {P m j : Nat} (hj : j + (m + 1) = P + 1) (hP : P < 2 ^ 30) (c : ¬ nI P ≤ nI j) : m ≠ 0 := by
  intro e
  apply c
  exact nI_le (by omega) (by omega)
theorem hst_ne {P : Nat} (h1 : 1 ≤ P) (h2 : P < 180) : ¬ 2 * nI P = 0 := two_ne (by rw [show (0 : Int32) = nI 0 from rfl]; exact nI_lt (by omega) (by omega))
def lp_X7_goes  (cst : Int32) (fr : Int32) (lo : Int32) (hi : Int32) (by_ : Int32) (dr : Int32) (P : Nat) : Nat → Nat → MS → Int32 → MS
  | 0, j, σ, bg => σ
  | m + 1, j, σ, bg => (if nI P ≤ nI j then (if dr ≤ 0 then lp_X7_goes  cst fr lo hi by_ dr P m (j + 1) ((g_X7_adds (σ) (((((((fr + (dr * bg)) + 360) - ((fr + (dr * bg)) + 360) / 360 * 360) + 359) - ((((fr + (dr * bg)) + 360) - ((fr + (dr * bg)) + 360) / 360 * 360) + 359) / 360 * 360) / σ.1 2)) cst (((2 * (f_X7_sideWest (σ.1 2) ((((fr + (dr * bg)) + 360) - ((fr + (dr * bg)) + 360) / 360 * 360)) (((((((fr + (dr * bg)) + 360) - ((fr + (dr * bg)) + 360) / 360 * 360) + 359) - ((((fr + (dr * bg)) + 360) - ((fr + (dr * bg)) + 360) / 360 * 360) + 359) / 360 * 360) / σ.1 2)))) - σ.1 2)) ((f_X7_heightAt lo hi bg (nI P))) (((2 * ((f_X7_sideWest (σ.1 2) ((((fr + (dr * bg)) + 360) - ((fr + (dr * bg)) + 360) / 360 * 360)) (((((((fr + (dr * bg)) + 360) - ((fr + (dr * bg)) + 360) / 360 * 360) + 359) - ((((fr + (dr * bg)) + 360) - ((fr + (dr * bg)) + 360) / 360 * 360) + 359) / 360 * 360) / σ.1 2))) + (dr * (nI j - bg)))) - σ.1 2)) ((f_X7_heightAt lo hi (nI j) (nI P))))) (nI j) else lp_X7_goes  cst fr lo hi by_ dr P m (j + 1) ((g_X7_adds (σ) (((((fr + (dr * bg)) + 360) - ((fr + (dr * bg)) + 360) / 360 * 360) / σ.1 2)) cst (((2 * ((((fr + (dr * bg)) + 360) - ((fr + (dr * bg)) + 360) / 360 * 360) - (((((fr + (dr * bg)) + 360) - ((fr + (dr * bg)) + 360) / 360 * 360) / σ.1 2) * σ.1 2))) - σ.1 2)) ((f_X7_heightAt lo hi bg (nI P))) (((2 * (((((fr + (dr * bg)) + 360) - ((fr + (dr * bg)) + 360) / 360 * 360) - (((((fr + (dr * bg)) + 360) - ((fr + (dr * bg)) + 360) / 360 * 360) / σ.1 2) * σ.1 2)) + (dr * (nI j - bg)))) - σ.1 2)) ((f_X7_heightAt lo hi (nI j) (nI P))))) (nI j)) else (if (f_X7_isEdge (σ.1 2) ((((fr + (dr * nI j)) + 360) - ((fr + (dr * nI j)) + 360) / 360 * 360))) = 0 then lp_X7_goes  cst fr lo hi by_ dr P m (j + 1) (σ) (bg) else (if dr ≤ 0 then lp_X7_goes  cst fr lo hi by_ dr P m (j + 1) ((g_X7_adds (σ) (((((((fr + (dr * bg)) + 360) - ((fr + (dr * bg)) + 360) / 360 * 360) + 359) - ((((fr + (dr * bg)) + 360) - ((fr + (dr * bg)) + 360) / 360 * 360) + 359) / 360 * 360) / σ.1 2)) cst (((2 * (f_X7_sideWest (σ.1 2) ((((fr + (dr * bg)) + 360) - ((fr + (dr * bg)) + 360) / 360 * 360)) (((((((fr + (dr * bg)) + 360) - ((fr + (dr * bg)) + 360) / 360 * 360) + 359) - ((((fr + (dr * bg)) + 360) - ((fr + (dr * bg)) + 360) / 360 * 360) + 359) / 360 * 360) / σ.1 2)))) - σ.1 2)) ((f_X7_heightAt lo hi bg (nI P))) (((2 * ((f_X7_sideWest (σ.1 2) ((((fr + (dr * bg)) + 360) - ((fr + (dr * bg)) + 360) / 360 * 360)) (((((((fr + (dr * bg)) + 360) - ((fr + (dr * bg)) + 360) / 360 * 360) + 359) - ((((fr + (dr * bg)) + 360) - ((fr + (dr * bg)) + 360) / 360 * 360) + 359) / 360 * 360) / σ.1 2))) + (dr * (nI j - bg)))) - σ.1 2)) ((f_X7_heightAt lo hi (nI j) (nI P))))) (nI j) else lp_X7_goes  cst fr lo hi by_ dr P m (j + 1) ((g_X7_adds (σ) (((((fr + (dr * bg)) + 360) - ((fr + (dr * bg)) + 360) / 360 * 360) / σ.1 2)) cst (((2 * ((((fr + (dr * bg)) + 360) - ((fr + (dr * bg)) + 360) / 360 * 360) - (((((fr + (dr * bg)) + 360) - ((fr + (dr * bg)) + 360) / 360 * 360) / σ.1 2) * σ.1 2))) - σ.1 2)) ((f_X7_heightAt lo hi bg (nI P))) (((2 * (((((fr + (dr * bg)) + 360) - ((fr + (dr * bg)) + 360) / 360 * 360) - (((((fr + (dr * bg)) + 360) - ((fr + (dr * bg)) + 360) / 360 * 360) / σ.1 2) * σ.1 2)) + (dr * (nI j - bg)))) - σ.1 2)) ((f_X7_heightAt lo hi (nI j) (nI P))))) (nI j))))
set_option maxRecDepth 100000 in
theorem l_lp_X7_goes {k : KT} {S0 : HS} {o : Nat} (cst : Int32) (fr : Int32) (lo : Int32) (hi : Int32) (by_ : Int32) (dr : Int32) (P : Nat)  : ∀ (m : Nat) (j : Nat) (bg : Int32), j + m = P + 1 → ∀ (S : HS) (σ : MS) (hM : MI S o σ) (hF : FM o S0 S) (q : Nat) (b : Nat) (hw : okW σ) (hq : σ.1 6 = nI q) (hr : q + remA (σ.1 2) fr dr m j ≤ 600) (hb : bg = nI b) (hb2 : b < j) (hP1 : 1 ≤ P) (hP2 : P < 180) (hf1 : 0 ≤ fr.toInt) (hf2 : fr.toInt ≤ 359) (hd : dr = 1 ∨ dr = -1), X k (mt_X7_goes (rm 3 0 0)) (Zm k (mt_X7_goes (rm 3 0 0)) (Pv o S0 (lp_X7_goes  cst fr lo hi by_ dr P m j σ bg))) 33 [(0, .ref (o)), (1, .int (cst)), (2, .int (fr)), (3, .int (lo)), (4, .int (hi)), (5, .int (by_)), (6, .int (nI P)), (7, .int (dr)), (9, .int (nI j)), (8, .int (bg))] [] S 0 0 := by
  intro m
  induction m with
  | zero =>
    intro j bg hj S σ hM hF q b hw hq hr hb hb2 hP1 hP2 hf1 hf2 hd
    refine x_iload 8 dX7_goes_33 rfl ?_
    refine x_iload 6 dX7_goes_35 rfl ?_
    refine x_icmp_gt 221 dX7_goes_37 (by decide) (fun c1 => ?_) (fun c1 => ?_)
    · exact x_return dX7_goes_221 rfl (Nat.le_of_ble_eq_true rfl) (Nat.le_of_ble_eq_true rfl) ⟨rfl, by rw [lp_X7_goes]; exact hM, hF⟩
    · exact absurd (nI_lt (by omega) (by omega)) c1
  | succ m ih =>
    intro j bg hj S σ hM hF q b hw hq hr hb hb2 hP1 hP2 hf1 hf2 hd
    refine x_iload 8 dX7_goes_33 rfl ?_
    refine x_iload 6 dX7_goes_35 rfl ?_
    refine x_icmp_gt 221 dX7_goes_37 (by decide) (fun c1 => ?_) (fun c1 => ?_)
    · exact absurd c1 (nI_nlt (by omega) (by omega))
    · refine x_iload_n 2 dX7_goes_40 rfl ?_
      refine x_iload 7 dX7_goes_41 rfl ?_
      refine x_iload 8 dX7_goes_43 rfl ?_
      refine x_imul dX7_goes_45 ?_
      refine x_iadd dX7_goes_46 ?_
      refine x_sipush 360 dX7_goes_47 (by decide) ?_
      refine x_iadd dX7_goes_50 ?_
      refine x_sipush 360 dX7_goes_51 (by decide) ?_
      refine x_irem dX7_goes_54 (by decide) ?_
      refine x_istore [(10, .int ((((fr + (dr * nI j)) + 360) - ((fr + (dr * nI j)) + 360) / 360 * 360))), (0, .ref (o)), (1, .int (cst)), (2, .int (fr)), (3, .int (lo)), (4, .int (hi)), (5, .int (by_)), (6, .int (nI P)), (7, .int (dr)), (9, .int (nI j)), (8, .int (bg))] dX7_goes_55 (Nat.le_of_ble_eq_true rfl) rfl ?_
      refine x_iload 9 dX7_goes_57 rfl ?_
      refine x_at 59 rfl ?_
      refine x_iload 7 dX7_goes_59 rfl ?_
      refine x_icmp_ge 76 dX7_goes_61 (by decide) (fun c2 => ?_) (fun c2 => ?_)
      · refine x_iload_n 3 dX7_goes_76 rfl ?_
        refine x_iload 8 dX7_goes_77 rfl ?_
        refine x_iload 10 dX7_goes_79 rfl ?_
        refine x_imul dX7_goes_81 ?_
        refine x_iadd dX7_goes_82 ?_
        refine x_sipush 360 dX7_goes_83 (by decide) ?_
        refine x_iadd dX7_goes_86 ?_
        refine x_sipush 360 dX7_goes_87 (by decide) ?_
        refine x_irem dX7_goes_90 (by decide) ?_
        refine x_istore [(11, .int ((((fr + (dr * bg)) + 360) - ((fr + (dr * bg)) + 360) / 360 * 360))), (10, .int ((((fr + (dr * nI j)) + 360) - ((fr + (dr * nI j)) + 360) / 360 * 360))), (0, .ref (o)), (1, .int (cst)), (2, .int (fr)), (3, .int (lo)), (4, .int (hi)), (5, .int (by_)), (6, .int (nI P)), (7, .int (dr)), (9, .int (nI j)), (8, .int (bg))] dX7_goes_91 (Nat.le_of_ble_eq_true rfl) rfl ?_
        refine x_iload 9 dX7_goes_93 rfl ?_
        refine x_at 95 rfl ?_
        refine x_if_le 108 dX7_goes_95 (by decide) (fun c3 => ?_) (fun c3 => ?_)
        · refine x_iload 0 dX7_goes_108 rfl ?_
          refine x_sipush 359 dX7_goes_110 (by decide) ?_
          refine x_iadd dX7_goes_113 ?_
          refine x_sipush 360 dX7_goes_114 (by decide) ?_
          refine x_irem dX7_goes_117 (by decide) ?_
          refine x_aload_n 2 dX7_goes_118 rfl ?_
          refine gf_X7_66 rfl dX7_goes_119 (mhK hM.1) ?_
          rw [show gI (S) 258 (o) = σ.1 2 from (hM.i 2 (by decide))]
          refine x_idiv dX7_goes_122 hw.wi0 ?_
          refine x_istore [(12, .int (((((((fr + (dr * bg)) + 360) - ((fr + (dr * bg)) + 360) / 360 * 360) + 359) - ((((fr + (dr * bg)) + 360) - ((fr + (dr * bg)) + 360) / 360 * 360) + 359) / 360 * 360) / σ.1 2))), (11, .int ((((fr + (dr * bg)) + 360) - ((fr + (dr * bg)) + 360) / 360 * 360))), (10, .int ((((fr + (dr * nI j)) + 360) - ((fr + (dr * nI j)) + 360) / 360 * 360))), (0, .ref (o)), (1, .int (cst)), (2, .int (fr)), (3, .int (lo)), (4, .int (hi)), (5, .int (by_)), (6, .int (nI P)), (7, .int (dr)), (9, .int (nI j)), (8, .int (bg))] dX7_goes_123 (Nat.le_of_ble_eq_true rfl) rfl ?_
          refine x_iload 10 dX7_goes_125 rfl ?_
          refine x_if_le 143 dX7_goes_127 (by decide) (fun c4 => ?_) (fun c4 => ?_)
          · refine x_aload_n 3 dX7_goes_143 rfl ?_
            refine x_iload 1 dX7_goes_144 rfl ?_
            refine x_iload 0 dX7_goes_146 rfl ?_
            refine ca_X7_114 [.int ((((fr + (dr * bg)) + 360) - ((fr + (dr * bg)) + 360) / 360 * 360)), .int (((((((fr + (dr * bg)) + 360) - ((fr + (dr * bg)) + 360) / 360 * 360) + 359) - ((((fr + (dr * bg)) + 360) - ((fr + (dr * bg)) + 360) / 360 * 360) + 359) / 360 * 360) / σ.1 2))] [] (c_X7_sideWest (σ.1 2) ((((fr + (dr * bg)) + 360) - ((fr + (dr * bg)) + 360) / 360 * 360)) (((((((fr + (dr * bg)) + 360) - ((fr + (dr * bg)) + 360) / 360 * 360) + 359) - ((((fr + (dr * bg)) + 360) - ((fr + (dr * bg)) + 360) / 360 * 360) + 359) / 360 * 360) / σ.1 2)) hM.1 (hM.i 2 (by decide))) (mhK hM.1) rfl dX7_goes_148 rfl rfl ⟨(Nat.le_of_ble_eq_true rfl), (Nat.le_of_ble_eq_true rfl), (Nat.le_of_ble_eq_true rfl), (Nat.le_of_ble_eq_true rfl), (Nat.le_of_ble_eq_true rfl)⟩ (fun v T hq => ?_)
            obtain ⟨rfl, rfl⟩ := hq
            refine x_istore [(13, .int ((f_X7_sideWest (σ.1 2) ((((fr + (dr * bg)) + 360) - ((fr + (dr * bg)) + 360) / 360 * 360)) (((((((fr + (dr * bg)) + 360) - ((fr + (dr * bg)) + 360) / 360 * 360) + 359) - ((((fr + (dr * bg)) + 360) - ((fr + (dr * bg)) + 360) / 360 * 360) + 359) / 360 * 360) / σ.1 2))))), (12, .int (((((((fr + (dr * bg)) + 360) - ((fr + (dr * bg)) + 360) / 360 * 360) + 359) - ((((fr + (dr * bg)) + 360) - ((fr + (dr * bg)) + 360) / 360 * 360) + 359) / 360 * 360) / σ.1 2))), (11, .int ((((fr + (dr * bg)) + 360) - ((fr + (dr * bg)) + 360) / 360 * 360))), (10, .int ((((fr + (dr * nI j)) + 360) - ((fr + (dr * nI j)) + 360) / 360 * 360))), (0, .ref (o)), (1, .int (cst)), (2, .int (fr)), (3, .int (lo)), (4, .int (hi)), (5, .int (by_)), (6, .int (nI P)), (7, .int (dr)), (9, .int (nI j)), (8, .int (bg))] dX7_goes_151 (Nat.le_of_ble_eq_true rfl) rfl ?_
            refine x_iload 0 dX7_goes_153 rfl ?_
            refine x_iload 11 dX7_goes_155 rfl ?_
            refine x_iload 12 dX7_goes_157 rfl ?_
            refine x_iload 13 dX7_goes_159 rfl ?_
            refine x_isub dX7_goes_161 ?_
            refine x_imul dX7_goes_162 ?_
            refine x_at 163 rfl ?_
            refine x_iadd dX7_goes_163 ?_
            refine x_istore [(14, .int (((f_X7_sideWest (σ.1 2) ((((fr + (dr * bg)) + 360) - ((fr + (dr * bg)) + 360) / 360 * 360)) (((((((fr + (dr * bg)) + 360) - ((fr + (dr * bg)) + 360) / 360 * 360) + 359) - ((((fr + (dr * bg)) + 360) - ((fr + (dr * bg)) + 360) / 360 * 360) + 359) / 360 * 360) / σ.1 2))) + (dr * (nI j - bg))))), (13, .int ((f_X7_sideWest (σ.1 2) ((((fr + (dr * bg)) + 360) - ((fr + (dr * bg)) + 360) / 360 * 360)) (((((((fr + (dr * bg)) + 360) - ((fr + (dr * bg)) + 360) / 360 * 360) + 359) - ((((fr + (dr * bg)) + 360) - ((fr + (dr * bg)) + 360) / 360 * 360) + 359) / 360 * 360) / σ.1 2))))), (12, .int (((((((fr + (dr * bg)) + 360) - ((fr + (dr * bg)) + 360) / 360 * 360) + 359) - ((((fr + (dr * bg)) + 360) - ((fr + (dr * bg)) + 360) / 360 * 360) + 359) / 360 * 360) / σ.1 2))), (11, .int ((((fr + (dr * bg)) + 360) - ((fr + (dr * bg)) + 360) / 360 * 360))), (10, .int ((((fr + (dr * nI j)) + 360) - ((fr + (dr * nI j)) + 360) / 360 * 360))), (0, .ref (o)), (1, .int (cst)), (2, .int (fr)), (3, .int (lo)), (4, .int (hi)), (5, .int (by_)), (6, .int (nI P)), (7, .int (dr)), (9, .int (nI j)), (8, .int (bg))] dX7_goes_164 (Nat.le_of_ble_eq_true rfl) rfl ?_
            refine x_aload_n 5 dX7_goes_166 rfl ?_
            refine x_iload 2 dX7_goes_167 rfl ?_
            refine x_iload_n 6 dX7_goes_169 rfl ?_
            refine x_iconst 2 dX7_goes_170 (by decide) ?_
            refine x_iload 1 dX7_goes_171 rfl ?_
            refine x_imul dX7_goes_173 ?_
            refine x_aload_n 5 dX7_goes_174 rfl ?_
            refine gf_X7_66 rfl dX7_goes_175 (mhK hM.1) ?_
            rw [show gI (S) 258 (o) = σ.1 2 from (hM.i 2 (by decide))]
            refine x_isub dX7_goes_178 ?_
            refine x_iload_n 8 dX7_goes_179 rfl ?_
            refine x_at 180 rfl ?_
            refine x_iload 9 dX7_goes_180 rfl ?_
            refine x_iload 14 dX7_goes_182 rfl ?_
            refine x_iload 11 dX7_goes_184 rfl ?_
            refine ca_X7_117 [.int (lo), .int (hi), .int (bg), .int (nI P)] [.int (((2 * (f_X7_sideWest (σ.1 2) ((((fr + (dr * bg)) + 360) - ((fr + (dr * bg)) + 360) / 360 * 360)) (((((((fr + (dr * bg)) + 360) - ((fr + (dr * bg)) + 360) / 360 * 360) + 359) - ((((fr + (dr * bg)) + 360) - ((fr + (dr * bg)) + 360) / 360 * 360) + 359) / 360 * 360) / σ.1 2)))) - σ.1 2)), .int (cst), .int (((((((fr + (dr * bg)) + 360) - ((fr + (dr * bg)) + 360) / 360 * 360) + 359) - ((((fr + (dr * bg)) + 360) - ((fr + (dr * bg)) + 360) / 360 * 360) + 359) / 360 * 360) / σ.1 2)), .ref (o)] (c_X7_heightAt (lo) (hi) (bg) (nI P) (hst_ne hP1 hP2)) rfl dX7_goes_186 rfl rfl ⟨(Nat.le_of_ble_eq_true rfl), (Nat.le_of_ble_eq_true rfl), (Nat.le_of_ble_eq_true rfl), (Nat.le_of_ble_eq_true rfl), (Nat.le_of_ble_eq_true rfl)⟩ (fun v T hq => ?_)
            obtain ⟨rfl, rfl⟩ := hq
            refine x_iconst 2 dX7_goes_189 (by decide) ?_
            refine x_iload 0 dX7_goes_190 rfl ?_
            refine x_imul dX7_goes_192 ?_
            refine x_aload_n 5 dX7_goes_193 rfl ?_
            refine gf_X7_66 rfl dX7_goes_194 (mhK hM.1) ?_
            rw [show gI (S) 258 (o) = σ.1 2 from (hM.i 2 (by decide))]
            refine x_isub dX7_goes_197 ?_
            refine x_iload_n 8 dX7_goes_198 rfl ?_
            refine x_iload 9 dX7_goes_199 rfl ?_
            refine x_at 201 rfl ?_
            refine x_iload 13 dX7_goes_201 rfl ?_
            refine x_iload 11 dX7_goes_203 rfl ?_
            refine ca_X7_117 [.int (lo), .int (hi), .int (nI j), .int (nI P)] [.int (((2 * ((f_X7_sideWest (σ.1 2) ((((fr + (dr * bg)) + 360) - ((fr + (dr * bg)) + 360) / 360 * 360)) (((((((fr + (dr * bg)) + 360) - ((fr + (dr * bg)) + 360) / 360 * 360) + 359) - ((((fr + (dr * bg)) + 360) - ((fr + (dr * bg)) + 360) / 360 * 360) + 359) / 360 * 360) / σ.1 2))) + (dr * (nI j - bg)))) - σ.1 2)), .int ((f_X7_heightAt lo hi bg (nI P))), .int (((2 * (f_X7_sideWest (σ.1 2) ((((fr + (dr * bg)) + 360) - ((fr + (dr * bg)) + 360) / 360 * 360)) (((((((fr + (dr * bg)) + 360) - ((fr + (dr * bg)) + 360) / 360 * 360) + 359) - ((((fr + (dr * bg)) + 360) - ((fr + (dr * bg)) + 360) / 360 * 360) + 359) / 360 * 360) / σ.1 2)))) - σ.1 2)), .int (cst), .int (((((((fr + (dr * bg)) + 360) - ((fr + (dr * bg)) + 360) / 360 * 360) + 359) - ((((fr + (dr * bg)) + 360) - ((fr + (dr * bg)) + 360) / 360 * 360) + 359) / 360 * 360) / σ.1 2)), .ref (o)] (c_X7_heightAt (lo) (hi) (nI j) (nI P) (hst_ne hP1 hP2)) rfl dX7_goes_205 rfl rfl ⟨(Nat.le_of_ble_eq_true rfl), (Nat.le_of_ble_eq_true rfl), (Nat.le_of_ble_eq_true rfl), (Nat.le_of_ble_eq_true rfl), (Nat.le_of_ble_eq_true rfl)⟩ (fun v T hq => ?_)
            obtain ⟨rfl, rfl⟩ := hq
            refine ca_X7_110 [.int (((((((fr + (dr * bg)) + 360) - ((fr + (dr * bg)) + 360) / 360 * 360) + 359) - ((((fr + (dr * bg)) + 360) - ((fr + (dr * bg)) + 360) / 360 * 360) + 359) / 360 * 360) / σ.1 2)), .int (cst), .int (((2 * (f_X7_sideWest (σ.1 2) ((((fr + (dr * bg)) + 360) - ((fr + (dr * bg)) + 360) / 360 * 360)) (((((((fr + (dr * bg)) + 360) - ((fr + (dr * bg)) + 360) / 360 * 360) + 359) - ((((fr + (dr * bg)) + 360) - ((fr + (dr * bg)) + 360) / 360 * 360) + 359) / 360 * 360) / σ.1 2)))) - σ.1 2)), .int ((f_X7_heightAt lo hi bg (nI P))), .int (((2 * ((f_X7_sideWest (σ.1 2) ((((fr + (dr * bg)) + 360) - ((fr + (dr * bg)) + 360) / 360 * 360)) (((((((fr + (dr * bg)) + 360) - ((fr + (dr * bg)) + 360) / 360 * 360) + 359) - ((((fr + (dr * bg)) + 360) - ((fr + (dr * bg)) + 360) / 360 * 360) + 359) / 360 * 360) / σ.1 2))) + (dr * (nI j - bg)))) - σ.1 2)), .int ((f_X7_heightAt lo hi (nI j) (nI P)))] [] (c_X7_adds (σ) (((((((fr + (dr * bg)) + 360) - ((fr + (dr * bg)) + 360) / 360 * 360) + 359) - ((((fr + (dr * bg)) + 360) - ((fr + (dr * bg)) + 360) / 360 * 360) + 359) / 360 * 360) / σ.1 2)) (cst) (((2 * (f_X7_sideWest (σ.1 2) ((((fr + (dr * bg)) + 360) - ((fr + (dr * bg)) + 360) / 360 * 360)) (((((((fr + (dr * bg)) + 360) - ((fr + (dr * bg)) + 360) / 360 * 360) + 359) - ((((fr + (dr * bg)) + 360) - ((fr + (dr * bg)) + 360) / 360 * 360) + 359) / 360 * 360) / σ.1 2)))) - σ.1 2)) ((f_X7_heightAt lo hi bg (nI P))) (((2 * ((f_X7_sideWest (σ.1 2) ((((fr + (dr * bg)) + 360) - ((fr + (dr * bg)) + 360) / 360 * 360)) (((((((fr + (dr * bg)) + 360) - ((fr + (dr * bg)) + 360) / 360 * 360) + 359) - ((((fr + (dr * bg)) + 360) - ((fr + (dr * bg)) + 360) / 360 * 360) + 359) / 360 * 360) / σ.1 2))) + (dr * (nI j - bg)))) - σ.1 2)) ((f_X7_heightAt lo hi (nI j) (nI P))) hM (by rw [hq]; exact vp_in_nI (by rw [(remA_add (Or.inl (m0_of hj (by omega) c2)))] at hr; omega) (by decide)) (by rw [hb]; exact west_in hw (atE_rng hf1 hf2 hd (show b < 181 by omega)).1 (atE_rng hf1 hf2 hd (show b < 181 by omega)).2)) (mhK hM.1) rfl dX7_goes_208 rfl rfl ⟨(Nat.le_of_ble_eq_true rfl), (Nat.le_of_ble_eq_true rfl), (Nat.le_of_ble_eq_true rfl), (Nat.le_of_ble_eq_true rfl), (Nat.le_of_ble_eq_true rfl)⟩ (fun v T5 hq => ?_)
            obtain ⟨rfl, hM5, hF5⟩ := hq
            have hF5 := FM.tr hF hF5
            refine x_iload 13 dX7_goes_211 rfl ?_
            refine x_istore [(8, .int (nI j)), (14, .int (((f_X7_sideWest (σ.1 2) ((((fr + (dr * bg)) + 360) - ((fr + (dr * bg)) + 360) / 360 * 360)) (((((((fr + (dr * bg)) + 360) - ((fr + (dr * bg)) + 360) / 360 * 360) + 359) - ((((fr + (dr * bg)) + 360) - ((fr + (dr * bg)) + 360) / 360 * 360) + 359) / 360 * 360) / σ.1 2))) + (dr * (nI j - bg))))), (13, .int ((f_X7_sideWest (σ.1 2) ((((fr + (dr * bg)) + 360) - ((fr + (dr * bg)) + 360) / 360 * 360)) (((((((fr + (dr * bg)) + 360) - ((fr + (dr * bg)) + 360) / 360 * 360) + 359) - ((((fr + (dr * bg)) + 360) - ((fr + (dr * bg)) + 360) / 360 * 360) + 359) / 360 * 360) / σ.1 2))))), (12, .int (((((((fr + (dr * bg)) + 360) - ((fr + (dr * bg)) + 360) / 360 * 360) + 359) - ((((fr + (dr * bg)) + 360) - ((fr + (dr * bg)) + 360) / 360 * 360) + 359) / 360 * 360) / σ.1 2))), (11, .int ((((fr + (dr * bg)) + 360) - ((fr + (dr * bg)) + 360) / 360 * 360))), (10, .int ((((fr + (dr * nI j)) + 360) - ((fr + (dr * nI j)) + 360) / 360 * 360))), (0, .ref (o)), (1, .int (cst)), (2, .int (fr)), (3, .int (lo)), (4, .int (hi)), (5, .int (by_)), (6, .int (nI P)), (7, .int (dr)), (9, .int (nI j))] dX7_goes_213 (Nat.le_of_ble_eq_true rfl) rfl ?_
            refine x_iinc 14 (nI j + 1) [(9, .int ((nI j + 1))), (8, .int (nI j)), (14, .int (((f_X7_sideWest (σ.1 2) ((((fr + (dr * bg)) + 360) - ((fr + (dr * bg)) + 360) / 360 * 360)) (((((((fr + (dr * bg)) + 360) - ((fr + (dr * bg)) + 360) / 360 * 360) + 359) - ((((fr + (dr * bg)) + 360) - ((fr + (dr * bg)) + 360) / 360 * 360) + 359) / 360 * 360) / σ.1 2))) + (dr * (nI j - bg))))), (13, .int ((f_X7_sideWest (σ.1 2) ((((fr + (dr * bg)) + 360) - ((fr + (dr * bg)) + 360) / 360 * 360)) (((((((fr + (dr * bg)) + 360) - ((fr + (dr * bg)) + 360) / 360 * 360) + 359) - ((((fr + (dr * bg)) + 360) - ((fr + (dr * bg)) + 360) / 360 * 360) + 359) / 360 * 360) / σ.1 2))))), (12, .int (((((((fr + (dr * bg)) + 360) - ((fr + (dr * bg)) + 360) / 360 * 360) + 359) - ((((fr + (dr * bg)) + 360) - ((fr + (dr * bg)) + 360) / 360 * 360) + 359) / 360 * 360) / σ.1 2))), (11, .int ((((fr + (dr * bg)) + 360) - ((fr + (dr * bg)) + 360) / 360 * 360))), (10, .int ((((fr + (dr * nI j)) + 360) - ((fr + (dr * nI j)) + 360) / 360 * 360))), (0, .ref (o)), (1, .int (cst)), (2, .int (fr)), (3, .int (lo)), (4, .int (hi)), (5, .int (by_)), (6, .int (nI P)), (7, .int (dr))] dX7_goes_215 rfl rfl (Nat.le_of_ble_eq_true rfl) rfl ?_
            refine x_goto 33 dX7_goes_218 (by decide) ?_
            refine x_lv [(0, .ref (o)), (1, .int (cst)), (2, .int (fr)), (3, .int (lo)), (4, .int (hi)), (5, .int (by_)), (6, .int (nI P)), (7, .int (dr)), (9, .int (nI (j + 1))), (8, .int (nI j))] [7, 8, 9, 10, 11, 12, 13, 14, 0, 1] (by rw [← nI_1 j]; rfl) ?_
            rw [show lp_X7_goes  cst fr lo hi by_ dr P (m + 1) j σ bg = lp_X7_goes  cst fr lo hi by_ dr P m (j + 1) ((g_X7_adds (σ) (((((((fr + (dr * bg)) + 360) - ((fr + (dr * bg)) + 360) / 360 * 360) + 359) - ((((fr + (dr * bg)) + 360) - ((fr + (dr * bg)) + 360) / 360 * 360) + 359) / 360 * 360) / σ.1 2)) cst (((2 * (f_X7_sideWest (σ.1 2) ((((fr + (dr * bg)) + 360) - ((fr + (dr * bg)) + 360) / 360 * 360)) (((((((fr + (dr * bg)) + 360) - ((fr + (dr * bg)) + 360) / 360 * 360) + 359) - ((((fr + (dr * bg)) + 360) - ((fr + (dr * bg)) + 360) / 360 * 360) + 359) / 360 * 360) / σ.1 2)))) - σ.1 2)) ((f_X7_heightAt lo hi bg (nI P))) (((2 * ((f_X7_sideWest (σ.1 2) ((((fr + (dr * bg)) + 360) - ((fr + (dr * bg)) + 360) / 360 * 360)) (((((((fr + (dr * bg)) + 360) - ((fr + (dr * bg)) + 360) / 360 * 360) + 359) - ((((fr + (dr * bg)) + 360) - ((fr + (dr * bg)) + 360) / 360 * 360) + 359) / 360 * 360) / σ.1 2))) + (dr * (nI j - bg)))) - σ.1 2)) ((f_X7_heightAt lo hi (nI j) (nI P))))) (nI j) from by rw [lp_X7_goes, if_pos c2, if_pos c3]]
            exact ih (j + 1) (nI j) (by omega) T5 ((g_X7_adds (σ) (((((((fr + (dr * bg)) + 360) - ((fr + (dr * bg)) + 360) / 360 * 360) + 359) - ((((fr + (dr * bg)) + 360) - ((fr + (dr * bg)) + 360) / 360 * 360) + 359) / 360 * 360) / σ.1 2)) cst (((2 * (f_X7_sideWest (σ.1 2) ((((fr + (dr * bg)) + 360) - ((fr + (dr * bg)) + 360) / 360 * 360)) (((((((fr + (dr * bg)) + 360) - ((fr + (dr * bg)) + 360) / 360 * 360) + 359) - ((((fr + (dr * bg)) + 360) - ((fr + (dr * bg)) + 360) / 360 * 360) + 359) / 360 * 360) / σ.1 2)))) - σ.1 2)) ((f_X7_heightAt lo hi bg (nI P))) (((2 * ((f_X7_sideWest (σ.1 2) ((((fr + (dr * bg)) + 360) - ((fr + (dr * bg)) + 360) / 360 * 360)) (((((((fr + (dr * bg)) + 360) - ((fr + (dr * bg)) + 360) / 360 * 360) + 359) - ((((fr + (dr * bg)) + 360) - ((fr + (dr * bg)) + 360) / 360 * 360) + 359) / 360 * 360) / σ.1 2))) + (dr * (nI j - bg)))) - σ.1 2)) ((f_X7_heightAt lo hi (nI j) (nI P))))) hM5 hF5 (q + 1) j (okW_adds hw) (by show σ.1 6 + 1 = nI (q + 1); rw [hq]; exact nI_1 q) (by rw [(remA_add (Or.inl (m0_of hj (by omega) c2)))] at hr; show q + 1 + remA (σ.1 2) fr dr m (j + 1) ≤ 600; omega) rfl (by omega) hP1 hP2 hf1 hf2 hd
          · exact absurd c3 c4
        · refine x_iload 0 dX7_goes_98 rfl ?_
          refine x_aload_n 2 dX7_goes_100 rfl ?_
          refine gf_X7_66 rfl dX7_goes_101 (mhK hM.1) ?_
          rw [show gI (S) 258 (o) = σ.1 2 from (hM.i 2 (by decide))]
          refine x_idiv dX7_goes_104 hw.wi0 ?_
          refine x_goto 123 dX7_goes_105 (by decide) ?_
          refine x_istore [(12, .int (((((fr + (dr * bg)) + 360) - ((fr + (dr * bg)) + 360) / 360 * 360) / σ.1 2))), (11, .int ((((fr + (dr * bg)) + 360) - ((fr + (dr * bg)) + 360) / 360 * 360))), (10, .int ((((fr + (dr * nI j)) + 360) - ((fr + (dr * nI j)) + 360) / 360 * 360))), (0, .ref (o)), (1, .int (cst)), (2, .int (fr)), (3, .int (lo)), (4, .int (hi)), (5, .int (by_)), (6, .int (nI P)), (7, .int (dr)), (9, .int (nI j)), (8, .int (bg))] dX7_goes_123 (Nat.le_of_ble_eq_true rfl) rfl ?_
          refine x_iload 10 dX7_goes_125 rfl ?_
          refine x_if_le 143 dX7_goes_127 (by decide) (fun c6 => ?_) (fun c6 => ?_)
          · exact absurd c6 c3
          · refine x_iload 1 dX7_goes_130 rfl ?_
            refine x_iload 0 dX7_goes_132 rfl ?_
            refine x_aload_n 3 dX7_goes_134 rfl ?_
            refine gf_X7_66 rfl dX7_goes_135 (mhK hM.1) ?_
            rw [show gI (S) 258 (o) = σ.1 2 from (hM.i 2 (by decide))]
            refine x_imul dX7_goes_138 ?_
            refine x_isub dX7_goes_139 ?_
            refine x_goto 151 dX7_goes_140 (by decide) ?_
            refine x_istore [(13, .int (((((fr + (dr * bg)) + 360) - ((fr + (dr * bg)) + 360) / 360 * 360) - (((((fr + (dr * bg)) + 360) - ((fr + (dr * bg)) + 360) / 360 * 360) / σ.1 2) * σ.1 2)))), (12, .int (((((fr + (dr * bg)) + 360) - ((fr + (dr * bg)) + 360) / 360 * 360) / σ.1 2))), (11, .int ((((fr + (dr * bg)) + 360) - ((fr + (dr * bg)) + 360) / 360 * 360))), (10, .int ((((fr + (dr * nI j)) + 360) - ((fr + (dr * nI j)) + 360) / 360 * 360))), (0, .ref (o)), (1, .int (cst)), (2, .int (fr)), (3, .int (lo)), (4, .int (hi)), (5, .int (by_)), (6, .int (nI P)), (7, .int (dr)), (9, .int (nI j)), (8, .int (bg))] dX7_goes_151 (Nat.le_of_ble_eq_true rfl) rfl ?_
            refine x_iload 0 dX7_goes_153 rfl ?_
            refine x_iload 11 dX7_goes_155 rfl ?_
            refine x_iload 12 dX7_goes_157 rfl ?_
            refine x_iload 13 dX7_goes_159 rfl ?_
            refine x_isub dX7_goes_161 ?_
            refine x_imul dX7_goes_162 ?_
            refine x_iadd dX7_goes_163 ?_
            refine x_istore [(14, .int ((((((fr + (dr * bg)) + 360) - ((fr + (dr * bg)) + 360) / 360 * 360) - (((((fr + (dr * bg)) + 360) - ((fr + (dr * bg)) + 360) / 360 * 360) / σ.1 2) * σ.1 2)) + (dr * (nI j - bg))))), (13, .int (((((fr + (dr * bg)) + 360) - ((fr + (dr * bg)) + 360) / 360 * 360) - (((((fr + (dr * bg)) + 360) - ((fr + (dr * bg)) + 360) / 360 * 360) / σ.1 2) * σ.1 2)))), (12, .int (((((fr + (dr * bg)) + 360) - ((fr + (dr * bg)) + 360) / 360 * 360) / σ.1 2))), (11, .int ((((fr + (dr * bg)) + 360) - ((fr + (dr * bg)) + 360) / 360 * 360))), (10, .int ((((fr + (dr * nI j)) + 360) - ((fr + (dr * nI j)) + 360) / 360 * 360))), (0, .ref (o)), (1, .int (cst)), (2, .int (fr)), (3, .int (lo)), (4, .int (hi)), (5, .int (by_)), (6, .int (nI P)), (7, .int (dr)), (9, .int (nI j)), (8, .int (bg))] dX7_goes_164 (Nat.le_of_ble_eq_true rfl) rfl ?_
            refine x_aload_n 5 dX7_goes_166 rfl ?_
            refine x_iload 2 dX7_goes_167 rfl ?_
            refine x_at 169 rfl ?_
            refine x_iload_n 6 dX7_goes_169 rfl ?_
            refine x_iconst 2 dX7_goes_170 (by decide) ?_
            refine x_iload 1 dX7_goes_171 rfl ?_
            refine x_imul dX7_goes_173 ?_
            refine x_aload_n 5 dX7_goes_174 rfl ?_
            refine gf_X7_66 rfl dX7_goes_175 (mhK hM.1) ?_
            rw [show gI (S) 258 (o) = σ.1 2 from (hM.i 2 (by decide))]
            refine x_isub dX7_goes_178 ?_
            refine x_iload_n 8 dX7_goes_179 rfl ?_
            refine x_iload 9 dX7_goes_180 rfl ?_
            refine x_iload 14 dX7_goes_182 rfl ?_
            refine x_iload 11 dX7_goes_184 rfl ?_
            refine ca_X7_117 [.int (lo), .int (hi), .int (bg), .int (nI P)] [.int (((2 * ((((fr + (dr * bg)) + 360) - ((fr + (dr * bg)) + 360) / 360 * 360) - (((((fr + (dr * bg)) + 360) - ((fr + (dr * bg)) + 360) / 360 * 360) / σ.1 2) * σ.1 2))) - σ.1 2)), .int (cst), .int (((((fr + (dr * bg)) + 360) - ((fr + (dr * bg)) + 360) / 360 * 360) / σ.1 2)), .ref (o)] (c_X7_heightAt (lo) (hi) (bg) (nI P) (hst_ne hP1 hP2)) rfl dX7_goes_186 rfl rfl ⟨(Nat.le_of_ble_eq_true rfl), (Nat.le_of_ble_eq_true rfl), (Nat.le_of_ble_eq_true rfl), (Nat.le_of_ble_eq_true rfl), (Nat.le_of_ble_eq_true rfl)⟩ (fun v T hq => ?_)
            obtain ⟨rfl, rfl⟩ := hq
            refine x_at 189 rfl ?_
            refine x_iconst 2 dX7_goes_189 (by decide) ?_
            refine x_iload 0 dX7_goes_190 rfl ?_
            refine x_imul dX7_goes_192 ?_
            refine x_aload_n 5 dX7_goes_193 rfl ?_
            refine gf_X7_66 rfl dX7_goes_194 (mhK hM.1) ?_
            rw [show gI (S) 258 (o) = σ.1 2 from (hM.i 2 (by decide))]
            refine x_isub dX7_goes_197 ?_
            refine x_iload_n 8 dX7_goes_198 rfl ?_
            refine x_iload 9 dX7_goes_199 rfl ?_
            refine x_iload 13 dX7_goes_201 rfl ?_
            refine x_iload 11 dX7_goes_203 rfl ?_
            refine ca_X7_117 [.int (lo), .int (hi), .int (nI j), .int (nI P)] [.int (((2 * (((((fr + (dr * bg)) + 360) - ((fr + (dr * bg)) + 360) / 360 * 360) - (((((fr + (dr * bg)) + 360) - ((fr + (dr * bg)) + 360) / 360 * 360) / σ.1 2) * σ.1 2)) + (dr * (nI j - bg)))) - σ.1 2)), .int ((f_X7_heightAt lo hi bg (nI P))), .int (((2 * ((((fr + (dr * bg)) + 360) - ((fr + (dr * bg)) + 360) / 360 * 360) - (((((fr + (dr * bg)) + 360) - ((fr + (dr * bg)) + 360) / 360 * 360) / σ.1 2) * σ.1 2))) - σ.1 2)), .int (cst), .int (((((fr + (dr * bg)) + 360) - ((fr + (dr * bg)) + 360) / 360 * 360) / σ.1 2)), .ref (o)] (c_X7_heightAt (lo) (hi) (nI j) (nI P) (hst_ne hP1 hP2)) rfl dX7_goes_205 rfl rfl ⟨(Nat.le_of_ble_eq_true rfl), (Nat.le_of_ble_eq_true rfl), (Nat.le_of_ble_eq_true rfl), (Nat.le_of_ble_eq_true rfl), (Nat.le_of_ble_eq_true rfl)⟩ (fun v T hq => ?_)
            obtain ⟨rfl, rfl⟩ := hq
            refine ca_X7_110 [.int (((((fr + (dr * bg)) + 360) - ((fr + (dr * bg)) + 360) / 360 * 360) / σ.1 2)), .int (cst), .int (((2 * ((((fr + (dr * bg)) + 360) - ((fr + (dr * bg)) + 360) / 360 * 360) - (((((fr + (dr * bg)) + 360) - ((fr + (dr * bg)) + 360) / 360 * 360) / σ.1 2) * σ.1 2))) - σ.1 2)), .int ((f_X7_heightAt lo hi bg (nI P))), .int (((2 * (((((fr + (dr * bg)) + 360) - ((fr + (dr * bg)) + 360) / 360 * 360) - (((((fr + (dr * bg)) + 360) - ((fr + (dr * bg)) + 360) / 360 * 360) / σ.1 2) * σ.1 2)) + (dr * (nI j - bg)))) - σ.1 2)), .int ((f_X7_heightAt lo hi (nI j) (nI P)))] [] (c_X7_adds (σ) (((((fr + (dr * bg)) + 360) - ((fr + (dr * bg)) + 360) / 360 * 360) / σ.1 2)) (cst) (((2 * ((((fr + (dr * bg)) + 360) - ((fr + (dr * bg)) + 360) / 360 * 360) - (((((fr + (dr * bg)) + 360) - ((fr + (dr * bg)) + 360) / 360 * 360) / σ.1 2) * σ.1 2))) - σ.1 2)) ((f_X7_heightAt lo hi bg (nI P))) (((2 * (((((fr + (dr * bg)) + 360) - ((fr + (dr * bg)) + 360) / 360 * 360) - (((((fr + (dr * bg)) + 360) - ((fr + (dr * bg)) + 360) / 360 * 360) / σ.1 2) * σ.1 2)) + (dr * (nI j - bg)))) - σ.1 2)) ((f_X7_heightAt lo hi (nI j) (nI P))) hM (by rw [hq]; exact vp_in_nI (by rw [(remA_add (Or.inl (m0_of hj (by omega) c2)))] at hr; omega) (by decide)) (by rw [hb]; exact hw.lw (atE_rng hf1 hf2 hd (show b < 181 by omega)).1 (atE_rng hf1 hf2 hd (show b < 181 by omega)).2)) (mhK hM.1) rfl dX7_goes_208 rfl rfl ⟨(Nat.le_of_ble_eq_true rfl), (Nat.le_of_ble_eq_true rfl), (Nat.le_of_ble_eq_true rfl), (Nat.le_of_ble_eq_true rfl), (Nat.le_of_ble_eq_true rfl)⟩ (fun v T7 hq => ?_)
            obtain ⟨rfl, hM7, hF7⟩ := hq
            have hF7 := FM.tr hF hF7
            refine x_at 211 rfl ?_
            refine x_iload 13 dX7_goes_211 rfl ?_
            refine x_istore [(8, .int (nI j)), (14, .int ((((((fr + (dr * bg)) + 360) - ((fr + (dr * bg)) + 360) / 360 * 360) - (((((fr + (dr * bg)) + 360) - ((fr + (dr * bg)) + 360) / 360 * 360) / σ.1 2) * σ.1 2)) + (dr * (nI j - bg))))), (13, .int (((((fr + (dr * bg)) + 360) - ((fr + (dr * bg)) + 360) / 360 * 360) - (((((fr + (dr * bg)) + 360) - ((fr + (dr * bg)) + 360) / 360 * 360) / σ.1 2) * σ.1 2)))), (12, .int (((((fr + (dr * bg)) + 360) - ((fr + (dr * bg)) + 360) / 360 * 360) / σ.1 2))), (11, .int ((((fr + (dr * bg)) + 360) - ((fr + (dr * bg)) + 360) / 360 * 360))), (10, .int ((((fr + (dr * nI j)) + 360) - ((fr + (dr * nI j)) + 360) / 360 * 360))), (0, .ref (o)), (1, .int (cst)), (2, .int (fr)), (3, .int (lo)), (4, .int (hi)), (5, .int (by_)), (6, .int (nI P)), (7, .int (dr)), (9, .int (nI j))] dX7_goes_213 (Nat.le_of_ble_eq_true rfl) rfl ?_
            refine x_iinc 14 (nI j + 1) [(9, .int ((nI j + 1))), (8, .int (nI j)), (14, .int ((((((fr + (dr * bg)) + 360) - ((fr + (dr * bg)) + 360) / 360 * 360) - (((((fr + (dr * bg)) + 360) - ((fr + (dr * bg)) + 360) / 360 * 360) / σ.1 2) * σ.1 2)) + (dr * (nI j - bg))))), (13, .int (((((fr + (dr * bg)) + 360) - ((fr + (dr * bg)) + 360) / 360 * 360) - (((((fr + (dr * bg)) + 360) - ((fr + (dr * bg)) + 360) / 360 * 360) / σ.1 2) * σ.1 2)))), (12, .int (((((fr + (dr * bg)) + 360) - ((fr + (dr * bg)) + 360) / 360 * 360) / σ.1 2))), (11, .int ((((fr + (dr * bg)) + 360) - ((fr + (dr * bg)) + 360) / 360 * 360))), (10, .int ((((fr + (dr * nI j)) + 360) - ((fr + (dr * nI j)) + 360) / 360 * 360))), (0, .ref (o)), (1, .int (cst)), (2, .int (fr)), (3, .int (lo)), (4, .int (hi)), (5, .int (by_)), (6, .int (nI P)), (7, .int (dr))] dX7_goes_215 rfl rfl (Nat.le_of_ble_eq_true rfl) rfl ?_
            refine x_goto 33 dX7_goes_218 (by decide) ?_
            refine x_lv [(0, .ref (o)), (1, .int (cst)), (2, .int (fr)), (3, .int (lo)), (4, .int (hi)), (5, .int (by_)), (6, .int (nI P)), (7, .int (dr)), (9, .int (nI (j + 1))), (8, .int (nI j))] [7, 8, 9, 10, 11, 12, 13, 14, 0, 1] (by rw [← nI_1 j]; rfl) ?_
            rw [show lp_X7_goes  cst fr lo hi by_ dr P (m + 1) j σ bg = lp_X7_goes  cst fr lo hi by_ dr P m (j + 1) ((g_X7_adds (σ) (((((fr + (dr * bg)) + 360) - ((fr + (dr * bg)) + 360) / 360 * 360) / σ.1 2)) cst (((2 * ((((fr + (dr * bg)) + 360) - ((fr + (dr * bg)) + 360) / 360 * 360) - (((((fr + (dr * bg)) + 360) - ((fr + (dr * bg)) + 360) / 360 * 360) / σ.1 2) * σ.1 2))) - σ.1 2)) ((f_X7_heightAt lo hi bg (nI P))) (((2 * (((((fr + (dr * bg)) + 360) - ((fr + (dr * bg)) + 360) / 360 * 360) - (((((fr + (dr * bg)) + 360) - ((fr + (dr * bg)) + 360) / 360 * 360) / σ.1 2) * σ.1 2)) + (dr * (nI j - bg)))) - σ.1 2)) ((f_X7_heightAt lo hi (nI j) (nI P))))) (nI j) from by rw [lp_X7_goes, if_pos c2, if_neg c3]]
            exact ih (j + 1) (nI j) (by omega) T7 ((g_X7_adds (σ) (((((fr + (dr * bg)) + 360) - ((fr + (dr * bg)) + 360) / 360 * 360) / σ.1 2)) cst (((2 * ((((fr + (dr * bg)) + 360) - ((fr + (dr * bg)) + 360) / 360 * 360) - (((((fr + (dr * bg)) + 360) - ((fr + (dr * bg)) + 360) / 360 * 360) / σ.1 2) * σ.1 2))) - σ.1 2)) ((f_X7_heightAt lo hi bg (nI P))) (((2 * (((((fr + (dr * bg)) + 360) - ((fr + (dr * bg)) + 360) / 360 * 360) - (((((fr + (dr * bg)) + 360) - ((fr + (dr * bg)) + 360) / 360 * 360) / σ.1 2) * σ.1 2)) + (dr * (nI j - bg)))) - σ.1 2)) ((f_X7_heightAt lo hi (nI j) (nI P))))) hM7 hF7 (q + 1) j (okW_adds hw) (by show σ.1 6 + 1 = nI (q + 1); rw [hq]; exact nI_1 q) (by rw [(remA_add (Or.inl (m0_of hj (by omega) c2)))] at hr; show q + 1 + remA (σ.1 2) fr dr m (j + 1) ≤ 600; omega) rfl (by omega) hP1 hP2 hf1 hf2 hd
      · refine x_aload_n 1 dX7_goes_64 rfl ?_
        refine x_iload 0 dX7_goes_65 rfl ?_
        refine ca_X7_95 [.int ((((fr + (dr * nI j)) + 360) - ((fr + (dr * nI j)) + 360) / 360 * 360))] [] (c_X7_isEdge (σ.1 2) ((((fr + (dr * nI j)) + 360) - ((fr + (dr * nI j)) + 360) / 360 * 360)) hM.1 (hM.i 2 (by decide)) hw.wi0) (mhK hM.1) rfl dX7_goes_67 rfl rfl ⟨(Nat.le_of_ble_eq_true rfl), (Nat.le_of_ble_eq_true rfl), (Nat.le_of_ble_eq_true rfl), (Nat.le_of_ble_eq_true rfl), (Nat.le_of_ble_eq_true rfl)⟩ (fun v T hq => ?_)
        obtain ⟨rfl, rfl⟩ := hq
        refine x_if_ne 76 dX7_goes_70 (by decide) (fun c8 => ?_) (fun c8 => ?_)
        · refine x_iload_n 3 dX7_goes_76 rfl ?_
          refine x_iload 8 dX7_goes_77 rfl ?_
          refine x_iload 10 dX7_goes_79 rfl ?_
          refine x_imul dX7_goes_81 ?_
          refine x_iadd dX7_goes_82 ?_
          refine x_sipush 360 dX7_goes_83 (by decide) ?_
          refine x_iadd dX7_goes_86 ?_
          refine x_sipush 360 dX7_goes_87 (by decide) ?_
          refine x_irem dX7_goes_90 (by decide) ?_
          refine x_istore [(11, .int ((((fr + (dr * bg)) + 360) - ((fr + (dr * bg)) + 360) / 360 * 360))), (10, .int ((((fr + (dr * nI j)) + 360) - ((fr + (dr * nI j)) + 360) / 360 * 360))), (0, .ref (o)), (1, .int (cst)), (2, .int (fr)), (3, .int (lo)), (4, .int (hi)), (5, .int (by_)), (6, .int (nI P)), (7, .int (dr)), (9, .int (nI j)), (8, .int (bg))] dX7_goes_91 (Nat.le_of_ble_eq_true rfl) rfl ?_
          refine x_iload 9 dX7_goes_93 rfl ?_
          refine x_at 95 rfl ?_
          refine x_if_le 108 dX7_goes_95 (by decide) (fun c9 => ?_) (fun c9 => ?_)
          · refine x_iload 0 dX7_goes_108 rfl ?_
            refine x_sipush 359 dX7_goes_110 (by decide) ?_
            refine x_iadd dX7_goes_113 ?_
            refine x_sipush 360 dX7_goes_114 (by decide) ?_
            refine x_irem dX7_goes_117 (by decide) ?_
            refine x_aload_n 2 dX7_goes_118 rfl ?_
            refine gf_X7_66 rfl dX7_goes_119 (mhK hM.1) ?_
            rw [show gI (S) 258 (o) = σ.1 2 from (hM.i 2 (by decide))]
            refine x_idiv dX7_goes_122 hw.wi0 ?_
            refine x_istore [(12, .int (((((((fr + (dr * bg)) + 360) - ((fr + (dr * bg)) + 360) / 360 * 360) + 359) - ((((fr + (dr * bg)) + 360) - ((fr + (dr * bg)) + 360) / 360 * 360) + 359) / 360 * 360) / σ.1 2))), (11, .int ((((fr + (dr * bg)) + 360) - ((fr + (dr * bg)) + 360) / 360 * 360))), (10, .int ((((fr + (dr * nI j)) + 360) - ((fr + (dr * nI j)) + 360) / 360 * 360))), (0, .ref (o)), (1, .int (cst)), (2, .int (fr)), (3, .int (lo)), (4, .int (hi)), (5, .int (by_)), (6, .int (nI P)), (7, .int (dr)), (9, .int (nI j)), (8, .int (bg))] dX7_goes_123 (Nat.le_of_ble_eq_true rfl) rfl ?_
            refine x_iload 10 dX7_goes_125 rfl ?_
            refine x_if_le 143 dX7_goes_127 (by decide) (fun c10 => ?_) (fun c10 => ?_)
            · refine x_aload_n 3 dX7_goes_143 rfl ?_
              refine x_iload 1 dX7_goes_144 rfl ?_
              refine x_iload 0 dX7_goes_146 rfl ?_
              refine ca_X7_114 [.int ((((fr + (dr * bg)) + 360) - ((fr + (dr * bg)) + 360) / 360 * 360)), .int (((((((fr + (dr * bg)) + 360) - ((fr + (dr * bg)) + 360) / 360 * 360) + 359) - ((((fr + (dr * bg)) + 360) - ((fr + (dr * bg)) + 360) / 360 * 360) + 359) / 360 * 360) / σ.1 2))] [] (c_X7_sideWest (σ.1 2) ((((fr + (dr * bg)) + 360) - ((fr + (dr * bg)) + 360) / 360 * 360)) (((((((fr + (dr * bg)) + 360) - ((fr + (dr * bg)) + 360) / 360 * 360) + 359) - ((((fr + (dr * bg)) + 360) - ((fr + (dr * bg)) + 360) / 360 * 360) + 359) / 360 * 360) / σ.1 2)) hM.1 (hM.i 2 (by decide))) (mhK hM.1) rfl dX7_goes_148 rfl rfl ⟨(Nat.le_of_ble_eq_true rfl), (Nat.le_of_ble_eq_true rfl), (Nat.le_of_ble_eq_true rfl), (Nat.le_of_ble_eq_true rfl), (Nat.le_of_ble_eq_true rfl)⟩ (fun v T hq => ?_)
              obtain ⟨rfl, rfl⟩ := hq
              refine x_istore [(13, .int ((f_X7_sideWest (σ.1 2) ((((fr + (dr * bg)) + 360) - ((fr + (dr * bg)) + 360) / 360 * 360)) (((((((fr + (dr * bg)) + 360) - ((fr + (dr * bg)) + 360) / 360 * 360) + 359) - ((((fr + (dr * bg)) + 360) - ((fr + (dr * bg)) + 360) / 360 * 360) + 359) / 360 * 360) / σ.1 2))))), (12, .int (((((((fr + (dr * bg)) + 360) - ((fr + (dr * bg)) + 360) / 360 * 360) + 359) - ((((fr + (dr * bg)) + 360) - ((fr + (dr * bg)) + 360) / 360 * 360) + 359) / 360 * 360) / σ.1 2))), (11, .int ((((fr + (dr * bg)) + 360) - ((fr + (dr * bg)) + 360) / 360 * 360))), (10, .int ((((fr + (dr * nI j)) + 360) - ((fr + (dr * nI j)) + 360) / 360 * 360))), (0, .ref (o)), (1, .int (cst)), (2, .int (fr)), (3, .int (lo)), (4, .int (hi)), (5, .int (by_)), (6, .int (nI P)), (7, .int (dr)), (9, .int (nI j)), (8, .int (bg))] dX7_goes_151 (Nat.le_of_ble_eq_true rfl) rfl ?_
              refine x_iload 0 dX7_goes_153 rfl ?_
              refine x_iload 11 dX7_goes_155 rfl ?_
              refine x_iload 12 dX7_goes_157 rfl ?_
              refine x_iload 13 dX7_goes_159 rfl ?_
              refine x_isub dX7_goes_161 ?_
              refine x_imul dX7_goes_162 ?_
              refine x_at 163 rfl ?_
              refine x_iadd dX7_goes_163 ?_
              refine x_istore [(14, .int (((f_X7_sideWest (σ.1 2) ((((fr + (dr * bg)) + 360) - ((fr + (dr * bg)) + 360) / 360 * 360)) (((((((fr + (dr * bg)) + 360) - ((fr + (dr * bg)) + 360) / 360 * 360) + 359) - ((((fr + (dr * bg)) + 360) - ((fr + (dr * bg)) + 360) / 360 * 360) + 359) / 360 * 360) / σ.1 2))) + (dr * (nI j - bg))))), (13, .int ((f_X7_sideWest (σ.1 2) ((((fr + (dr * bg)) + 360) - ((fr + (dr * bg)) + 360) / 360 * 360)) (((((((fr + (dr * bg)) + 360) - ((fr + (dr * bg)) + 360) / 360 * 360) + 359) - ((((fr + (dr * bg)) + 360) - ((fr + (dr * bg)) + 360) / 360 * 360) + 359) / 360 * 360) / σ.1 2))))), (12, .int (((((((fr + (dr * bg)) + 360) - ((fr + (dr * bg)) + 360) / 360 * 360) + 359) - ((((fr + (dr * bg)) + 360) - ((fr + (dr * bg)) + 360) / 360 * 360) + 359) / 360 * 360) / σ.1 2))), (11, .int ((((fr + (dr * bg)) + 360) - ((fr + (dr * bg)) + 360) / 360 * 360))), (10, .int ((((fr + (dr * nI j)) + 360) - ((fr + (dr * nI j)) + 360) / 360 * 360))), (0, .ref (o)), (1, .int (cst)), (2, .int (fr)), (3, .int (lo)), (4, .int (hi)), (5, .int (by_)), (6, .int (nI P)), (7, .int (dr)), (9, .int (nI j)), (8, .int (bg))] dX7_goes_164 (Nat.le_of_ble_eq_true rfl) rfl ?_
              refine x_aload_n 5 dX7_goes_166 rfl ?_
              refine x_iload 2 dX7_goes_167 rfl ?_
              refine x_iload_n 6 dX7_goes_169 rfl ?_
              refine x_iconst 2 dX7_goes_170 (by decide) ?_
              refine x_iload 1 dX7_goes_171 rfl ?_
              refine x_imul dX7_goes_173 ?_
              refine x_aload_n 5 dX7_goes_174 rfl ?_
              refine gf_X7_66 rfl dX7_goes_175 (mhK hM.1) ?_
              rw [show gI (S) 258 (o) = σ.1 2 from (hM.i 2 (by decide))]
              refine x_isub dX7_goes_178 ?_
              refine x_iload_n 8 dX7_goes_179 rfl ?_
              refine x_at 180 rfl ?_
              refine x_iload 9 dX7_goes_180 rfl ?_
              refine x_iload 14 dX7_goes_182 rfl ?_
              refine x_iload 11 dX7_goes_184 rfl ?_
              refine ca_X7_117 [.int (lo), .int (hi), .int (bg), .int (nI P)] [.int (((2 * (f_X7_sideWest (σ.1 2) ((((fr + (dr * bg)) + 360) - ((fr + (dr * bg)) + 360) / 360 * 360)) (((((((fr + (dr * bg)) + 360) - ((fr + (dr * bg)) + 360) / 360 * 360) + 359) - ((((fr + (dr * bg)) + 360) - ((fr + (dr * bg)) + 360) / 360 * 360) + 359) / 360 * 360) / σ.1 2)))) - σ.1 2)), .int (cst), .int (((((((fr + (dr * bg)) + 360) - ((fr + (dr * bg)) + 360) / 360 * 360) + 359) - ((((fr + (dr * bg)) + 360) - ((fr + (dr * bg)) + 360) / 360 * 360) + 359) / 360 * 360) / σ.1 2)), .ref (o)] (c_X7_heightAt (lo) (hi) (bg) (nI P) (hst_ne hP1 hP2)) rfl dX7_goes_186 rfl rfl ⟨(Nat.le_of_ble_eq_true rfl), (Nat.le_of_ble_eq_true rfl), (Nat.le_of_ble_eq_true rfl), (Nat.le_of_ble_eq_true rfl), (Nat.le_of_ble_eq_true rfl)⟩ (fun v T hq => ?_)
              obtain ⟨rfl, rfl⟩ := hq
              refine x_iconst 2 dX7_goes_189 (by decide) ?_
              refine x_iload 0 dX7_goes_190 rfl ?_
              refine x_imul dX7_goes_192 ?_
              refine x_aload_n 5 dX7_goes_193 rfl ?_
              refine gf_X7_66 rfl dX7_goes_194 (mhK hM.1) ?_
              rw [show gI (S) 258 (o) = σ.1 2 from (hM.i 2 (by decide))]
              refine x_isub dX7_goes_197 ?_
              refine x_iload_n 8 dX7_goes_198 rfl ?_
              refine x_iload 9 dX7_goes_199 rfl ?_
              refine x_at 201 rfl ?_
              refine x_iload 13 dX7_goes_201 rfl ?_
              refine x_iload 11 dX7_goes_203 rfl ?_
              refine ca_X7_117 [.int (lo), .int (hi), .int (nI j), .int (nI P)] [.int (((2 * ((f_X7_sideWest (σ.1 2) ((((fr + (dr * bg)) + 360) - ((fr + (dr * bg)) + 360) / 360 * 360)) (((((((fr + (dr * bg)) + 360) - ((fr + (dr * bg)) + 360) / 360 * 360) + 359) - ((((fr + (dr * bg)) + 360) - ((fr + (dr * bg)) + 360) / 360 * 360) + 359) / 360 * 360) / σ.1 2))) + (dr * (nI j - bg)))) - σ.1 2)), .int ((f_X7_heightAt lo hi bg (nI P))), .int (((2 * (f_X7_sideWest (σ.1 2) ((((fr + (dr * bg)) + 360) - ((fr + (dr * bg)) + 360) / 360 * 360)) (((((((fr + (dr * bg)) + 360) - ((fr + (dr * bg)) + 360) / 360 * 360) + 359) - ((((fr + (dr * bg)) + 360) - ((fr + (dr * bg)) + 360) / 360 * 360) + 359) / 360 * 360) / σ.1 2)))) - σ.1 2)), .int (cst), .int (((((((fr + (dr * bg)) + 360) - ((fr + (dr * bg)) + 360) / 360 * 360) + 359) - ((((fr + (dr * bg)) + 360) - ((fr + (dr * bg)) + 360) / 360 * 360) + 359) / 360 * 360) / σ.1 2)), .ref (o)] (c_X7_heightAt (lo) (hi) (nI j) (nI P) (hst_ne hP1 hP2)) rfl dX7_goes_205 rfl rfl ⟨(Nat.le_of_ble_eq_true rfl), (Nat.le_of_ble_eq_true rfl), (Nat.le_of_ble_eq_true rfl), (Nat.le_of_ble_eq_true rfl), (Nat.le_of_ble_eq_true rfl)⟩ (fun v T hq => ?_)
              obtain ⟨rfl, rfl⟩ := hq
              refine ca_X7_110 [.int (((((((fr + (dr * bg)) + 360) - ((fr + (dr * bg)) + 360) / 360 * 360) + 359) - ((((fr + (dr * bg)) + 360) - ((fr + (dr * bg)) + 360) / 360 * 360) + 359) / 360 * 360) / σ.1 2)), .int (cst), .int (((2 * (f_X7_sideWest (σ.1 2) ((((fr + (dr * bg)) + 360) - ((fr + (dr * bg)) + 360) / 360 * 360)) (((((((fr + (dr * bg)) + 360) - ((fr + (dr * bg)) + 360) / 360 * 360) + 359) - ((((fr + (dr * bg)) + 360) - ((fr + (dr * bg)) + 360) / 360 * 360) + 359) / 360 * 360) / σ.1 2)))) - σ.1 2)), .int ((f_X7_heightAt lo hi bg (nI P))), .int (((2 * ((f_X7_sideWest (σ.1 2) ((((fr + (dr * bg)) + 360) - ((fr + (dr * bg)) + 360) / 360 * 360)) (((((((fr + (dr * bg)) + 360) - ((fr + (dr * bg)) + 360) / 360 * 360) + 359) - ((((fr + (dr * bg)) + 360) - ((fr + (dr * bg)) + 360) / 360 * 360) + 359) / 360 * 360) / σ.1 2))) + (dr * (nI j - bg)))) - σ.1 2)), .int ((f_X7_heightAt lo hi (nI j) (nI P)))] [] (c_X7_adds (σ) (((((((fr + (dr * bg)) + 360) - ((fr + (dr * bg)) + 360) / 360 * 360) + 359) - ((((fr + (dr * bg)) + 360) - ((fr + (dr * bg)) + 360) / 360 * 360) + 359) / 360 * 360) / σ.1 2)) (cst) (((2 * (f_X7_sideWest (σ.1 2) ((((fr + (dr * bg)) + 360) - ((fr + (dr * bg)) + 360) / 360 * 360)) (((((((fr + (dr * bg)) + 360) - ((fr + (dr * bg)) + 360) / 360 * 360) + 359) - ((((fr + (dr * bg)) + 360) - ((fr + (dr * bg)) + 360) / 360 * 360) + 359) / 360 * 360) / σ.1 2)))) - σ.1 2)) ((f_X7_heightAt lo hi bg (nI P))) (((2 * ((f_X7_sideWest (σ.1 2) ((((fr + (dr * bg)) + 360) - ((fr + (dr * bg)) + 360) / 360 * 360)) (((((((fr + (dr * bg)) + 360) - ((fr + (dr * bg)) + 360) / 360 * 360) + 359) - ((((fr + (dr * bg)) + 360) - ((fr + (dr * bg)) + 360) / 360 * 360) + 359) / 360 * 360) / σ.1 2))) + (dr * (nI j - bg)))) - σ.1 2)) ((f_X7_heightAt lo hi (nI j) (nI P))) hM (by rw [hq]; exact vp_in_nI (by rw [(remA_add (Or.inr c8))] at hr; omega) (by decide)) (by rw [hb]; exact west_in hw (atE_rng hf1 hf2 hd (show b < 181 by omega)).1 (atE_rng hf1 hf2 hd (show b < 181 by omega)).2)) (mhK hM.1) rfl dX7_goes_208 rfl rfl ⟨(Nat.le_of_ble_eq_true rfl), (Nat.le_of_ble_eq_true rfl), (Nat.le_of_ble_eq_true rfl), (Nat.le_of_ble_eq_true rfl), (Nat.le_of_ble_eq_true rfl)⟩ (fun v T11 hq => ?_)
              obtain ⟨rfl, hM11, hF11⟩ := hq
              have hF11 := FM.tr hF hF11
              refine x_iload 13 dX7_goes_211 rfl ?_
              refine x_istore [(8, .int (nI j)), (14, .int (((f_X7_sideWest (σ.1 2) ((((fr + (dr * bg)) + 360) - ((fr + (dr * bg)) + 360) / 360 * 360)) (((((((fr + (dr * bg)) + 360) - ((fr + (dr * bg)) + 360) / 360 * 360) + 359) - ((((fr + (dr * bg)) + 360) - ((fr + (dr * bg)) + 360) / 360 * 360) + 359) / 360 * 360) / σ.1 2))) + (dr * (nI j - bg))))), (13, .int ((f_X7_sideWest (σ.1 2) ((((fr + (dr * bg)) + 360) - ((fr + (dr * bg)) + 360) / 360 * 360)) (((((((fr + (dr * bg)) + 360) - ((fr + (dr * bg)) + 360) / 360 * 360) + 359) - ((((fr + (dr * bg)) + 360) - ((fr + (dr * bg)) + 360) / 360 * 360) + 359) / 360 * 360) / σ.1 2))))), (12, .int (((((((fr + (dr * bg)) + 360) - ((fr + (dr * bg)) + 360) / 360 * 360) + 359) - ((((fr + (dr * bg)) + 360) - ((fr + (dr * bg)) + 360) / 360 * 360) + 359) / 360 * 360) / σ.1 2))), (11, .int ((((fr + (dr * bg)) + 360) - ((fr + (dr * bg)) + 360) / 360 * 360))), (10, .int ((((fr + (dr * nI j)) + 360) - ((fr + (dr * nI j)) + 360) / 360 * 360))), (0, .ref (o)), (1, .int (cst)), (2, .int (fr)), (3, .int (lo)), (4, .int (hi)), (5, .int (by_)), (6, .int (nI P)), (7, .int (dr)), (9, .int (nI j))] dX7_goes_213 (Nat.le_of_ble_eq_true rfl) rfl ?_
              refine x_iinc 14 (nI j + 1) [(9, .int ((nI j + 1))), (8, .int (nI j)), (14, .int (((f_X7_sideWest (σ.1 2) ((((fr + (dr * bg)) + 360) - ((fr + (dr * bg)) + 360) / 360 * 360)) (((((((fr + (dr * bg)) + 360) - ((fr + (dr * bg)) + 360) / 360 * 360) + 359) - ((((fr + (dr * bg)) + 360) - ((fr + (dr * bg)) + 360) / 360 * 360) + 359) / 360 * 360) / σ.1 2))) + (dr * (nI j - bg))))), (13, .int ((f_X7_sideWest (σ.1 2) ((((fr + (dr * bg)) + 360) - ((fr + (dr * bg)) + 360) / 360 * 360)) (((((((fr + (dr * bg)) + 360) - ((fr + (dr * bg)) + 360) / 360 * 360) + 359) - ((((fr + (dr * bg)) + 360) - ((fr + (dr * bg)) + 360) / 360 * 360) + 359) / 360 * 360) / σ.1 2))))), (12, .int (((((((fr + (dr * bg)) + 360) - ((fr + (dr * bg)) + 360) / 360 * 360) + 359) - ((((fr + (dr * bg)) + 360) - ((fr + (dr * bg)) + 360) / 360 * 360) + 359) / 360 * 360) / σ.1 2))), (11, .int ((((fr + (dr * bg)) + 360) - ((fr + (dr * bg)) + 360) / 360 * 360))), (10, .int ((((fr + (dr * nI j)) + 360) - ((fr + (dr * nI j)) + 360) / 360 * 360))), (0, .ref (o)), (1, .int (cst)), (2, .int (fr)), (3, .int (lo)), (4, .int (hi)), (5, .int (by_)), (6, .int (nI P)), (7, .int (dr))] dX7_goes_215 rfl rfl (Nat.le_of_ble_eq_true rfl) rfl ?_
              refine x_goto 33 dX7_goes_218 (by decide) ?_
              refine x_lv [(0, .ref (o)), (1, .int (cst)), (2, .int (fr)), (3, .int (lo)), (4, .int (hi)), (5, .int (by_)), (6, .int (nI P)), (7, .int (dr)), (9, .int (nI (j + 1))), (8, .int (nI j))] [7, 8, 9, 10, 11, 12, 13, 14, 0, 1] (by rw [← nI_1 j]; rfl) ?_
              rw [show lp_X7_goes  cst fr lo hi by_ dr P (m + 1) j σ bg = lp_X7_goes  cst fr lo hi by_ dr P m (j + 1) ((g_X7_adds (σ) (((((((fr + (dr * bg)) + 360) - ((fr + (dr * bg)) + 360) / 360 * 360) + 359) - ((((fr + (dr * bg)) + 360) - ((fr + (dr * bg)) + 360) / 360 * 360) + 359) / 360 * 360) / σ.1 2)) cst (((2 * (f_X7_sideWest (σ.1 2) ((((fr + (dr * bg)) + 360) - ((fr + (dr * bg)) + 360) / 360 * 360)) (((((((fr + (dr * bg)) + 360) - ((fr + (dr * bg)) + 360) / 360 * 360) + 359) - ((((fr + (dr * bg)) + 360) - ((fr + (dr * bg)) + 360) / 360 * 360) + 359) / 360 * 360) / σ.1 2)))) - σ.1 2)) ((f_X7_heightAt lo hi bg (nI P))) (((2 * ((f_X7_sideWest (σ.1 2) ((((fr + (dr * bg)) + 360) - ((fr + (dr * bg)) + 360) / 360 * 360)) (((((((fr + (dr * bg)) + 360) - ((fr + (dr * bg)) + 360) / 360 * 360) + 359) - ((((fr + (dr * bg)) + 360) - ((fr + (dr * bg)) + 360) / 360 * 360) + 359) / 360 * 360) / σ.1 2))) + (dr * (nI j - bg)))) - σ.1 2)) ((f_X7_heightAt lo hi (nI j) (nI P))))) (nI j) from by rw [lp_X7_goes, if_neg c2, if_neg c8, if_pos c9]]
              exact ih (j + 1) (nI j) (by omega) T11 ((g_X7_adds (σ) (((((((fr + (dr * bg)) + 360) - ((fr + (dr * bg)) + 360) / 360 * 360) + 359) - ((((fr + (dr * bg)) + 360) - ((fr + (dr * bg)) + 360) / 360 * 360) + 359) / 360 * 360) / σ.1 2)) cst (((2 * (f_X7_sideWest (σ.1 2) ((((fr + (dr * bg)) + 360) - ((fr + (dr * bg)) + 360) / 360 * 360)) (((((((fr + (dr * bg)) + 360) - ((fr + (dr * bg)) + 360) / 360 * 360) + 359) - ((((fr + (dr * bg)) + 360) - ((fr + (dr * bg)) + 360) / 360 * 360) + 359) / 360 * 360) / σ.1 2)))) - σ.1 2)) ((f_X7_heightAt lo hi bg (nI P))) (((2 * ((f_X7_sideWest (σ.1 2) ((((fr + (dr * bg)) + 360) - ((fr + (dr * bg)) + 360) / 360 * 360)) (((((((fr + (dr * bg)) + 360) - ((fr + (dr * bg)) + 360) / 360 * 360) + 359) - ((((fr + (dr * bg)) + 360) - ((fr + (dr * bg)) + 360) / 360 * 360) + 359) / 360 * 360) / σ.1 2))) + (dr * (nI j - bg)))) - σ.1 2)) ((f_X7_heightAt lo hi (nI j) (nI P))))) hM11 hF11 (q + 1) j (okW_adds hw) (by show σ.1 6 + 1 = nI (q + 1); rw [hq]; exact nI_1 q) (by rw [(remA_add (Or.inr c8))] at hr; show q + 1 + remA (σ.1 2) fr dr m (j + 1) ≤ 600; omega) rfl (by omega) hP1 hP2 hf1 hf2 hd
            · exact absurd c9 c10
          · refine x_iload 0 dX7_goes_98 rfl ?_
            refine x_aload_n 2 dX7_goes_100 rfl ?_
            refine gf_X7_66 rfl dX7_goes_101 (mhK hM.1) ?_
            rw [show gI (S) 258 (o) = σ.1 2 from (hM.i 2 (by decide))]
            refine x_idiv dX7_goes_104 hw.wi0 ?_
            refine x_goto 123 dX7_goes_105 (by decide) ?_
            refine x_istore [(12, .int (((((fr + (dr * bg)) + 360) - ((fr + (dr * bg)) + 360) / 360 * 360) / σ.1 2))), (11, .int ((((fr + (dr * bg)) + 360) - ((fr + (dr * bg)) + 360) / 360 * 360))), (10, .int ((((fr + (dr * nI j)) + 360) - ((fr + (dr * nI j)) + 360) / 360 * 360))), (0, .ref (o)), (1, .int (cst)), (2, .int (fr)), (3, .int (lo)), (4, .int (hi)), (5, .int (by_)), (6, .int (nI P)), (7, .int (dr)), (9, .int (nI j)), (8, .int (bg))] dX7_goes_123 (Nat.le_of_ble_eq_true rfl) rfl ?_
            refine x_iload 10 dX7_goes_125 rfl ?_
            refine x_if_le 143 dX7_goes_127 (by decide) (fun c12 => ?_) (fun c12 => ?_)
            · exact absurd c12 c9
            · refine x_iload 1 dX7_goes_130 rfl ?_
              refine x_iload 0 dX7_goes_132 rfl ?_
              refine x_aload_n 3 dX7_goes_134 rfl ?_
              refine gf_X7_66 rfl dX7_goes_135 (mhK hM.1) ?_
              rw [show gI (S) 258 (o) = σ.1 2 from (hM.i 2 (by decide))]
              refine x_imul dX7_goes_138 ?_
              refine x_isub dX7_goes_139 ?_
              refine x_goto 151 dX7_goes_140 (by decide) ?_
              refine x_istore [(13, .int (((((fr + (dr * bg)) + 360) - ((fr + (dr * bg)) + 360) / 360 * 360) - (((((fr + (dr * bg)) + 360) - ((fr + (dr * bg)) + 360) / 360 * 360) / σ.1 2) * σ.1 2)))), (12, .int (((((fr + (dr * bg)) + 360) - ((fr + (dr * bg)) + 360) / 360 * 360) / σ.1 2))), (11, .int ((((fr + (dr * bg)) + 360) - ((fr + (dr * bg)) + 360) / 360 * 360))), (10, .int ((((fr + (dr * nI j)) + 360) - ((fr + (dr * nI j)) + 360) / 360 * 360))), (0, .ref (o)), (1, .int (cst)), (2, .int (fr)), (3, .int (lo)), (4, .int (hi)), (5, .int (by_)), (6, .int (nI P)), (7, .int (dr)), (9, .int (nI j)), (8, .int (bg))] dX7_goes_151 (Nat.le_of_ble_eq_true rfl) rfl ?_
              refine x_iload 0 dX7_goes_153 rfl ?_
              refine x_iload 11 dX7_goes_155 rfl ?_
              refine x_iload 12 dX7_goes_157 rfl ?_
              refine x_iload 13 dX7_goes_159 rfl ?_
              refine x_isub dX7_goes_161 ?_
              refine x_imul dX7_goes_162 ?_
              refine x_iadd dX7_goes_163 ?_
              refine x_istore [(14, .int ((((((fr + (dr * bg)) + 360) - ((fr + (dr * bg)) + 360) / 360 * 360) - (((((fr + (dr * bg)) + 360) - ((fr + (dr * bg)) + 360) / 360 * 360) / σ.1 2) * σ.1 2)) + (dr * (nI j - bg))))), (13, .int (((((fr + (dr * bg)) + 360) - ((fr + (dr * bg)) + 360) / 360 * 360) - (((((fr + (dr * bg)) + 360) - ((fr + (dr * bg)) + 360) / 360 * 360) / σ.1 2) * σ.1 2)))), (12, .int (((((fr + (dr * bg)) + 360) - ((fr + (dr * bg)) + 360) / 360 * 360) / σ.1 2))), (11, .int ((((fr + (dr * bg)) + 360) - ((fr + (dr * bg)) + 360) / 360 * 360))), (10, .int ((((fr + (dr * nI j)) + 360) - ((fr + (dr * nI j)) + 360) / 360 * 360))), (0, .ref (o)), (1, .int (cst)), (2, .int (fr)), (3, .int (lo)), (4, .int (hi)), (5, .int (by_)), (6, .int (nI P)), (7, .int (dr)), (9, .int (nI j)), (8, .int (bg))] dX7_goes_164 (Nat.le_of_ble_eq_true rfl) rfl ?_
              refine x_aload_n 5 dX7_goes_166 rfl ?_
              refine x_iload 2 dX7_goes_167 rfl ?_
              refine x_at 169 rfl ?_
              refine x_iload_n 6 dX7_goes_169 rfl ?_
              refine x_iconst 2 dX7_goes_170 (by decide) ?_
              refine x_iload 1 dX7_goes_171 rfl ?_
              refine x_imul dX7_goes_173 ?_
              refine x_aload_n 5 dX7_goes_174 rfl ?_
              refine gf_X7_66 rfl dX7_goes_175 (mhK hM.1) ?_
              rw [show gI (S) 258 (o) = σ.1 2 from (hM.i 2 (by decide))]
              refine x_isub dX7_goes_178 ?_
              refine x_iload_n 8 dX7_goes_179 rfl ?_
              refine x_iload 9 dX7_goes_180 rfl ?_
              refine x_iload 14 dX7_goes_182 rfl ?_
              refine x_iload 11 dX7_goes_184 rfl ?_
              refine ca_X7_117 [.int (lo), .int (hi), .int (bg), .int (nI P)] [.int (((2 * ((((fr + (dr * bg)) + 360) - ((fr + (dr * bg)) + 360) / 360 * 360) - (((((fr + (dr * bg)) + 360) - ((fr + (dr * bg)) + 360) / 360 * 360) / σ.1 2) * σ.1 2))) - σ.1 2)), .int (cst), .int (((((fr + (dr * bg)) + 360) - ((fr + (dr * bg)) + 360) / 360 * 360) / σ.1 2)), .ref (o)] (c_X7_heightAt (lo) (hi) (bg) (nI P) (hst_ne hP1 hP2)) rfl dX7_goes_186 rfl rfl ⟨(Nat.le_of_ble_eq_true rfl), (Nat.le_of_ble_eq_true rfl), (Nat.le_of_ble_eq_true rfl), (Nat.le_of_ble_eq_true rfl), (Nat.le_of_ble_eq_true rfl)⟩ (fun v T hq => ?_)
              obtain ⟨rfl, rfl⟩ := hq
              refine x_at 189 rfl ?_
              refine x_iconst 2 dX7_goes_189 (by decide) ?_
              refine x_iload 0 dX7_goes_190 rfl ?_
              refine x_imul dX7_goes_192 ?_
              refine x_aload_n 5 dX7_goes_193 rfl ?_
              refine gf_X7_66 rfl dX7_goes_194 (mhK hM.1) ?_
              rw [show gI (S) 258 (o) = σ.1 2 from (hM.i 2 (by decide))]
              refine x_isub dX7_goes_197 ?_
              refine x_iload_n 8 dX7_goes_198 rfl ?_
              refine x_iload 9 dX7_goes_199 rfl ?_
              refine x_iload 13 dX7_goes_201 rfl ?_
              refine x_iload 11 dX7_goes_203 rfl ?_
              refine ca_X7_117 [.int (lo), .int (hi), .int (nI j), .int (nI P)] [.int (((2 * (((((fr + (dr * bg)) + 360) - ((fr + (dr * bg)) + 360) / 360 * 360) - (((((fr + (dr * bg)) + 360) - ((fr + (dr * bg)) + 360) / 360 * 360) / σ.1 2) * σ.1 2)) + (dr * (nI j - bg)))) - σ.1 2)), .int ((f_X7_heightAt lo hi bg (nI P))), .int (((2 * ((((fr + (dr * bg)) + 360) - ((fr + (dr * bg)) + 360) / 360 * 360) - (((((fr + (dr * bg)) + 360) - ((fr + (dr * bg)) + 360) / 360 * 360) / σ.1 2) * σ.1 2))) - σ.1 2)), .int (cst), .int (((((fr + (dr * bg)) + 360) - ((fr + (dr * bg)) + 360) / 360 * 360) / σ.1 2)), .ref (o)] (c_X7_heightAt (lo) (hi) (nI j) (nI P) (hst_ne hP1 hP2)) rfl dX7_goes_205 rfl rfl ⟨(Nat.le_of_ble_eq_true rfl), (Nat.le_of_ble_eq_true rfl), (Nat.le_of_ble_eq_true rfl), (Nat.le_of_ble_eq_true rfl), (Nat.le_of_ble_eq_true rfl)⟩ (fun v T hq => ?_)
              obtain ⟨rfl, rfl⟩ := hq
              refine ca_X7_110 [.int (((((fr + (dr * bg)) + 360) - ((fr + (dr * bg)) + 360) / 360 * 360) / σ.1 2)), .int (cst), .int (((2 * ((((fr + (dr * bg)) + 360) - ((fr + (dr * bg)) + 360) / 360 * 360) - (((((fr + (dr * bg)) + 360) - ((fr + (dr * bg)) + 360) / 360 * 360) / σ.1 2) * σ.1 2))) - σ.1 2)), .int ((f_X7_heightAt lo hi bg (nI P))), .int (((2 * (((((fr + (dr * bg)) + 360) - ((fr + (dr * bg)) + 360) / 360 * 360) - (((((fr + (dr * bg)) + 360) - ((fr + (dr * bg)) + 360) / 360 * 360) / σ.1 2) * σ.1 2)) + (dr * (nI j - bg)))) - σ.1 2)), .int ((f_X7_heightAt lo hi (nI j) (nI P)))] [] (c_X7_adds (σ) (((((fr + (dr * bg)) + 360) - ((fr + (dr * bg)) + 360) / 360 * 360) / σ.1 2)) (cst) (((2 * ((((fr + (dr * bg)) + 360) - ((fr + (dr * bg)) + 360) / 360 * 360) - (((((fr + (dr * bg)) + 360) - ((fr + (dr * bg)) + 360) / 360 * 360) / σ.1 2) * σ.1 2))) - σ.1 2)) ((f_X7_heightAt lo hi bg (nI P))) (((2 * (((((fr + (dr * bg)) + 360) - ((fr + (dr * bg)) + 360) / 360 * 360) - (((((fr + (dr * bg)) + 360) - ((fr + (dr * bg)) + 360) / 360 * 360) / σ.1 2) * σ.1 2)) + (dr * (nI j - bg)))) - σ.1 2)) ((f_X7_heightAt lo hi (nI j) (nI P))) hM (by rw [hq]; exact vp_in_nI (by rw [(remA_add (Or.inr c8))] at hr; omega) (by decide)) (by rw [hb]; exact hw.lw (atE_rng hf1 hf2 hd (show b < 181 by omega)).1 (atE_rng hf1 hf2 hd (show b < 181 by omega)).2)) (mhK hM.1) rfl dX7_goes_208 rfl rfl ⟨(Nat.le_of_ble_eq_true rfl), (Nat.le_of_ble_eq_true rfl), (Nat.le_of_ble_eq_true rfl), (Nat.le_of_ble_eq_true rfl), (Nat.le_of_ble_eq_true rfl)⟩ (fun v T13 hq => ?_)
              obtain ⟨rfl, hM13, hF13⟩ := hq
              have hF13 := FM.tr hF hF13
              refine x_at 211 rfl ?_
              refine x_iload 13 dX7_goes_211 rfl ?_
              refine x_istore [(8, .int (nI j)), (14, .int ((((((fr + (dr * bg)) + 360) - ((fr + (dr * bg)) + 360) / 360 * 360) - (((((fr + (dr * bg)) + 360) - ((fr + (dr * bg)) + 360) / 360 * 360) / σ.1 2) * σ.1 2)) + (dr * (nI j - bg))))), (13, .int (((((fr + (dr * bg)) + 360) - ((fr + (dr * bg)) + 360) / 360 * 360) - (((((fr + (dr * bg)) + 360) - ((fr + (dr * bg)) + 360) / 360 * 360) / σ.1 2) * σ.1 2)))), (12, .int (((((fr + (dr * bg)) + 360) - ((fr + (dr * bg)) + 360) / 360 * 360) / σ.1 2))), (11, .int ((((fr + (dr * bg)) + 360) - ((fr + (dr * bg)) + 360) / 360 * 360))), (10, .int ((((fr + (dr * nI j)) + 360) - ((fr + (dr * nI j)) + 360) / 360 * 360))), (0, .ref (o)), (1, .int (cst)), (2, .int (fr)), (3, .int (lo)), (4, .int (hi)), (5, .int (by_)), (6, .int (nI P)), (7, .int (dr)), (9, .int (nI j))] dX7_goes_213 (Nat.le_of_ble_eq_true rfl) rfl ?_
              refine x_iinc 14 (nI j + 1) [(9, .int ((nI j + 1))), (8, .int (nI j)), (14, .int ((((((fr + (dr * bg)) + 360) - ((fr + (dr * bg)) + 360) / 360 * 360) - (((((fr + (dr * bg)) + 360) - ((fr + (dr * bg)) + 360) / 360 * 360) / σ.1 2) * σ.1 2)) + (dr * (nI j - bg))))), (13, .int (((((fr + (dr * bg)) + 360) - ((fr + (dr * bg)) + 360) / 360 * 360) - (((((fr + (dr * bg)) + 360) - ((fr + (dr * bg)) + 360) / 360 * 360) / σ.1 2) * σ.1 2)))), (12, .int (((((fr + (dr * bg)) + 360) - ((fr + (dr * bg)) + 360) / 360 * 360) / σ.1 2))), (11, .int ((((fr + (dr * bg)) + 360) - ((fr + (dr * bg)) + 360) / 360 * 360))), (10, .int ((((fr + (dr * nI j)) + 360) - ((fr + (dr * nI j)) + 360) / 360 * 360))), (0, .ref (o)), (1, .int (cst)), (2, .int (fr)), (3, .int (lo)), (4, .int (hi)), (5, .int (by_)), (6, .int (nI P)), (7, .int (dr))] dX7_goes_215 rfl rfl (Nat.le_of_ble_eq_true rfl) rfl ?_
              refine x_goto 33 dX7_goes_218 (by decide) ?_
              refine x_lv [(0, .ref (o)), (1, .int (cst)), (2, .int (fr)), (3, .int (lo)), (4, .int (hi)), (5, .int (by_)), (6, .int (nI P)), (7, .int (dr)), (9, .int (nI (j + 1))), (8, .int (nI j))] [7, 8, 9, 10, 11, 12, 13, 14, 0, 1] (by rw [← nI_1 j]; rfl) ?_
              rw [show lp_X7_goes  cst fr lo hi by_ dr P (m + 1) j σ bg = lp_X7_goes  cst fr lo hi by_ dr P m (j + 1) ((g_X7_adds (σ) (((((fr + (dr * bg)) + 360) - ((fr + (dr * bg)) + 360) / 360 * 360) / σ.1 2)) cst (((2 * ((((fr + (dr * bg)) + 360) - ((fr + (dr * bg)) + 360) / 360 * 360) - (((((fr + (dr * bg)) + 360) - ((fr + (dr * bg)) + 360) / 360 * 360) / σ.1 2) * σ.1 2))) - σ.1 2)) ((f_X7_heightAt lo hi bg (nI P))) (((2 * (((((fr + (dr * bg)) + 360) - ((fr + (dr * bg)) + 360) / 360 * 360) - (((((fr + (dr * bg)) + 360) - ((fr + (dr * bg)) + 360) / 360 * 360) / σ.1 2) * σ.1 2)) + (dr * (nI j - bg)))) - σ.1 2)) ((f_X7_heightAt lo hi (nI j) (nI P))))) (nI j) from by rw [lp_X7_goes, if_neg c2, if_neg c8, if_neg c9]]
              exact ih (j + 1) (nI j) (by omega) T13 ((g_X7_adds (σ) (((((fr + (dr * bg)) + 360) - ((fr + (dr * bg)) + 360) / 360 * 360) / σ.1 2)) cst (((2 * ((((fr + (dr * bg)) + 360) - ((fr + (dr * bg)) + 360) / 360 * 360) - (((((fr + (dr * bg)) + 360) - ((fr + (dr * bg)) + 360) / 360 * 360) / σ.1 2) * σ.1 2))) - σ.1 2)) ((f_X7_heightAt lo hi bg (nI P))) (((2 * (((((fr + (dr * bg)) + 360) - ((fr + (dr * bg)) + 360) / 360 * 360) - (((((fr + (dr * bg)) + 360) - ((fr + (dr * bg)) + 360) / 360 * 360) / σ.1 2) * σ.1 2)) + (dr * (nI j - bg)))) - σ.1 2)) ((f_X7_heightAt lo hi (nI j) (nI P))))) hM13 hF13 (q + 1) j (okW_adds hw) (by show σ.1 6 + 1 = nI (q + 1); rw [hq]; exact nI_1 q) (by rw [(remA_add (Or.inr c8))] at hr; show q + 1 + remA (σ.1 2) fr dr m (j + 1) ≤ 600; omega) rfl (by omega) hP1 hP2 hf1 hf2 hd
        · refine x_goto 215 dX7_goes_73 (by decide) ?_
          refine x_iinc 9 (nI j + 1) [(9, .int ((nI j + 1))), (10, .int ((((fr + (dr * nI j)) + 360) - ((fr + (dr * nI j)) + 360) / 360 * 360))), (0, .ref (o)), (1, .int (cst)), (2, .int (fr)), (3, .int (lo)), (4, .int (hi)), (5, .int (by_)), (6, .int (nI P)), (7, .int (dr)), (8, .int (bg))] dX7_goes_215 rfl rfl (Nat.le_of_ble_eq_true rfl) rfl ?_
          refine x_goto 33 dX7_goes_218 (by decide) ?_
          refine x_lv [(0, .ref (o)), (1, .int (cst)), (2, .int (fr)), (3, .int (lo)), (4, .int (hi)), (5, .int (by_)), (6, .int (nI P)), (7, .int (dr)), (9, .int (nI (j + 1))), (8, .int (bg))] [2, 3, 4, 5, 6, 7, 8, 9, 0, 10] (by rw [← nI_1 j]; rfl) ?_
          rw [show lp_X7_goes  cst fr lo hi by_ dr P (m + 1) j σ bg = lp_X7_goes  cst fr lo hi by_ dr P m (j + 1) (σ) (bg) from by rw [lp_X7_goes, if_neg c2, if_pos c8]]
          exact ih (j + 1) (bg) (by omega) S (σ) hM hF q b hw hq (by rw [remA_skip (m1_of hj (by omega) c2) c8] at hr; exact hr) hb (by omega) hP1 hP2 hf1 hf2 hd
