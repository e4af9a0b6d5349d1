def SLk (n W b L : Nat) (fr dr ft : Int32) (k : Nat) : Prop := f_X6_rest (ft + dr * nI k) (nI n) = goG (nI W) fr dr (nI (Bk W b L k)) ∧ (∃ g, g < n ∧ goG (nI W) fr dr (nI (Bk W b L k)) = nI g) ∧ f_X6_sideOf (nI W) (f_X5_longitudeAt fr dr (nI (Bk W b L k))) (goG (nI W) fr dr (nI (Bk W b L k))) = 2 * goA (nI W) fr dr (nI (Bk W b L k)) - nI W ∧ f_X6_sideOf (nI W) (f_X5_longitudeAt fr dr (nI (Bk W b L (k + 1)))) (goG (nI W) fr dr (nI (Bk W b L k))) = 2 * (goA (nI W) fr dr (nI (Bk W b L k)) + dr * (nI (Bk W b L (k + 1)) - nI (Bk W b L k))) - nI W
theorem ediv_b {A W : Int} (hA : 0 ≤ A) (hA2 : A ≤ 359) (hW : 15 ≤ W) : 0 ≤ A / W ∧ A / W ≤ 24 ∧ 0 ≤ A / W * W ∧ A / W * W ≤ A := by
  have h1 := Int.ediv_nonneg hA (show 0 ≤ W by omega)
  have h2 := Int.ediv_mul_le A (show W ≠ 0 by omega)
  have h3 := Int.mul_nonneg h1 (show 0 ≤ W by omega)
  refine ⟨h1, ?_, h3, h2⟩
  rcases Int.lt_or_le 24 (A / W) with c | c
  · have := Int.mul_le_mul (show 25 ≤ A / W by omega) hW (by decide) h1
    omega
  · exact c
theorem sl_up {n W b L k : Nat} {fr : Int32} (hNW : NWp n W) (hW : 15 ≤ W ∧ W ≤ 60) (hn : 6 ≤ n ∧ n ≤ 24) (h1 : 0 ≤ fr.toInt) (h2 : fr.toInt ≤ 359) (hb : b < W) (hbm : (b : Int) = (1 * fr.toInt) % W) (hL : 0 < L) (hL2 : L < 180) (hk : k < cmN W b L) : SLk n W b L fr 1 (f_X6_wholes (fr - 1 * nI b) (nI W)) k := by
  have hcm := cm_le (L := L) hW.1 hb hL2
  have hB := Bk_lt (by omega) hL hk
  have hS := Bk_step (by omega) hb hL hk
  have hB1 : Bk W b L (k + 1) ≤ (k + 1) * W - b := Nat.min_le_right _ _
  unfold SLk
  generalize Bk W b L (k + 1) = B1 at *
  generalize Bk W b L k = B0 at *
  rw [Int.one_mul] at hbm
  have hkw : (((k * W : Nat)) : Int) = (k : Int) * W := Int.natCast_mul k W
  have hk1 : (k + 1) * W = k * W + W := Nat.succ_mul k W
  have hk2 : ((k : Int) + 1) * W = k * W + W := by rw [Int.add_mul, Int.one_mul]
  have hp := fun (_ : Unit) => pc_up (k := k) (bg := B0) (e := B1) hNW h1 h2 (by omega) (by omega) (by rw [← hbm]; omega) (by omega) (by rw [← hbm, hk2]; omega)
  have hwI : (nI W).toInt = W := nI_toInt (by omega)
  have hnI : (nI n).toInt = n := nI_toInt (by omega)
  have hb0 : (nI B0).toInt = B0 := nI_toInt (by omega)
  have hb1 : (nI B1).toInt = B1 := nI_toInt (by omega)
  have hbI : (nI b).toInt = b := nI_toInt (by omega)
  have hkI : (nI k).toInt = k := nI_toInt (by omega)
  have hAt := atE_up (b := B0) h1 h2 (by omega)
  have hA0 : 0 ≤ (fr.toInt + B0 + 360) % 360 := by omega
  have hA1 : (fr.toInt + B0 + 360) % 360 ≤ 359 := by omega
  have hq := ediv_b (W := (W : Int)) hA0 hA1 (by omega)
  have hG : (goG (nI W) fr 1 (nI B0)).toInt = (fr.toInt + B0 + 360) % 360 / W := by
    unfold goG
    rw [if_neg (by decide), t_divp (by rw [hAt]; exact hA0) (by rw [hwI]; omega), hAt, hwI]
  have hA : goA (nI W) fr 1 (nI B0) = atE fr 1 (nI B0) - goG (nI W) fr 1 (nI B0) * nI W := by
    unfold goA
    rw [if_neg (by decide)]
  generalize (fr.toInt + B0 + 360) % 360 = A at *
  have hGW : (goG (nI W) fr 1 (nI B0) * nI W).toInt = A / W * W := by rw [t_mul (by rw [hG, hwI]; omega) (by rw [hG, hwI]; omega), hG, hwI]
  generalize goG (nI W) fr 1 (nI B0) = G at *
  have hAI : (goA (nI W) fr 1 (nI B0)).toInt = A - A / W * W := by rw [hA, t_sub (by rw [hAt, hGW]; omega) (by rw [hAt, hGW]; omega), hAt, hGW]
  generalize goA (nI W) fr 1 (nI B0) = a at *
  have hfb : (fr - nI b).toInt = fr.toInt - b := by rw [t_sub (by rw [hbI]; omega) (by rw [hbI]; omega), hbI]
  have hfd := t_wh (x := fr - nI b) (y := nI W) (by rw [hwI]; omega)
  rw [hfb, hwI, hbm] at hfd
  have hFq := ediv_b (W := (W : Int)) h1 h2 (by omega)
  have hmd := Int.emod_add_mul_ediv fr.toInt (W : Int)
  rw [Int.mul_comm] at hmd
  have hf0 : 0 ≤ fr.toInt - fr.toInt % W := by omega
  have hq2 := ediv_b (W := (W : Int)) hf0 (by omega) (by omega)
  have hfk : (f_X6_wholes (fr - nI b) (nI W) + nI k).toInt = (fr.toInt - fr.toInt % W) / W + k := by rw [t_add (by rw [hfd, hkI]; omega) (by rw [hfd, hkI]; omega), hfd, hkI]
  have hE1 : f_X6_rest (f_X6_wholes (fr - 1 * nI b) (nI W) + 1 * nI k) (nI n) = G := by
    rw [Int32.one_mul, Int32.one_mul]
    refine t_ext ?_
    rw [t_rs (by rw [hnI]; omega), hfk, hnI, hG]; exact (hp ()).1
  have hl : ∀ (B : Nat) (hB : B ≤ 179), (fr + 1 * nI B - G * nI W).toInt = fr.toInt + B - A / W * W := fun B hB => by
    have hBI : (nI B).toInt = B := nI_toInt (by omega)
    have e1 : (fr + 1 * nI B).toInt = fr.toInt + B := by rw [Int32.one_mul, t_add (by rw [hBI]; omega) (by rw [hBI]; omega), hBI]
    rw [t_sub (by rw [e1, hGW]; omega) (by rw [e1, hGW]; omega), e1, hGW]
  refine ⟨hE1, ?_, ?_, ?_⟩
  · have hm := Int.emod_lt_of_pos ((fr.toInt - fr.toInt % W) / W + k) (show (0 : Int) < n by omega)
    rw [(hp ()).1] at hm
    refine ⟨(A / W).toNat, by omega, t_ext ?_⟩
    rw [hG, nI_toInt (by omega)]; omega
  · unfold f_X6_sideOf f_X5_longitudeAt
    rw [show f_X6_rest (fr + 1 * nI B0 - G * nI W) 360 = a from t_ext (by rw [t_rs (by decide), hl B0 (by omega), hAI]; exact (hp ()).2.1)]
  · have hsb : (nI B1 - nI B0).toInt = (B1 : Int) - B0 := pk_sub_toInt (by omega) (by omega)
    have hr : (a + 1 * (nI B1 - nI B0)).toInt = A - A / W * W + ((B1 : Int) - B0) := by rw [Int32.one_mul, t_add (by rw [hAI, hsb]; omega) (by rw [hAI, hsb]; omega), hAI, hsb]
    unfold f_X6_sideOf f_X5_longitudeAt
    rw [show f_X6_rest (fr + 1 * nI B1 - G * nI W) 360 = a + 1 * (nI B1 - nI B0) from t_ext (by rw [t_rs (by decide), hl B1 (by omega), hr]; exact (hp ()).2.2)]
theorem add_i {x y : Int32} {a c : Int} (hx : x.toInt = a) (hy : y.toInt = c) (h1 : -2147483648 ≤ a + c) (h2 : a + c < 2147483648) : (x + y).toInt = a + c := by rw [t_add (by rw [hx, hy]; exact h1) (by rw [hx, hy]; exact h2), hx, hy]
theorem bnd_x {x : Int} {k : Nat} (h0 : 0 ≤ x) (h1 : x ≤ 500) (hk : k ≤ 13) : -2147483648 ≤ x - 1 + -(k : Int) ∧ x - 1 + -(k : Int) < 2147483648 := by omega
theorem m1_mul {x : Int32} (h : x.toInt ≠ -2147483648) : ((-1 : Int32) * x).toInt = -x.toInt := by
  have := t_rng x
  rw [t_mul (by show _ ≤ (-1) * _; omega) (by show (-1) * _ < _; omega)]
  show (-1) * _ = _; omega
theorem sl_dn {n W b L k : Nat} {fr : Int32} (hNW : NWp n W) (hW : 15 ≤ W ∧ W ≤ 60) (hn : 6 ≤ n ∧ n ≤ 24) (h1 : 0 ≤ fr.toInt) (h2 : fr.toInt ≤ 359) (hb : b < W) (hbm : (b : Int) = (-1 * fr.toInt) % W) (hL : 0 < L) (hL2 : L < 180) (hk : k < cmN W b L) : SLk n W b L fr (-1) (f_X6_wholes (fr - (-1) * nI b) (nI W) + (-1)) k := by
  have hcm := cm_le (L := L) hW.1 hb hL2
  have hB := Bk_lt (by omega) hL hk
  have hS := Bk_step (by omega) hb hL hk
  have hB1 : Bk W b L (k + 1) ≤ (k + 1) * W - b := Nat.min_le_right _ _
  unfold SLk
  generalize Bk W b L (k + 1) = B1 at *
  generalize Bk W b L k = B0 at *
  rw [show (-1 : Int) * fr.toInt = -fr.toInt by omega] at hbm
  have hkw : (((k * W : Nat)) : Int) = (k : Int) * W := Int.natCast_mul k W
  have hk1 : (k + 1) * W = k * W + W := Nat.succ_mul k W
  have hk2 : ((k : Int) + 1) * W = k * W + W := by rw [Int.add_mul, Int.one_mul]
  have hp := fun (_ : Unit) => pc_dn (k := k) (bg := B0) (e := B1) hNW h1 h2 (by omega) (by omega) (by rw [← hbm]; omega) (by omega) (by rw [← hbm, hk2]; omega)
  have hwI : (nI W).toInt = W := nI_toInt (by omega)
  have hnI : (nI n).toInt = n := nI_toInt (by omega)
  have hb0 : (nI B0).toInt = B0 := nI_toInt (by omega)
  have hb1 : (nI B1).toInt = B1 := nI_toInt (by omega)
  have hbI : (nI b).toInt = b := nI_toInt (by omega)
  have hkI : (nI k).toInt = k := nI_toInt (by omega)
  have hAt := atE_dn (b := B0) h1 h2 (by omega)
  have hA0 : 0 ≤ (fr.toInt - B0 + 360) % 360 := by omega
  have hA1 : (fr.toInt - B0 + 360) % 360 ≤ 359 := by omega
  generalize (fr.toInt - B0 + 360) % 360 = A at *
  have hC0 : 0 ≤ (A + 359) % 360 := by omega
  have hC1 : (A + 359) % 360 ≤ 359 := by omega
  have hq := ediv_b (W := (W : Int)) hC0 hC1 (by omega)
  have h359 : (atE fr (-1) (nI B0) + 359).toInt = A + 359 := by rw [t_add (by rw [hAt]; show _ ≤ _ + 359; omega) (by rw [hAt]; show _ + 359 < _; omega), hAt]; rfl
  have hC : (atE fr (-1) (nI B0) + 359 - (atE fr (-1) (nI B0) + 359) / 360 * 360).toInt = (A + 359) % 360 := by rw [t_remp (by rw [h359]; omega) (by decide), h359]; rfl
  have hG : (goG (nI W) fr (-1) (nI B0)).toInt = (A + 359) % 360 / W := by
    unfold goG
    rw [if_pos (by decide), t_divp (by rw [hC]; exact hC0) (by rw [hwI]; omega), hC, hwI]
  have hA : goA (nI W) fr (-1) (nI B0) = f_X7_sideWest (nI W) (atE fr (-1) (nI B0)) (goG (nI W) fr (-1) (nI B0)) := by
    unfold goA
    rw [if_pos (by decide)]
  generalize (A + 359) % 360 = C at *
  have hGW : (goG (nI W) fr (-1) (nI B0) * nI W).toInt = C / W * W := by rw [t_mul (by rw [hG, hwI]; omega) (by rw [hG, hwI]; omega), hG, hwI]
  generalize goG (nI W) fr (-1) (nI B0) = G at *
  have hAI : (goA (nI W) fr (-1) (nI B0)).toInt = (A - C / W * W + 360) % 360 := by
    have e1 : (atE fr (-1) (nI B0) - G * nI W).toInt = A - C / W * W := by rw [t_sub (by rw [hAt, hGW]; omega) (by rw [hAt, hGW]; omega), hAt, hGW]
    have e2 : (atE fr (-1) (nI B0) - G * nI W + 360).toInt = A - C / W * W + 360 := by rw [t_add (by rw [e1]; show _ ≤ _ + 360; omega) (by rw [e1]; show _ + 360 < _; omega), e1]; rfl
    rw [hA]
    unfold f_X7_sideWest
    rw [t_remp (by rw [e2]; omega) (by decide), e2]; rfl
  generalize goA (nI W) fr (-1) (nI B0) = a at *
  have hmb : ((-1 : Int32) * nI b).toInt = -(b : Int) := by rw [m1_mul (by rw [hbI]; omega), hbI]
  have hfb : (fr - (-1) * nI b).toInt = fr.toInt + b := by rw [t_sub (by rw [hmb]; omega) (by rw [hmb]; omega), hmb]; omega
  have hfd := t_wh (x := fr - (-1) * nI b) (y := nI W) (by rw [hwI]; omega)
  rw [hfb, hwI, hbm] at hfd
  have hf0 : 0 ≤ fr.toInt + -fr.toInt % W := by omega
  have hq2 : 0 ≤ (fr.toInt + -fr.toInt % W) / W ∧ (fr.toInt + -fr.toInt % W) / W ≤ 500 := by
    have z1 := Int.ediv_nonneg hf0 (show (0 : Int) ≤ W by omega)
    have z2 := Int.ediv_le_self (W : Int) hf0
    omega
  have hf1 : (f_X6_wholes (fr - (-1) * nI b) (nI W) + (-1)).toInt = (fr.toInt + -fr.toInt % W) / W - 1 := by rw [t_add (by rw [hfd]; show _ ≤ _ + -1; omega) (by rw [hfd]; show _ + -1 < _; omega), hfd]; rfl
  have hmk : ((-1 : Int32) * nI k).toInt = -(k : Int) := by rw [m1_mul (by rw [hkI]; omega), hkI]
  have hbx := bnd_x (k := k) hq2.1 hq2.2 (by omega)
  have hfk : (f_X6_wholes (fr - (-1) * nI b) (nI W) + (-1) + (-1) * nI k).toInt = (fr.toInt + -fr.toInt % W) / W - 1 - k := by rw [add_i hf1 hmk hbx.1 hbx.2, Int.sub_eq_add_neg (b := (k : Int))]
  have hE1 : f_X6_rest (f_X6_wholes (fr - (-1) * nI b) (nI W) + (-1) + (-1) * nI k) (nI n) = G := by
    refine t_ext ?_
    rw [t_rs (by rw [hnI]; omega), hfk, hnI, hG]; exact (hp ()).1
  have hl : ∀ (B : Nat) (hB : B ≤ 179), (fr + (-1) * nI B - G * nI W).toInt = fr.toInt - B - C / W * W := fun B hB => by
    have hBI : (nI B).toInt = B := nI_toInt (by omega)
    have e0 : ((-1 : Int32) * nI B).toInt = -(B : Int) := by rw [m1_mul (by rw [hBI]; omega), hBI]
    have e1 : (fr + (-1) * nI B).toInt = fr.toInt - B := by rw [t_add (by rw [e0]; omega) (by rw [e0]; omega), e0]; omega
    rw [t_sub (by rw [e1, hGW]; omega) (by rw [e1, hGW]; omega), e1, hGW]
  refine ⟨hE1, ?_, ?_, ?_⟩
  · have hm := Int.emod_lt_of_pos ((fr.toInt + -fr.toInt % W) / W - 1 - k) (show (0 : Int) < n by omega)
    rw [(hp ()).1] at hm
    refine ⟨(C / W).toNat, by omega, t_ext ?_⟩
    rw [hG, nI_toInt (by omega)]; omega
  · unfold f_X6_sideOf f_X5_longitudeAt
    rw [show f_X6_rest (fr + (-1) * nI B0 - G * nI W) 360 = a from t_ext (by rw [t_rs (by decide), hl B0 (by omega), hAI]; exact (hp ()).2.1)]
  · have hsb : (nI B1 - nI B0).toInt = (B1 : Int) - B0 := pk_sub_toInt (by omega) (by omega)
    have hms : ((-1 : Int32) * (nI B1 - nI B0)).toInt = -((B1 : Int) - B0) := by rw [m1_mul (by rw [hsb]; omega), hsb]
    have hr : (a + (-1) * (nI B1 - nI B0)).toInt = (A - C / W * W + 360) % 360 - ((B1 : Int) - B0) := by rw [t_add (by rw [hAI, hms]; omega) (by rw [hAI, hms]; omega), hAI, hms]; omega
    unfold f_X6_sideOf f_X5_longitudeAt
    rw [show f_X6_rest (fr + (-1) * nI B1 - G * nI W) 360 = a + (-1) * (nI B1 - nI B0) from t_ext (by rw [t_rs (by decide), hl B1 (by omega), hr]; exact (hp ()).2.2)]
theorem from_eq {W b L k : Nat} (hW : 15 ≤ W ∧ W ≤ 60) (hb : b < W) (hL : 0 < L) (hL2 : L < 180) (hk : k < cmN W b L) : (if 0 < nI k * nI W - nI b then nI k * nI W - nI b else 0) = nI (Bk W b L k) := by
  have hB := Bk_lt (by omega) hL hk
  have hcm := (cm_k (by omega) hL).mp hk
  rw [hB.1, pk_mul]
  by_cases c : b ≤ k * W
  · rw [pk_sub c]
    by_cases d : k * W - b = 0
    · rw [d]; rfl
    · rw [if_pos (show (0 : Int32) < nI (k * W - b) from (nI_lt (by omega) (by omega) : nI 0 < nI (k * W - b)))]
  · rw [if_neg (fun z => ?_)]
    · rw [show k * W - b = 0 by omega]; rfl
    · have := pk_sneg (a := k * W) (b := b) (by omega) (by omega)
      rw [t_lt] at this z
      rw [show (0 : Int32).toInt = 0 from rfl] at this z
      omega
theorem till_eq {W b L k : Nat} (hW : 15 ≤ W ∧ W ≤ 60) (hb : b < W) (hL : 0 < L) (hL2 : L < 180) (hk : k < cmN W b L) : (if (nI k + 1) * nI W - nI b < nI L then (nI k + 1) * nI W - nI b else nI L) = nI (Bk W b L (k + 1)) := by
  have hcm := (cm_k (by omega) hL).mp hk
  have h2 : (k + 1) * W = k * W + W := Nat.succ_mul k W
  rw [nI_1, pk_mul, pk_sub (by omega)]
  unfold Bk
  by_cases c : (k + 1) * W - b < L
  · rw [if_pos (nI_lt c (by omega)), Nat.min_eq_right (by omega)]
  · rw [if_neg (nI_nlt (by omega) (by omega)), Nat.min_eq_left (by omega)]
theorem hgt_eq {lo hi ri : Int32} {L e : Nat} (hr : ri = hi - lo) (hL : 0 < L) (hL2 : L < 180) (he : e < 180) : f_X5_heightAt lo ri (nI L) (nI e) = f_X7_heightAt lo hi (nI e) (nI L) := by
  have hLI : (nI L).toInt = L := nI_toInt (by omega)
  have h2L : (2 * nI L).toInt = 2 * L := by rw [t_mul (by rw [hLI]; show _ ≤ 2 * _; omega) (by rw [hLI]; show 2 * _ < _; omega), hLI]; rfl
  unfold f_X5_heightAt f_X7_heightAt
  rw [← hr, rnd_eq (by rw [hLI]; omega) (by rw [h2L]; omega)]
  by_cases c : e = 0
  · subst c
    rw [if_pos (show nI 0 = 0 from rfl), show ri * nI 0 = 0 from Int32.mul_zero]
    have : f_X7_round 0 (nI L) = 0 := t_ext (by
      rw [rd_i (by rw [h2L]; omega), h2L, show (2 : Int32) * 0 + nI L = nI L by rw [Int32.mul_zero, Int32.zero_add], hLI]
      show (L : Int) / (2 * L) = 0
      exact Int.ediv_eq_zero_of_lt (by omega) (by omega))
    rw [this, Int32.add_zero]
  · rw [if_neg (nI_ne0 (by omega) (by omega))]
theorem pcs_eq {W b L : Nat} (hW : 15 ≤ W ∧ W ≤ 60) (hb : b < W) (hL2 : L < 180) : ((nI b + nI L) + nI W - 1) / nI W = nI (cmN W b L) := by
  rw [nI_add, nI_add, show nI (b + L + W) - 1 = nI (b + L + W - 1) from pk_sub (b := 1) (by omega), pk_div (by omega) (by omega) (by omega)]; rfl
theorem pcs_wh {W b L : Nat} (hW : 15 ≤ W ∧ W ≤ 60) (hb : b < W) (hL2 : L < 180) : f_X6_wholes ((nI b + nI L) + nI W - 1) (nI W) = nI (cmN W b L) := by
  rw [wh_div (by rw [nI_add, nI_add, show nI (b + L + W) - 1 = nI (b + L + W - 1) from pk_sub (b := 1) (by omega), nI_toInt (by omega)]; omega) (by rw [nI_toInt (by omega)]; omega), pcs_eq hW hb hL2]
/-- the way of a step -/
theorem step_eq {fr lon : Int32} (h1 : 0 ≤ lon.toInt ∧ lon.toInt ≤ 359) (h2 : 0 ≤ fr.toInt ∧ fr.toInt ≤ 359) : (stL (stT fr lon) = 180 ↔ lon - fr + 540 - (lon - fr + 540) / 360 * 360 - 180 = -180) ∧ (¬ lon - fr + 540 - (lon - fr + 540) / 360 * 360 - 180 = -180 → stD (stT fr lon) = dirB (lon - fr + 540 - (lon - fr + 540) / 360 * 360 - 180) ∧ stL (stT fr lon) = nI (stB (lon - fr + 540 - (lon - fr + 540) / 360 * 360 - 180)) ∧ (lon - fr + 540 - (lon - fr + 540) / 360 * 360 - 180 = 0 ↔ stL (stT fr lon) = 0)) := by
  have hby := by_rng h1 h2
  generalize lon - fr + 540 - (lon - fr + 540) / 360 * 360 - 180 = B at *
  have hs : (lon - fr).toInt = lon.toInt - fr.toInt := t_sub (by omega) (by omega)
  have ht : (stT fr lon).toInt = (lon.toInt - fr.toInt) % 360 := by unfold stT; rw [t_rs (by decide), hs]; rfl
  generalize stT fr lon = t at *
  have h3 : (360 - t).toInt = 360 - t.toInt := by rw [t_sub (by show _ ≤ 360 - _; omega) (by show 360 - _ < _; omega)]; rfl
  have hLI : (stL t).toInt = if t.toInt ≤ 180 then t.toInt else 360 - t.toInt := by
    unfold stL
    by_cases c : 360 - t < t
    · rw [if_pos c, h3]; rw [t_lt, h3] at c; rw [if_neg (by omega)]
    · rw [if_neg c]; rw [t_lt, h3] at c; rw [if_pos (by omega)]
  have hnB : ¬ B.toInt = -2147483648 := by omega
  have hmB := t_neg (x := B) hnB
  have z0 : (0 : Int32).toInt = 0 := rfl
  have z1 : (180 : Int32).toInt = 180 := rfl
  have z2 : (-180 : Int32).toInt = -180 := rfl
  refine ⟨⟨fun z => t_ext ?_, fun z => t_ext ?_⟩, fun hne => ⟨?_, ?_, ⟨fun z => t_ext ?_, fun z => t_ext ?_⟩⟩⟩
  · have := congrArg Int32.toInt z
    rw [hLI, z1] at this
    rw [z2, hby]
    split at this <;> omega
  · have := congrArg Int32.toInt z
    rw [hby, z2] at this
    rw [hLI, z1]
    split <;> omega
  · have hne2 : ¬ B.toInt = -180 := fun z => hne (t_ext (by rw [z, z2]))
    unfold stD dirB
    by_cases c : 180 < t
    · rw [if_pos c, if_neg (by rw [t_lt, z1] at c; rw [t_le, z0]; omega)]
    · rw [if_neg c, if_pos (by rw [t_lt, z1] at c; rw [t_le, z0]; omega)]
  · have hne2 : ¬ B.toInt = -180 := fun z => hne (t_ext (by rw [z, z2]))
    refine t_ext ?_
    unfold stB
    by_cases c : 0 ≤ B
    · rw [if_pos c]
      rw [t_le, z0] at c
      have hc := t_cl (i := B) c
      rw [nI_toInt (by omega), hc, hLI]
      split <;> omega
    · rw [if_neg c]
      rw [t_le, z0] at c
      have hc := t_cl (i := -B) (by rw [hmB]; omega)
      rw [nI_toInt (by omega), hc, hmB, hLI]
      split <;> omega
  · have := congrArg Int32.toInt z
    rw [hby, z0] at this
    rw [hLI, z0]
    split <;> omega
  · have := congrArg Int32.toInt z
    rw [hLI, z0] at this
    rw [hby, z0]
    split at this <;> omega
