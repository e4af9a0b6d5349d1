theorem atE_up {fr : Int32} {b : Nat} (h1 : 0 ≤ fr.toInt) (h2 : fr.toInt ≤ 359) (hb : b < 181) : (atE fr 1 (nI b)).toInt = (fr.toInt + b + 360) % 360 := by
  have e0 : (nI b).toInt = b := nI_toInt (by omega)
  have e2 : (fr + nI b).toInt = fr.toInt + b := by rw [t_add (by rw [e0]; omega) (by rw [e0]; omega), e0]
  have e3 : (fr + nI b + 360).toInt = fr.toInt + b + 360 := by rw [t_add (by rw [e2]; show _ ≤ _ + 360; omega) (by rw [e2]; show _ + 360 < _; omega), e2]; rfl
  unfold atE
  rw [Int32.one_mul, t_remp (by rw [e3]; omega) (by decide), e3]; rfl
theorem atE_dn {fr : Int32} {b : Nat} (h1 : 0 ≤ fr.toInt) (h2 : fr.toInt ≤ 359) (hb : b < 181) : (atE fr (-1) (nI b)).toInt = (fr.toInt - b + 360) % 360 := by
  have e0 : (nI b).toInt = b := nI_toInt (by omega)
  have e1 : ((-1 : Int32) * nI b).toInt = -(b : Int) := by
    rw [t_mul (by rw [e0]; show _ ≤ (-1) * _; omega) (by rw [e0]; show (-1) * _ < _; omega), e0]
    show (-1) * (b : Int) = _; omega
  have e2 : (fr + (-1) * nI b).toInt = fr.toInt - b := by rw [t_add (by rw [e1]; omega) (by rw [e1]; omega), e1]; omega
  have e3 : (fr + (-1) * nI b + 360).toInt = fr.toInt - b + 360 := by rw [t_add (by rw [e2]; show _ ≤ _ + 360; omega) (by rw [e2]; show _ + 360 < _; omega), e2]; rfl
  unfold atE
  rw [t_remp (by rw [e3]; omega) (by decide), e3]; rfl
theorem gone_b {W : Nat} {fr dr : Int32} (hd : dr = 1 ∨ dr = -1) (h1 : 0 ≤ fr.toInt) (h2 : fr.toInt ≤ 359) (hW0 : 0 < W) (hW1 : W ≤ 60) : ∃ b : Nat, b < W ∧ f_X6_goneFromEdge (nI W) fr dr = nI b ∧ (b : Int) = (dr.toInt * fr.toInt) % W := by
  have e : (dr * fr).toInt = dr.toInt * fr.toInt := by
    rcases hd with rfl | rfl
    · exact t_mul (by show _ ≤ 1 * _; omega) (by show 1 * _ < _; omega)
    · exact t_mul (by show _ ≤ (-1) * _; omega) (by show (-1) * _ < _; omega)
  have hw : (nI W).toInt = W := nI_toInt (by omega)
  have hm := t_rs (x := dr * fr) (y := nI W) (by rw [hw]; omega)
  rw [e, hw] at hm
  have a1 := Int.emod_nonneg (dr.toInt * fr.toInt) (show (W : Int) ≠ 0 by omega)
  have a2 := Int.emod_lt_of_pos (dr.toInt * fr.toInt) (show (0 : Int) < W by omega)
  refine ⟨((dr.toInt * fr.toInt) % W).toNat, by omega, ?_, by omega⟩
  unfold f_X6_goneFromEdge
  refine t_ext ?_
  rw [hm, nI_toInt (by omega)]; omega
theorem isE_i {W : Nat} {at_ : Int32} (h0 : 0 ≤ at_.toInt) (hW0 : 0 < W) (hW1 : W ≤ 60) : f_X7_isEdge (nI W) at_ = 0 ↔ ¬ at_.toInt % W = 0 := by
  have hw : (nI W).toInt = W := nI_toInt (by omega)
  have e := t_remp (x := at_) (y := nI W) h0 (by rw [hw]; omega)
  rw [hw] at e
  unfold f_X7_isEdge
  by_cases c : at_ - at_ / nI W * nI W = 0
  · rw [if_pos c]
    have : at_.toInt % W = 0 := by rw [← e, c]; rfl
    exact ⟨fun z => absurd z (by decide), fun z => absurd this z⟩
  · rw [if_neg c]
    refine ⟨fun _ z => c (t_ext (by rw [e, z]; rfl)), fun _ => rfl⟩
theorem nat_mod0 {a W : Nat} : ((a : Int) % (W : Int) = 0) ↔ a % W = 0 := by omega
theorem edge_b {n W b e : Nat} {fr dr : Int32} (hn : NWp n W) (hW : 0 < W ∧ W ≤ 60) (hd : dr = 1 ∨ dr = -1) (h1 : 0 ≤ fr.toInt) (h2 : fr.toInt ≤ 359) (hb : (b : Int) = (dr.toInt * fr.toInt) % W) (he : e < 181) : f_X7_isEdge (nI W) (atE fr dr (nI e)) = 0 ↔ ¬ (b + e) % W = 0 := by
  have hr := atE_rng h1 h2 hd he
  rw [isE_i hr.1 hW.1 hW.2, ← nat_mod0]
  rcases hd with rfl | rfl
  · rw [atE_up h1 h2 he, ed_up hn]
    rw [show (1 : Int32).toInt = 1 from rfl, Int.one_mul] at hb
    rw [← hb]; exact Iff.rfl
  · rw [atE_dn h1 h2 he, ed_dn hn]
    rw [show (-1 : Int32).toInt = -1 from rfl, show (-1 : Int) * fr.toInt = -fr.toInt by omega] at hb
    rw [← hb]; exact Iff.rfl
/-- the gore and the begin of the piece that begins after bg degrees -/
def goG (wi fr dr bg : Int32) : Int32 := if dr ≤ 0 then ((atE fr dr bg + 359) - (atE fr dr bg + 359) / 360 * 360) / wi else atE fr dr bg / wi
def goA (wi fr dr bg : Int32) : Int32 := if dr ≤ 0 then f_X7_sideWest wi (atE fr dr bg) (goG wi fr dr bg) else atE fr dr bg - goG wi fr dr bg * wi
def goP (σ : MS) (cst fr lo hi dr : Int32) (P : Nat) (bg e : Int32) : MS := g_X7_adds σ (goG (σ.1 2) fr dr bg) cst (2 * goA (σ.1 2) fr dr bg - σ.1 2) (f_X7_heightAt lo hi bg (nI P)) (2 * (goA (σ.1 2) fr dr bg + dr * (e - bg)) - σ.1 2) (f_X7_heightAt lo hi e (nI P))
theorem goes_step {cst fr lo hi by_ dr : Int32} {P m j : Nat} {σ : MS} {bg : Int32} : lp_X7_goes cst fr lo hi by_ dr P (m + 1) j σ bg = if nI P ≤ nI j ∨ ¬ f_X7_isEdge (σ.1 2) (atE fr dr (nI j)) = 0 then lp_X7_goes cst fr lo hi by_ dr P m (j + 1) (goP σ cst fr lo hi dr P bg (nI j)) (nI j) else lp_X7_goes cst fr lo hi by_ dr P m (j + 1) σ bg := by
  rw [lp_X7_goes]
  unfold goP goA goG atE
  by_cases c1 : nI P ≤ nI j
  · rw [if_pos c1, if_pos (Or.inl c1)]
    by_cases c2 : dr ≤ 0
    · rw [if_pos c2, if_pos c2, if_pos c2]
    · rw [if_neg c2, if_neg c2, if_neg c2]
  · rw [if_neg c1]
    by_cases c3 : f_X7_isEdge (σ.1 2) (fr + dr * nI j + 360 - (fr + dr * nI j + 360) / 360 * 360) = 0
    · rw [if_pos c3, if_neg (fun z => z.elim c1 (fun q => q c3))]
    · rw [if_neg c3, if_pos (Or.inr c3)]
      by_cases c2 : dr ≤ 0
      · rw [if_pos c2, if_pos c2, if_pos c2]
      · rw [if_neg c2, if_neg c2, if_neg c2]
theorem goes_skip {cst fr lo hi by_ dr : Int32} {P : Nat} {σ : MS} {bg : Int32} (hP : P < 2 ^ 31) : ∀ (d m j : Nat), (∀ t, t < d → j + t < P ∧ f_X7_isEdge (σ.1 2) (atE fr dr (nI (j + t))) = 0) → lp_X7_goes cst fr lo hi by_ dr P (d + m) j σ bg = lp_X7_goes cst fr lo hi by_ dr P m (j + d) σ bg := by
  intro d
  induction d with
  | zero => intro m j _; rw [Nat.zero_add, Nat.add_zero]
  | succ d ih =>
    intro m j h
    have h0 := h 0 (by omega)
    rw [Nat.add_zero] at h0
    rw [show d + 1 + m = (d + m) + 1 by omega, goes_step, if_neg (fun z => z.elim (nI_ge h0.1 hP) (fun q => q h0.2)), ih m (j + 1) (fun t ht => by have := h (t + 1) (by omega); rw [show j + (t + 1) = j + 1 + t by omega] at this; exact this)]
    rw [show j + 1 + d = j + (d + 1) by omega]
/-- where the k-th piece begins -/
def Bk (W b L k : Nat) : Nat := min L (k * W - b)
def cmN (W b L : Nat) : Nat := (b + L + W - 1) / W
theorem cm_k {W b L k : Nat} (hW : 0 < W) (hL : 0 < L) : k < cmN W b L ↔ k * W < b + L := by
  unfold cmN
  rw [← Nat.succ_le_iff, Nat.le_div_iff_mul_le hW, Nat.succ_mul]; omega
theorem cm_le {W b L : Nat} (hW : 15 ≤ W) (hb : b < W) (hL : L < 180) : cmN W b L ≤ 13 := by
  unfold cmN
  have : (b + L + W - 1) / W < 14 := (Nat.div_lt_iff_lt_mul (by omega)).mpr (by omega)
  omega
theorem Bk_0 {W b L : Nat} : Bk W b L 0 = 0 := by unfold Bk; rw [Nat.zero_mul]; omega
theorem Bk_lt {W b L k : Nat} (hW : 0 < W) (hL : 0 < L) (h : k < cmN W b L) : Bk W b L k = k * W - b ∧ Bk W b L k < L := by
  have := (cm_k hW hL).mp h
  unfold Bk; omega
theorem Bk_step {W b L k : Nat} (hW : 0 < W) (hb : b < W) (hL : 0 < L) (h : k < cmN W b L) : Bk W b L k < Bk W b L (k + 1) ∧ Bk W b L (k + 1) ≤ L := by
  have h1 := Bk_lt hW hL h
  have h2 : (k + 1) * W = k * W + W := Nat.succ_mul k W
  unfold Bk at *
  omega
theorem Bk_cm {W b L : Nat} (hW : 0 < W) (hL : 0 < L) : Bk W b L (cmN W b L) = L := by
  have h : ¬ cmN W b L * W < b + L := fun z => Nat.lt_irrefl _ ((cm_k hW hL).mpr z)
  unfold Bk; omega
theorem mod_ne {W m k : Nat} (h1 : k * W < m) (h2 : m < (k + 1) * W) : ¬ m % W = 0 := by
  have h3 : (k + 1) * W = k * W + W := Nat.succ_mul k W
  have e : m = (m - k * W) + k * W := by omega
  rw [e, Nat.add_mul_mod_self_right, Nat.mod_eq_of_lt (by omega)]; omega
theorem Bk_mid {W b L k e : Nat} (hW : 0 < W) (hb : b < W) (hL : 0 < L) (h : k < cmN W b L) (h1 : Bk W b L k < e) (h2 : e < Bk W b L (k + 1)) : e < L ∧ ¬ (b + e) % W = 0 := by
  have h3 := Bk_lt hW hL h
  have h4 : (k + 1) * W = k * W + W := Nat.succ_mul k W
  refine ⟨by unfold Bk at h2; omega, ?_⟩
  rw [h3.1] at h1
  unfold Bk at h2
  by_cases c : b ≤ k * W
  · exact mod_ne (k := k) (by omega) (by omega)
  · have hk : k = 0 := by
      rcases Nat.eq_zero_or_pos k with z | z
      · exact z
      · have := Nat.le_mul_of_pos_left W z; omega
    subst hk
    rw [Nat.zero_mul] at *
    exact mod_ne (k := 0) (by omega) (by omega)
theorem Bk_end {W b L k : Nat} (hW : 0 < W) (hb : b < W) (hL : 0 < L) (h : k < cmN W b L) : Bk W b L (k + 1) = L ∨ (b + Bk W b L (k + 1)) % W = 0 := by
  have h4 : (k + 1) * W = k * W + W := Nat.succ_mul k W
  unfold Bk
  by_cases c : L ≤ (k + 1) * W - b
  · exact Or.inl (Nat.min_eq_left c)
  · right
    rw [Nat.min_eq_right (by omega), show b + ((k + 1) * W - b) = (k + 1) * W by omega, Nat.mul_mod_left]
theorem goes_B {cst fr lo hi by_ dr : Int32} {W b L k : Nat} {σ : MS} (hW : 0 < W) (hb : b < W) (hL : 0 < L) (hL2 : L < 180) (hed : ∀ e, e < 181 → (f_X7_isEdge (σ.1 2) (atE fr dr (nI e)) = 0 ↔ ¬ (b + e) % W = 0)) (h : k < cmN W b L) : lp_X7_goes cst fr lo hi by_ dr L (L - Bk W b L k) (Bk W b L k + 1) σ (nI (Bk W b L k)) = lp_X7_goes cst fr lo hi by_ dr L (L - Bk W b L (k + 1)) (Bk W b L (k + 1) + 1) (goP σ cst fr lo hi dr L (nI (Bk W b L k)) (nI (Bk W b L (k + 1)))) (nI (Bk W b L (k + 1))) := by
  have h1 := Bk_step hW hb hL h
  have h2 := Bk_end hW hb hL h
  have hm := fun e => Bk_mid (e := e) hW hb hL h
  generalize Bk W b L k = B0 at *
  generalize Bk W b L (k + 1) = B1 at *
  rw [show L - B0 = (B1 - B0 - 1) + ((L - B1) + 1) by omega, goes_skip (by omega) (B1 - B0 - 1) ((L - B1) + 1) (B0 + 1) (fun t ht => ?_), show B0 + 1 + (B1 - B0 - 1) = B1 by omega, goes_step, if_pos ?_]
  · rcases h2 with z | z
    · exact Or.inl (nI_le (by omega) (by omega))
    · exact Or.inr (fun q => (hed B1 (by omega)).mp q z)
  · have := hm (B0 + 1 + t) (by omega) (by omega)
    exact ⟨this.1, (hed _ (by omega)).mpr this.2⟩
theorem rem_cm {W b L : Nat} {wi fr dr : Int32} (hW : 0 < W) (hed : ∀ e, e < 181 → (f_X7_isEdge wi (atE fr dr (nI e)) = 0 ↔ ¬ (b + e) % W = 0)) (hL2 : L < 180) : ∀ (m j : Nat), j + m = L → remA wi fr dr (m + 1) j + (b + j + W - 1) / W = 1 + cmN W b L := by
  intro m
  induction m with
  | zero =>
    intro j hj
    rw [remA_add (Or.inl rfl), remA]
    unfold cmN
    rw [show j = L by omega]
  | succ m ih =>
    intro j hj
    have hi := ih (j + 1) (by omega)
    rw [show b + (j + 1) + W - 1 = b + j + W by omega, Nat.add_div_right _ hW] at hi
    by_cases c : (b + j) % W = 0
    · rw [remA_add (Or.inr (fun z => (hed j (by omega)).mp z c))]
      have e : (b + j + W - 1) / W = (b + j) / W := by
        have hdm := Nat.div_add_mod (b + j) W
        rw [c, Nat.add_zero] at hdm
        rw [show b + j + W - 1 = (W - 1) + W * ((b + j) / W) by omega, Nat.add_mul_div_left _ _ hW, Nat.div_eq_of_lt (by omega), Nat.zero_add]
      omega
    · rw [remA_skip (by omega) ((hed j (by omega)).mpr c)]
      have e : (b + j + W - 1) / W = (b + j) / W + 1 := by
        have hdm := Nat.div_add_mod (b + j) W
        have hlt := Nat.mod_lt (b + j) hW
        rw [show b + j + W - 1 = ((b + j) % W - 1) + W * ((b + j) / W + 1) by rw [Nat.mul_add]; omega, Nat.add_mul_div_left _ _ hW, Nat.div_eq_of_lt (by omega), Nat.zero_add]
      omega
theorem rem_all {W b L : Nat} {wi fr dr : Int32} (hW : 0 < W) (hb : b < W) (hed : ∀ e, e < 181 → (f_X7_isEdge wi (atE fr dr (nI e)) = 0 ↔ ¬ (b + e) % W = 0)) (hL : 0 < L) (hL2 : L < 180) : remA wi fr dr L 1 = cmN W b L := by
  have h := rem_cm hW hed hL2 (L - 1) 1 (by omega)
  rw [show L - 1 + 1 = L by omega, show b + 1 + W - 1 = b + W by omega, Nat.add_div_right _ hW, Nat.div_eq_of_lt hb] at h
  omega
