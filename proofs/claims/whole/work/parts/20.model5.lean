def dirB (b : Int32) : Int32 := if 0 ≤ b then 1 else -1
def stB (b : Int32) : Nat := (if 0 ≤ b then b else -b).toNatClampNeg
theorem dirB_or (b : Int32) : dirB b = 1 ∨ dirB b = -1 := by unfold dirB; split <;> simp
def h_X7_goes (σ : MS) (cst : Int32) (fr : Int32) (lo : Int32) (hi : Int32) (by_ : Int32) : MS := (if 0 ≤ by_ then lp_X7_goes  (cst) (fr) (lo) (hi) (by_) (1) (by_).toNatClampNeg ((by_).toNatClampNeg) 1 (σ) (0) else lp_X7_goes  (cst) (fr) (lo) (hi) (by_) ((-1)) ((-by_)).toNatClampNeg (((-by_)).toNatClampNeg) 1 (σ) (0))
set_option maxRecDepth 100000 in
theorem c_X7_goes {k : KT} {S : HS} {o : Nat} (σ : MS) (cst : Int32) (fr : Int32) (lo : Int32) (hi : Int32) (by_ : Int32) (hM : MI S o σ) (hw : okW σ) (hb : (-180 < by_.toInt ∧ by_.toInt < 180)) (hb0 : ¬ by_ = 0) (hf1 : 0 ≤ fr.toInt) (hf2 : fr.toInt ≤ 359) (q : Nat) (hq : σ.1 6 = nI q) (hr : q + remA (σ.1 2) fr (dirB by_) (stB by_) 1 ≤ 600) : Ct k (mt_X7_goes (rm 3 0 0)) [.ref o, .int (cst), .int (fr), .int (lo), .int (hi), .int (by_)] S (Pv o S (h_X7_goes σ cst fr lo hi by_)) := by
  refine Ct.ofF (by decide +kernel) (Nat.le_of_ble_eq_true rfl) ?_
  refine x_lv [(0, .ref (o)), (1, .int (cst)), (2, .int (fr)), (3, .int (lo)), (4, .int (hi)), (5, .int (by_))] [0, 1, 2, 3, 4, 5] rfl ?_
  refine x_iload 5 dX7_goes_0 rfl ?_
  refine x_if_ge 11 dX7_goes_2 (by decide) (fun c1 => ?_) (fun c1 => ?_)
  · refine x_iload 5 dX7_goes_11 rfl ?_
    refine x_istore [(6, .int (by_)), (0, .ref (o)), (1, .int (cst)), (2, .int (fr)), (3, .int (lo)), (4, .int (hi)), (5, .int (by_))] dX7_goes_13 (Nat.le_of_ble_eq_true rfl) rfl ?_
    refine x_iload 6 dX7_goes_15 rfl ?_
    refine x_if_ge 24 dX7_goes_17 (by decide) (fun c2 => ?_) (fun c2 => ?_)
    · refine x_iconst 1 dX7_goes_24 (by decide) ?_
      refine x_istore [(7, .int (1)), (6, .int (by_)), (0, .ref (o)), (1, .int (cst)), (2, .int (fr)), (3, .int (lo)), (4, .int (hi)), (5, .int (by_))] dX7_goes_25 (Nat.le_of_ble_eq_true rfl) rfl ?_
      refine x_iconst 0 dX7_goes_27 (by decide) ?_
      refine x_istore [(8, .int (0)), (7, .int (1)), (6, .int (by_)), (0, .ref (o)), (1, .int (cst)), (2, .int (fr)), (3, .int (lo)), (4, .int (hi)), (5, .int (by_))] dX7_goes_28 (Nat.le_of_ble_eq_true rfl) rfl ?_
      refine x_iconst 1 dX7_goes_30 (by decide) ?_
      refine x_istore [(9, .int (1)), (8, .int (0)), (7, .int (1)), (6, .int (by_)), (0, .ref (o)), (1, .int (cst)), (2, .int (fr)), (3, .int (lo)), (4, .int (hi)), (5, .int (by_))] dX7_goes_31 (Nat.le_of_ble_eq_true rfl) rfl ?_
      obtain ⟨P, eP⟩ : ∃ x : Nat, x = (by_).toNatClampNeg := ⟨_, rfl⟩
      have hst : by_ = nI P := by rw [eP]; exact pos_nI (pp_p hb c1)
      have hP0 : 1 ≤ P ∧ P < 180 := by rw [eP]; exact pq_p hb hb0 c1
      have hr9 : q + remA (σ.1 2) fr 1 P 1 ≤ 600 := by
        rw [dirB, stB, if_pos c1, if_pos c1, ← eP] at hr
        exact hr
      refine x_lv [(0, .ref (o)), (1, .int (cst)), (2, .int (fr)), (3, .int (lo)), (4, .int (hi)), (5, .int (by_)), (6, .int (nI P)), (7, .int (1)), (9, .int (nI 1)), (8, .int (0))] [4, 5, 6, 7, 8, 9, 3, 2, 0, 1] (by rw [← hst]; rfl) ?_
      rw [show h_X7_goes σ cst fr lo hi by_ = lp_X7_goes  (cst) (fr) (lo) (hi) (by_) (1) P (P) 1 (σ) (0) from by rw [h_X7_goes, if_pos c1, ← eP]]
      exact l_lp_X7_goes (cst) (fr) (lo) (hi) (by_) (1) P  (P) 1 (0) (by omega) S (σ) hM FM.rf q 0 hw hq hr9 rfl (by omega) hP0.1 hP0.2 hf1 hf2 (by first | exact Or.inl rfl | exact Or.inr rfl)
    · exact absurd c1 c2
  · refine x_iload 5 dX7_goes_5 rfl ?_
    refine x_ineg dX7_goes_7 ?_
    refine x_goto 13 dX7_goes_8 (by decide) ?_
    refine x_istore [(6, .int ((-by_))), (0, .ref (o)), (1, .int (cst)), (2, .int (fr)), (3, .int (lo)), (4, .int (hi)), (5, .int (by_))] dX7_goes_13 (Nat.le_of_ble_eq_true rfl) rfl ?_
    refine x_iload 6 dX7_goes_15 rfl ?_
    refine x_if_ge 24 dX7_goes_17 (by decide) (fun c3 => ?_) (fun c3 => ?_)
    · exact absurd c3 c1
    · refine x_iconst (-1) dX7_goes_20 (by decide) ?_
      refine x_goto 25 dX7_goes_21 (by decide) ?_
      refine x_istore [(7, .int ((-1))), (6, .int ((-by_))), (0, .ref (o)), (1, .int (cst)), (2, .int (fr)), (3, .int (lo)), (4, .int (hi)), (5, .int (by_))] dX7_goes_25 (Nat.le_of_ble_eq_true rfl) rfl ?_
      refine x_iconst 0 dX7_goes_27 (by decide) ?_
      refine x_istore [(8, .int (0)), (7, .int ((-1))), (6, .int ((-by_))), (0, .ref (o)), (1, .int (cst)), (2, .int (fr)), (3, .int (lo)), (4, .int (hi)), (5, .int (by_))] dX7_goes_28 (Nat.le_of_ble_eq_true rfl) rfl ?_
      refine x_iconst 1 dX7_goes_30 (by decide) ?_
      refine x_istore [(9, .int (1)), (8, .int (0)), (7, .int ((-1))), (6, .int ((-by_))), (0, .ref (o)), (1, .int (cst)), (2, .int (fr)), (3, .int (lo)), (4, .int (hi)), (5, .int (by_))] dX7_goes_31 (Nat.le_of_ble_eq_true rfl) rfl ?_
      obtain ⟨P, eP⟩ : ∃ x : Nat, x = ((-by_)).toNatClampNeg := ⟨_, rfl⟩
      have hst : (-by_) = nI P := by rw [eP]; exact pos_nI (pp_n hb c1)
      have hP0 : 1 ≤ P ∧ P < 180 := by rw [eP]; exact pq_n hb hb0 c1
      have hr9 : q + remA (σ.1 2) fr (-1) P 1 ≤ 600 := by
        rw [dirB, stB, if_neg c1, if_neg c1, ← eP] at hr
        exact hr
      refine x_lv [(0, .ref (o)), (1, .int (cst)), (2, .int (fr)), (3, .int (lo)), (4, .int (hi)), (5, .int (by_)), (6, .int (nI P)), (7, .int ((-1))), (9, .int (nI 1)), (8, .int (0))] [4, 5, 6, 7, 8, 9, 3, 2, 0, 1] (by rw [← hst]; rfl) ?_
      rw [show h_X7_goes σ cst fr lo hi by_ = lp_X7_goes  (cst) (fr) (lo) (hi) (by_) ((-1)) P (P) 1 (σ) (0) from by rw [h_X7_goes, if_neg c1, ← eP]]
      exact l_lp_X7_goes (cst) (fr) (lo) (hi) (by_) ((-1)) P  (P) 1 (0) (by omega) S (σ) hM FM.rf q 0 hw hq hr9 rfl (by omega) hP0.1 hP0.2 hf1 hf2 (by first | exact Or.inl rfl | exact Or.inr rfl)
theorem by_rng {lon fr : Int32} (h1 : 0 ≤ lon.toInt ∧ lon.toInt ≤ 359) (h2 : 0 ≤ fr.toInt ∧ fr.toInt ≤ 359) : (lon - fr + 540 - (lon - fr + 540) / 360 * 360 - 180).toInt = (lon.toInt - fr.toInt + 540) % 360 - 180 := by
  have e1 : (lon - fr).toInt = lon.toInt - fr.toInt := t_sub (by omega) (by omega)
  have e2 : (lon - fr + 540).toInt = lon.toInt - fr.toInt + 540 := by rw [t_add (by rw [e1]; simp only [show (540 : Int32).toInt = 540 from rfl]; omega) (by rw [e1]; simp only [show (540 : Int32).toInt = 540 from rfl]; omega), e1]; rfl
  have e3 : (lon - fr + 540 - (lon - fr + 540) / 360 * 360).toInt = (lon.toInt - fr.toInt + 540) % 360 := by rw [t_remp (by rw [e2]; omega) (by decide), e2]; rfl
  rw [t_sub (by rw [e3]; simp only [show (180 : Int32).toInt = 180 from rfl]; omega) (by rw [e3]; simp only [show (180 : Int32).toInt = 180 from rfl]; omega), e3]; rfl
theorem by_ok {lon fr : Int32} (h1 : 0 ≤ lon.toInt ∧ lon.toInt ≤ 359) (h2 : 0 ≤ fr.toInt ∧ fr.toInt ≤ 359) (c : ¬ lon - fr + 540 - (lon - fr + 540) / 360 * 360 - 180 = -180) : (-180 < (lon - fr + 540 - (lon - fr + 540) / 360 * 360 - 180).toInt ∧ (lon - fr + 540 - (lon - fr + 540) / 360 * 360 - 180).toInt < 180) := by
  have e := by_rng h1 h2
  have n0 : (lon - fr + 540 - (lon - fr + 540) / 360 * 360 - 180).toInt ≠ -180 := fun q => c (t_ext q)
  rw [e] at n0 ⊢
  omega
theorem lp_parts_rem {σ : MS} {fr by_ : Int32} {P : Nat} : ∀ (m j : Nat) (n : Int32), lp_X7_parts σ fr by_ P m j n = n + nI (remA (σ.1 2) fr (dirB by_) (m + 1) j - 1) := by
  intro m
  induction m with
  | zero =>
    intro j n
    rw [lp_X7_parts, remA_add (Or.inl rfl)]
    show n = n + nI 0
    rw [nI_0, Int32.add_zero]
  | succ m ih =>
    intro j n
    have hp : ∀ m' j', 1 ≤ remA (σ.1 2) fr (dirB by_) (m' + 1) j' := by
      intro m'
      induction m' with
      | zero => intro j'; rw [remA_add (Or.inl rfl)]; omega
      | succ m' ih' => intro j'; rw [remA]; have := ih' (j' + 1); omega
    have h1 := hp m (j + 1)
    have hat : ∀ (h : 0 ≤ by_), atE fr (dirB by_) (nI j) = fr + nI j + 360 - (fr + nI j + 360) / 360 * 360 := by
      intro h; unfold atE dirB; rw [if_pos h, Int32.one_mul]
    have hat2 : ∀ (h : ¬ 0 ≤ by_), atE fr (dirB by_) (nI j) = fr + -nI j + 360 - (fr + -nI j + 360) / 360 * 360 := by
      intro h; unfold atE dirB; rw [if_neg h, show (-1 : Int32) * nI j = -nI j by rw [Int32.neg_mul, Int32.one_mul]]
    rw [lp_X7_parts]
    by_cases c : 0 ≤ by_
    · rw [if_pos c]
      by_cases c2 : f_X7_isEdge (σ.1 2) (fr + nI j + 360 - (fr + nI j + 360) / 360 * 360) = 0
      · rw [if_pos c2, ih, remA_skip (m := m + 1) (j := j) (by omega) (by rw [hat c]; exact c2), Int32.add_zero]
      · rw [if_neg c2, ih, remA_add (m := m + 1) (j := j) (Or.inr (by rw [hat c]; exact c2)), Int32.add_assoc, show (1 : Int32) = nI 1 from rfl, nI_add, show 1 + (remA (σ.1 2) fr (dirB by_) (m + 1) (j + 1) - 1) = 1 + remA (σ.1 2) fr (dirB by_) (m + 1) (j + 1) - 1 by omega]
    · rw [if_neg c]
      by_cases c2 : f_X7_isEdge (σ.1 2) (fr + -nI j + 360 - (fr + -nI j + 360) / 360 * 360) = 0
      · rw [if_pos c2, ih, remA_skip (m := m + 1) (j := j) (by omega) (by rw [hat2 c]; exact c2), Int32.add_zero]
      · rw [if_neg c2, ih, remA_add (m := m + 1) (j := j) (Or.inr (by rw [hat2 c]; exact c2)), Int32.add_assoc, show (1 : Int32) = nI 1 from rfl, nI_add, show 1 + (remA (σ.1 2) fr (dirB by_) (m + 1) (j + 1) - 1) = 1 + remA (σ.1 2) fr (dirB by_) (m + 1) (j + 1) - 1 by omega]
theorem remA_le {wi fr dr : Int32} : ∀ (m j : Nat), remA wi fr dr m j ≤ m := by
  intro m
  induction m with
  | zero => intro j; exact Nat.le_refl _
  | succ m ih =>
    intro j
    rw [remA]
    have := ih (j + 1)
    split <;> omega
theorem remA_pos {wi fr dr : Int32} {m j : Nat} : 1 ≤ remA wi fr dr (m + 1) j := by
  revert j
  induction m with
  | zero => intro j; rw [remA_add (Or.inl rfl)]; omega
  | succ m ih => intro j; rw [remA]; have := ih (j := j + 1); omega
theorem parts_rem {σ : MS} {fr by_ : Int32} (hb : (-180 < by_.toInt ∧ by_.toInt < 180)) (h0 : ¬ by_ = 0) : h_X7_parts σ fr by_ = nI (remA (σ.1 2) fr (dirB by_) (stB by_) 1) := by
  unfold h_X7_parts
  rw [if_neg h0]
  by_cases c : 0 ≤ by_
  · obtain ⟨p1, p2⟩ := pq_p hb h0 c
    have e : stB by_ = by_.toNatClampNeg - 1 + 1 := by unfold stB; rw [if_pos c]; omega
    have h2 := remA_pos (wi := σ.1 2) (fr := fr) (dr := dirB by_) (m := by_.toNatClampNeg - 1) (j := 1)
    rw [if_pos c, lp_parts_rem, e, show (1 : Int32) = nI 1 from rfl, nI_add]
    congr 1; omega
  · obtain ⟨p1, p2⟩ := pq_n hb h0 c
    have e : stB by_ = (-by_).toNatClampNeg - 1 + 1 := by unfold stB; rw [if_neg c]; omega
    have h2 := remA_pos (wi := σ.1 2) (fr := fr) (dr := dirB by_) (m := (-by_).toNatClampNeg - 1) (j := 1)
    rw [if_neg c, lp_parts_rem, e, show (1 : Int32) = nI 1 from rfl, nI_add]
    congr 1; omega
theorem stB_lt {b : Int32} (hb : (-180 < b.toInt ∧ b.toInt < 180)) (h0 : ¬ b = 0) : 1 ≤ stB b ∧ stB b < 180 := by
  unfold stB
  by_cases c : 0 ≤ b
  · rw [if_pos c]; exact pq_p hb h0 c
  · rw [if_neg c]; exact pq_n hb h0 c
theorem sum_ok {q R : Nat} {x n : Int32} (hx : x = nI q) (hn : n = nI R) (hq : q ≤ 600) (hR : R < 180) (c : x + n ≤ 600) : q + R ≤ 600 := by
  rw [hx, hn, nI_add, show (600 : Int32) = nI 600 from rfl] at c
  exact (nI_leI (by omega) (by decide)).mp c
theorem parts0 {σ : MS} {fr by_ : Int32} (h0 : by_ = 0) : h_X7_parts σ fr by_ = nI (if f_X7_isEdge (σ.1 2) fr = 0 then 1 else 2) := by
  unfold h_X7_parts
  rw [if_pos h0]
  split <;> rfl
def h_X7_to (σ : MS) (cst : Int32) (lon : Int32) (lat : Int32) : Int32 × MS := (if (f_X7_in cst 0 ((σ.1 3 - 1))) = 0 then ((-1), σ) else (if (f_X7_isPlace lon lat) = 0 then ((-1), σ) else (if ((σ.2 2) (cst).toNatClampNeg) = lon then (if ((σ.2 3) (cst).toNatClampNeg) = (60 * lat) then ((-1), σ) else (if ((((lon - ((σ.2 2) (cst).toNatClampNeg)) + 540) - ((lon - ((σ.2 2) (cst).toNatClampNeg)) + 540) / 360 * 360) - 180) = (-180) then ((-1), σ) else (if (σ.1 6 + (h_X7_parts (σ) (((σ.2 2) (cst).toNatClampNeg)) (((((lon - ((σ.2 2) (cst).toNatClampNeg)) + 540) - ((lon - ((σ.2 2) (cst).toNatClampNeg)) + 540) / 360 * 360) - 180)))) ≤ 600 then (if ((((lon - ((σ.2 2) (cst).toNatClampNeg)) + 540) - ((lon - ((σ.2 2) (cst).toNatClampNeg)) + 540) / 360 * 360) - 180) = 0 then ((h_X7_parts (σ) (((σ.2 2) (cst).toNatClampNeg)) (((((lon - ((σ.2 2) (cst).toNatClampNeg)) + 540) - ((lon - ((σ.2 2) (cst).toNatClampNeg)) + 540) / 360 * 360) - 180))), fR (fR ((h_X7_stays (σ) cst (((σ.2 2) (cst).toNatClampNeg)) (((σ.2 3) (cst).toNatClampNeg)) ((60 * lat)))) 2 (upd (((h_X7_stays (σ) cst (((σ.2 2) (cst).toNatClampNeg)) (((σ.2 3) (cst).toNatClampNeg)) ((60 * lat)))).2 2) (cst).toNatClampNeg (lon))) 3 (upd (((h_X7_stays (σ) cst (((σ.2 2) (cst).toNatClampNeg)) (((σ.2 3) (cst).toNatClampNeg)) ((60 * lat)))).2 3) (cst).toNatClampNeg ((60 * lat)))) else ((h_X7_parts (σ) (((σ.2 2) (cst).toNatClampNeg)) (((((lon - ((σ.2 2) (cst).toNatClampNeg)) + 540) - ((lon - ((σ.2 2) (cst).toNatClampNeg)) + 540) / 360 * 360) - 180))), fR (fR ((h_X7_goes (σ) cst (((σ.2 2) (cst).toNatClampNeg)) (((σ.2 3) (cst).toNatClampNeg)) ((60 * lat)) (((((lon - ((σ.2 2) (cst).toNatClampNeg)) + 540) - ((lon - ((σ.2 2) (cst).toNatClampNeg)) + 540) / 360 * 360) - 180)))) 2 (upd (((h_X7_goes (σ) cst (((σ.2 2) (cst).toNatClampNeg)) (((σ.2 3) (cst).toNatClampNeg)) ((60 * lat)) (((((lon - ((σ.2 2) (cst).toNatClampNeg)) + 540) - ((lon - ((σ.2 2) (cst).toNatClampNeg)) + 540) / 360 * 360) - 180)))).2 2) (cst).toNatClampNeg (lon))) 3 (upd (((h_X7_goes (σ) cst (((σ.2 2) (cst).toNatClampNeg)) (((σ.2 3) (cst).toNatClampNeg)) ((60 * lat)) (((((lon - ((σ.2 2) (cst).toNatClampNeg)) + 540) - ((lon - ((σ.2 2) (cst).toNatClampNeg)) + 540) / 360 * 360) - 180)))).2 3) (cst).toNatClampNeg ((60 * lat))))) else ((-1), σ)))) else (if ((((lon - ((σ.2 2) (cst).toNatClampNeg)) + 540) - ((lon - ((σ.2 2) (cst).toNatClampNeg)) + 540) / 360 * 360) - 180) = (-180) then ((-1), σ) else (if (σ.1 6 + (h_X7_parts (σ) (((σ.2 2) (cst).toNatClampNeg)) (((((lon - ((σ.2 2) (cst).toNatClampNeg)) + 540) - ((lon - ((σ.2 2) (cst).toNatClampNeg)) + 540) / 360 * 360) - 180)))) ≤ 600 then (if ((((lon - ((σ.2 2) (cst).toNatClampNeg)) + 540) - ((lon - ((σ.2 2) (cst).toNatClampNeg)) + 540) / 360 * 360) - 180) = 0 then ((h_X7_parts (σ) (((σ.2 2) (cst).toNatClampNeg)) (((((lon - ((σ.2 2) (cst).toNatClampNeg)) + 540) - ((lon - ((σ.2 2) (cst).toNatClampNeg)) + 540) / 360 * 360) - 180))), fR (fR ((h_X7_stays (σ) cst (((σ.2 2) (cst).toNatClampNeg)) (((σ.2 3) (cst).toNatClampNeg)) ((60 * lat)))) 2 (upd (((h_X7_stays (σ) cst (((σ.2 2) (cst).toNatClampNeg)) (((σ.2 3) (cst).toNatClampNeg)) ((60 * lat)))).2 2) (cst).toNatClampNeg (lon))) 3 (upd (((h_X7_stays (σ) cst (((σ.2 2) (cst).toNatClampNeg)) (((σ.2 3) (cst).toNatClampNeg)) ((60 * lat)))).2 3) (cst).toNatClampNeg ((60 * lat)))) else ((h_X7_parts (σ) (((σ.2 2) (cst).toNatClampNeg)) (((((lon - ((σ.2 2) (cst).toNatClampNeg)) + 540) - ((lon - ((σ.2 2) (cst).toNatClampNeg)) + 540) / 360 * 360) - 180))), fR (fR ((h_X7_goes (σ) cst (((σ.2 2) (cst).toNatClampNeg)) (((σ.2 3) (cst).toNatClampNeg)) ((60 * lat)) (((((lon - ((σ.2 2) (cst).toNatClampNeg)) + 540) - ((lon - ((σ.2 2) (cst).toNatClampNeg)) + 540) / 360 * 360) - 180)))) 2 (upd (((h_X7_goes (σ) cst (((σ.2 2) (cst).toNatClampNeg)) (((σ.2 3) (cst).toNatClampNeg)) ((60 * lat)) (((((lon - ((σ.2 2) (cst).toNatClampNeg)) + 540) - ((lon - ((σ.2 2) (cst).toNatClampNeg)) + 540) / 360 * 360) - 180)))).2 2) (cst).toNatClampNeg (lon))) 3 (upd (((h_X7_goes (σ) cst (((σ.2 2) (cst).toNatClampNeg)) (((σ.2 3) (cst).toNatClampNeg)) ((60 * lat)) (((((lon - ((σ.2 2) (cst).toNatClampNeg)) + 540) - ((lon - ((σ.2 2) (cst).toNatClampNeg)) + 540) / 360 * 360) - 180)))).2 3) (cst).toNatClampNeg ((60 * lat))))) else ((-1), σ))))))
set_option maxRecDepth 100000 in
theorem c_X7_to {k : KT} {S : HS} {o : Nat} (σ : MS) (cst : Int32) (lon : Int32) (lat : Int32) (hM : MI S o σ) (hO : okS σ) : Ct k (mt_X7_to (rm 4 0 0)) [.ref o, .int (cst), .int (lon), .int (lat)] S (Pm o S (h_X7_to σ cst lon lat)) := by
  obtain ⟨q, hq2, hq⟩ := hO.pc
  refine Ct.ofF (by decide +kernel) (Nat.le_of_ble_eq_true rfl) ?_
  refine x_lv [(0, .ref (o)), (1, .int (cst)), (2, .int (lon)), (3, .int (lat))] [0, 1, 2, 3] rfl ?_
  refine x_iload_n 1 dX7_to_0 rfl ?_
  refine x_iconst 0 dX7_to_1 (by decide) ?_
  refine x_aload_n 0 dX7_to_2 rfl ?_
  refine gf_X7_86 rfl dX7_to_3 (mhK hM.1) ?_
  rw [show gI (S) 259 (o) = σ.1 3 from (hM.i 3 (by decide))]
  refine x_iconst 1 dX7_to_6 (by decide) ?_
  refine x_isub dX7_to_7 ?_
  refine ca_X7_69 [.int (cst), .int (0), .int ((σ.1 3 - 1))] [] (c_X7_in (cst) (0) ((σ.1 3 - 1))) rfl dX7_to_8 rfl rfl ⟨(Nat.le_of_ble_eq_true rfl), (Nat.le_of_ble_eq_true rfl), (Nat.le_of_ble_eq_true rfl), (Nat.le_of_ble_eq_true rfl), (Nat.le_of_ble_eq_true rfl)⟩ (fun v T hq => ?_)
  obtain ⟨rfl, rfl⟩ := hq
  refine x_if_eq 22 dX7_to_11 (by decide) (fun c1 => ?_) (fun c1 => ?_)
  · refine x_iconst (-1) dX7_to_22 (by decide) ?_
    exact x_ireturn dX7_to_23 rfl (Nat.le_of_ble_eq_true rfl) (Nat.le_of_ble_eq_true rfl) ⟨by rw [h_X7_to, if_pos c1], by rw [h_X7_to, if_pos c1]; exact hM, FM.rf⟩
  · refine x_iload_n 2 dX7_to_14 rfl ?_
    refine x_iload_n 3 dX7_to_15 rfl ?_
    refine ca_X7_82 [.int (lon), .int (lat)] [] (c_X7_isPlace (lon) (lat)) rfl dX7_to_16 rfl rfl ⟨(Nat.le_of_ble_eq_true rfl), (Nat.le_of_ble_eq_true rfl), (Nat.le_of_ble_eq_true rfl), (Nat.le_of_ble_eq_true rfl), (Nat.le_of_ble_eq_true rfl)⟩ (fun v T hq => ?_)
    obtain ⟨rfl, rfl⟩ := hq
    refine x_if_ne 24 dX7_to_19 (by decide) (fun c2 => ?_) (fun c2 => ?_)
    · refine x_aload_n 0 dX7_to_24 rfl ?_
      refine gf_X7_13 rfl dX7_to_25 (mhK hM.1) ?_
      rw [show gP (S) 260 (o) = some (o + 2) from (mhP_coastAt hM.1)]
      refine x_iload_n 1 dX7_to_28 rfl ?_
      refine x_iaload dX7_to_29 (mhK_coastAt hM.1) (by rw [show gL (S) (o + 2) = 30 from (mhL_coastAt hM.1)]; exact ((isn_in hO.co2.1 (by decide) hO.co2.2 c1))) ?_
      rw [show gR (S) (o + 2) = σ.2 2 from (hM.r 2 (by decide))]
      refine x_istore [(4, .int (((σ.2 2) (cst).toNatClampNeg))), (0, .ref (o)), (1, .int (cst)), (2, .int (lon)), (3, .int (lat))] dX7_to_30 (Nat.le_of_ble_eq_true rfl) rfl ?_
      refine x_aload_n 1 dX7_to_32 rfl ?_
      refine gf_X7_16 rfl dX7_to_33 (mhK hM.1) ?_
      rw [show gP (S) 261 (o) = some (o + 3) from (mhP_coastHigh hM.1)]
      refine x_iload_n 2 dX7_to_36 rfl ?_
      refine x_iaload dX7_to_37 (mhK_coastHigh hM.1) (by rw [show gL (S) (o + 3) = 30 from (mhL_coastHigh hM.1)]; exact ((isn_in hO.co2.1 (by decide) hO.co2.2 c1))) ?_
      rw [show gR (S) (o + 3) = σ.2 3 from (hM.r 3 (by decide))]
      refine x_istore [(5, .int (((σ.2 3) (cst).toNatClampNeg))), (4, .int (((σ.2 2) (cst).toNatClampNeg))), (0, .ref (o)), (1, .int (cst)), (2, .int (lon)), (3, .int (lat))] dX7_to_38 (Nat.le_of_ble_eq_true rfl) rfl ?_
      refine x_bipush 60 dX7_to_40 (by decide) ?_
      refine x_at 42 rfl ?_
      refine x_iload_n 5 dX7_to_42 rfl ?_
      refine x_imul dX7_to_43 ?_
      refine x_istore [(6, .int ((60 * lat))), (5, .int (((σ.2 3) (cst).toNatClampNeg))), (4, .int (((σ.2 2) (cst).toNatClampNeg))), (0, .ref (o)), (1, .int (cst)), (2, .int (lon)), (3, .int (lat))] dX7_to_44 (Nat.le_of_ble_eq_true rfl) rfl ?_
      refine x_iload 2 dX7_to_46 rfl ?_
      refine x_iload_n 5 dX7_to_48 rfl ?_
      refine x_icmp_ne 61 dX7_to_49 (by decide) (fun c3 => ?_) (fun c3 => ?_)
      · refine x_iload_n 5 dX7_to_61 rfl ?_
        refine x_iload 2 dX7_to_62 rfl ?_
        refine x_isub dX7_to_64 ?_
        refine x_sipush 540 dX7_to_65 (by decide) ?_
        refine x_iadd dX7_to_68 ?_
        refine x_sipush 360 dX7_to_69 (by decide) ?_
        refine x_irem dX7_to_72 (by decide) ?_
        refine x_sipush 180 dX7_to_73 (by decide) ?_
        refine x_isub dX7_to_76 ?_
        refine x_istore [(7, .int (((((lon - ((σ.2 2) (cst).toNatClampNeg)) + 540) - ((lon - ((σ.2 2) (cst).toNatClampNeg)) + 540) / 360 * 360) - 180))), (6, .int ((60 * lat))), (5, .int (((σ.2 3) (cst).toNatClampNeg))), (4, .int (((σ.2 2) (cst).toNatClampNeg))), (0, .ref (o)), (1, .int (cst)), (2, .int (lon)), (3, .int (lat))] dX7_to_77 (Nat.le_of_ble_eq_true rfl) rfl ?_
        refine x_iload 0 dX7_to_79 rfl ?_
        refine x_at 81 rfl ?_
        refine x_sipush (-180) dX7_to_81 (by decide) ?_
        refine x_icmp_ne 89 dX7_to_84 (by decide) (fun c4 => ?_) (fun c4 => ?_)
        · refine x_aload_n 4 dX7_to_89 rfl ?_
          refine x_iload 3 dX7_to_90 rfl ?_
          refine x_iload 0 dX7_to_92 rfl ?_
          refine ca_X7_99 [.int (((σ.2 2) (cst).toNatClampNeg)), .int (((((lon - ((σ.2 2) (cst).toNatClampNeg)) + 540) - ((lon - ((σ.2 2) (cst).toNatClampNeg)) + 540) / 360 * 360) - 180))] [] (c_X7_parts (σ) (((σ.2 2) (cst).toNatClampNeg)) (((((lon - ((σ.2 2) (cst).toNatClampNeg)) + 540) - ((lon - ((σ.2 2) (cst).toNatClampNeg)) + 540) / 360 * 360) - 180)) hM hO (by_ok (x7_place c2).1 (hO.ca _ (cl_lt (isn_in hO.co2.1 (by decide) hO.co2.2 c1))) c4)) (mhK hM.1) rfl dX7_to_94 rfl rfl ⟨(Nat.le_of_ble_eq_true rfl), (Nat.le_of_ble_eq_true rfl), (Nat.le_of_ble_eq_true rfl), (Nat.le_of_ble_eq_true rfl), (Nat.le_of_ble_eq_true rfl)⟩ (fun v T hq => ?_)
          obtain ⟨rfl, rfl⟩ := hq
          refine x_istore [(8, .int ((h_X7_parts (σ) (((σ.2 2) (cst).toNatClampNeg)) (((((lon - ((σ.2 2) (cst).toNatClampNeg)) + 540) - ((lon - ((σ.2 2) (cst).toNatClampNeg)) + 540) / 360 * 360) - 180))))), (7, .int (((((lon - ((σ.2 2) (cst).toNatClampNeg)) + 540) - ((lon - ((σ.2 2) (cst).toNatClampNeg)) + 540) / 360 * 360) - 180))), (6, .int ((60 * lat))), (5, .int (((σ.2 3) (cst).toNatClampNeg))), (4, .int (((σ.2 2) (cst).toNatClampNeg))), (0, .ref (o)), (1, .int (cst)), (2, .int (lon)), (3, .int (lat))] dX7_to_97 (Nat.le_of_ble_eq_true rfl) rfl ?_
          refine x_aload_n 5 dX7_to_99 rfl ?_
          refine gf_X7_92 rfl dX7_to_100 (mhK hM.1) ?_
          rw [show gI (S) 262 (o) = σ.1 6 from (hM.i 6 (by decide))]
          refine x_iload 0 dX7_to_103 rfl ?_
          refine x_iadd dX7_to_105 ?_
          refine x_sipush 600 dX7_to_106 (by decide) ?_
          refine x_icmp_le 114 dX7_to_109 (by decide) (fun c5 => ?_) (fun c5 => ?_)
          · refine x_iload 1 dX7_to_114 rfl ?_
            refine x_if_ne 133 dX7_to_116 (by decide) (fun c6 => ?_) (fun c6 => ?_)
            · refine x_aload_n 5 dX7_to_133 rfl ?_
              refine x_iload_n 6 dX7_to_134 rfl ?_
              refine x_iload 4 dX7_to_135 rfl ?_
              refine x_iload 3 dX7_to_137 rfl ?_
              refine x_iload 2 dX7_to_139 rfl ?_
              refine x_iload 1 dX7_to_141 rfl ?_
              refine ca_X7_106 [.int (cst), .int (((σ.2 2) (cst).toNatClampNeg)), .int (((σ.2 3) (cst).toNatClampNeg)), .int ((60 * lat)), .int (((((lon - ((σ.2 2) (cst).toNatClampNeg)) + 540) - ((lon - ((σ.2 2) (cst).toNatClampNeg)) + 540) / 360 * 360) - 180))] [] (c_X7_goes (σ) (cst) (((σ.2 2) (cst).toNatClampNeg)) (((σ.2 3) (cst).toNatClampNeg)) ((60 * lat)) (((((lon - ((σ.2 2) (cst).toNatClampNeg)) + 540) - ((lon - ((σ.2 2) (cst).toNatClampNeg)) + 540) / 360 * 360) - 180)) hM hO.w (by_ok (x7_place c2).1 (hO.ca _ (cl_lt (isn_in hO.co2.1 (by decide) hO.co2.2 c1))) c4) c6 (hO.ca _ (cl_lt (isn_in hO.co2.1 (by decide) hO.co2.2 c1))).1 (hO.ca _ (cl_lt (isn_in hO.co2.1 (by decide) hO.co2.2 c1))).2 q hq (sum_ok hq (parts_rem (by_ok (x7_place c2).1 (hO.ca _ (cl_lt (isn_in hO.co2.1 (by decide) hO.co2.2 c1))) c4) c6) hq2 (Nat.lt_of_le_of_lt (remA_le _ _) (stB_lt (by_ok (x7_place c2).1 (hO.ca _ (cl_lt (isn_in hO.co2.1 (by decide) hO.co2.2 c1))) c4) c6).2) c5)) (mhK hM.1) rfl dX7_to_143 rfl rfl ⟨(Nat.le_of_ble_eq_true rfl), (Nat.le_of_ble_eq_true rfl), (Nat.le_of_ble_eq_true rfl), (Nat.le_of_ble_eq_true rfl), (Nat.le_of_ble_eq_true rfl)⟩ (fun v T7 hq => ?_)
              obtain ⟨rfl, hM7, hF7⟩ := hq
              have hF7 := FM.tr FM.rf hF7
              refine x_aload_n 5 dX7_to_146 rfl ?_
              refine gf_X7_13 rfl dX7_to_147 (mhK hM7.1) ?_
              rw [show gP (T7) 260 (o) = some (o + 2) from (mhP_coastAt hM7.1)]
              refine x_iload_n 6 dX7_to_150 rfl ?_
              refine x_iload_n 7 dX7_to_151 rfl ?_
              refine x_at 152 rfl ?_
              refine x_iastore dX7_to_152 (mhK_coastAt hM7.1) (by rw [show gL (T7) (o + 2) = 30 from (mhL_coastAt hM7.1)]; exact ((isn_in hO.co2.1 (by decide) hO.co2.2 c1))) ?_
              rw [show gR (T7) (o + 2) = ((h_X7_goes (σ) cst (((σ.2 2) (cst).toNatClampNeg)) (((σ.2 3) (cst).toNatClampNeg)) ((60 * lat)) (((((lon - ((σ.2 2) (cst).toNatClampNeg)) + 540) - ((lon - ((σ.2 2) (cst).toNatClampNeg)) + 540) / 360 * 360) - 180)))).2 2 from (hM7.r 2 (by decide))]
              obtain ⟨S8, eS8⟩ : ∃ s9 : HS, s9 = uR (T7) (o + 2) (upd (((h_X7_goes (σ) cst (((σ.2 2) (cst).toNatClampNeg)) (((σ.2 3) (cst).toNatClampNeg)) ((60 * lat)) (((((lon - ((σ.2 2) (cst).toNatClampNeg)) + 540) - ((lon - ((σ.2 2) (cst).toNatClampNeg)) + 540) / 360 * 360) - 180)))).2 2) (cst).toNatClampNeg (lon)) := ⟨_, rfl⟩
              rw [← eS8]
              have hM8 : MI S8 o (fR ((h_X7_goes (σ) cst (((σ.2 2) (cst).toNatClampNeg)) (((σ.2 3) (cst).toNatClampNeg)) ((60 * lat)) (((((lon - ((σ.2 2) (cst).toNatClampNeg)) + 540) - ((lon - ((σ.2 2) (cst).toNatClampNeg)) + 540) / 360 * 360) - 180)))) 2 (upd (((h_X7_goes (σ) cst (((σ.2 2) (cst).toNatClampNeg)) (((σ.2 3) (cst).toNatClampNeg)) ((60 * lat)) (((((lon - ((σ.2 2) (cst).toNatClampNeg)) + 540) - ((lon - ((σ.2 2) (cst).toNatClampNeg)) + 540) / 360 * 360) - 180)))).2 2) (cst).toNatClampNeg (lon))) := by rw [eS8]; exact hM7.pR 2 _
              have hF8 : FM o S S8 := by rw [eS8]; exact hF7.pR _ (by omega) (by omega)
              clear eS8
              refine x_aload_n 5 dX7_to_153 rfl ?_
              refine gf_X7_16 rfl dX7_to_154 (mhK hM8.1) ?_
              rw [show gP (S8) 261 (o) = some (o + 3) from (mhP_coastHigh hM8.1)]
              refine x_iload_n 6 dX7_to_157 rfl ?_
              refine x_iload 2 dX7_to_158 rfl ?_
              refine x_iastore dX7_to_160 (mhK_coastHigh hM8.1) (by rw [show gL (S8) (o + 3) = 30 from (mhL_coastHigh hM8.1)]; exact ((isn_in hO.co2.1 (by decide) hO.co2.2 c1))) ?_
              rw [show gR (S8) (o + 3) = ((h_X7_goes (σ) cst (((σ.2 2) (cst).toNatClampNeg)) (((σ.2 3) (cst).toNatClampNeg)) ((60 * lat)) (((((lon - ((σ.2 2) (cst).toNatClampNeg)) + 540) - ((lon - ((σ.2 2) (cst).toNatClampNeg)) + 540) / 360 * 360) - 180)))).2 3 from (hM8.r 3 (by decide))]
              obtain ⟨S9, eS9⟩ : ∃ s9 : HS, s9 = uR (S8) (o + 3) (upd (((h_X7_goes (σ) cst (((σ.2 2) (cst).toNatClampNeg)) (((σ.2 3) (cst).toNatClampNeg)) ((60 * lat)) (((((lon - ((σ.2 2) (cst).toNatClampNeg)) + 540) - ((lon - ((σ.2 2) (cst).toNatClampNeg)) + 540) / 360 * 360) - 180)))).2 3) (cst).toNatClampNeg ((60 * lat))) := ⟨_, rfl⟩
              rw [← eS9]
              have hM9 : MI S9 o (fR (fR ((h_X7_goes (σ) cst (((σ.2 2) (cst).toNatClampNeg)) (((σ.2 3) (cst).toNatClampNeg)) ((60 * lat)) (((((lon - ((σ.2 2) (cst).toNatClampNeg)) + 540) - ((lon - ((σ.2 2) (cst).toNatClampNeg)) + 540) / 360 * 360) - 180)))) 2 (upd (((h_X7_goes (σ) cst (((σ.2 2) (cst).toNatClampNeg)) (((σ.2 3) (cst).toNatClampNeg)) ((60 * lat)) (((((lon - ((σ.2 2) (cst).toNatClampNeg)) + 540) - ((lon - ((σ.2 2) (cst).toNatClampNeg)) + 540) / 360 * 360) - 180)))).2 2) (cst).toNatClampNeg (lon))) 3 (upd (((h_X7_goes (σ) cst (((σ.2 2) (cst).toNatClampNeg)) (((σ.2 3) (cst).toNatClampNeg)) ((60 * lat)) (((((lon - ((σ.2 2) (cst).toNatClampNeg)) + 540) - ((lon - ((σ.2 2) (cst).toNatClampNeg)) + 540) / 360 * 360) - 180)))).2 3) (cst).toNatClampNeg ((60 * lat)))) := by rw [eS9]; exact hM8.pR 3 _
              have hF9 : FM o S S9 := by rw [eS9]; exact hF8.pR _ (by omega) (by omega)
              clear eS9
              refine x_iload 0 dX7_to_161 rfl ?_
              exact x_ireturn dX7_to_163 rfl (Nat.le_of_ble_eq_true rfl) (Nat.le_of_ble_eq_true rfl) ⟨by rw [h_X7_to, if_neg c1, if_neg c2, if_neg c3, if_neg c4, if_pos c5, if_neg c6], by rw [h_X7_to, if_neg c1, if_neg c2, if_neg c3, if_neg c4, if_pos c5, if_neg c6]; exact hM9, hF9⟩
            · refine x_aload_n 5 dX7_to_119 rfl ?_
              refine x_iload_n 6 dX7_to_120 rfl ?_
              refine x_iload 4 dX7_to_121 rfl ?_
              refine x_iload 3 dX7_to_123 rfl ?_
              refine x_at 125 rfl ?_
              refine x_iload 2 dX7_to_125 rfl ?_
              refine ca_X7_102 [.int (cst), .int (((σ.2 2) (cst).toNatClampNeg)), .int (((σ.2 3) (cst).toNatClampNeg)), .int ((60 * lat))] [] (c_X7_stays (σ) (cst) (((σ.2 2) (cst).toNatClampNeg)) (((σ.2 3) (cst).toNatClampNeg)) ((60 * lat)) hM hO.w (hO.ca _ (cl_lt (isn_in hO.co2.1 (by decide) hO.co2.2 c1))).1 (hO.ca _ (cl_lt (isn_in hO.co2.1 (by decide) hO.co2.2 c1))).2 q hq (sum_ok hq (parts0 c6) hq2 (by split <;> decide) c5)) (mhK hM.1) rfl dX7_to_127 rfl rfl ⟨(Nat.le_of_ble_eq_true rfl), (Nat.le_of_ble_eq_true rfl), (Nat.le_of_ble_eq_true rfl), (Nat.le_of_ble_eq_true rfl), (Nat.le_of_ble_eq_true rfl)⟩ (fun v T10 hq => ?_)
              obtain ⟨rfl, hM10, hF10⟩ := hq
              have hF10 := FM.tr FM.rf hF10
              refine x_goto 146 dX7_to_130 (by decide) ?_
              refine x_aload_n 5 dX7_to_146 rfl ?_
              refine gf_X7_13 rfl dX7_to_147 (mhK hM10.1) ?_
              rw [show gP (T10) 260 (o) = some (o + 2) from (mhP_coastAt hM10.1)]
              refine x_iload_n 6 dX7_to_150 rfl ?_
              refine x_iload_n 7 dX7_to_151 rfl ?_
              refine x_iastore dX7_to_152 (mhK_coastAt hM10.1) (by rw [show gL (T10) (o + 2) = 30 from (mhL_coastAt hM10.1)]; exact ((isn_in hO.co2.1 (by decide) hO.co2.2 c1))) ?_
              rw [show gR (T10) (o + 2) = ((h_X7_stays (σ) cst (((σ.2 2) (cst).toNatClampNeg)) (((σ.2 3) (cst).toNatClampNeg)) ((60 * lat)))).2 2 from (hM10.r 2 (by decide))]
              obtain ⟨S11, eS11⟩ : ∃ s9 : HS, s9 = uR (T10) (o + 2) (upd (((h_X7_stays (σ) cst (((σ.2 2) (cst).toNatClampNeg)) (((σ.2 3) (cst).toNatClampNeg)) ((60 * lat)))).2 2) (cst).toNatClampNeg (lon)) := ⟨_, rfl⟩
              rw [← eS11]
              have hM11 : MI S11 o (fR ((h_X7_stays (σ) cst (((σ.2 2) (cst).toNatClampNeg)) (((σ.2 3) (cst).toNatClampNeg)) ((60 * lat)))) 2 (upd (((h_X7_stays (σ) cst (((σ.2 2) (cst).toNatClampNeg)) (((σ.2 3) (cst).toNatClampNeg)) ((60 * lat)))).2 2) (cst).toNatClampNeg (lon))) := by rw [eS11]; exact hM10.pR 2 _
              have hF11 : FM o S S11 := by rw [eS11]; exact hF10.pR _ (by omega) (by omega)
              clear eS11
              refine x_aload_n 5 dX7_to_153 rfl ?_
              refine gf_X7_16 rfl dX7_to_154 (mhK hM11.1) ?_
              rw [show gP (S11) 261 (o) = some (o + 3) from (mhP_coastHigh hM11.1)]
              refine x_iload_n 6 dX7_to_157 rfl ?_
              refine x_iload 2 dX7_to_158 rfl ?_
              refine x_iastore dX7_to_160 (mhK_coastHigh hM11.1) (by rw [show gL (S11) (o + 3) = 30 from (mhL_coastHigh hM11.1)]; exact ((isn_in hO.co2.1 (by decide) hO.co2.2 c1))) ?_
              rw [show gR (S11) (o + 3) = ((h_X7_stays (σ) cst (((σ.2 2) (cst).toNatClampNeg)) (((σ.2 3) (cst).toNatClampNeg)) ((60 * lat)))).2 3 from (hM11.r 3 (by decide))]
              obtain ⟨S12, eS12⟩ : ∃ s9 : HS, s9 = uR (S11) (o + 3) (upd (((h_X7_stays (σ) cst (((σ.2 2) (cst).toNatClampNeg)) (((σ.2 3) (cst).toNatClampNeg)) ((60 * lat)))).2 3) (cst).toNatClampNeg ((60 * lat))) := ⟨_, rfl⟩
              rw [← eS12]
              have hM12 : MI S12 o (fR (fR ((h_X7_stays (σ) cst (((σ.2 2) (cst).toNatClampNeg)) (((σ.2 3) (cst).toNatClampNeg)) ((60 * lat)))) 2 (upd (((h_X7_stays (σ) cst (((σ.2 2) (cst).toNatClampNeg)) (((σ.2 3) (cst).toNatClampNeg)) ((60 * lat)))).2 2) (cst).toNatClampNeg (lon))) 3 (upd (((h_X7_stays (σ) cst (((σ.2 2) (cst).toNatClampNeg)) (((σ.2 3) (cst).toNatClampNeg)) ((60 * lat)))).2 3) (cst).toNatClampNeg ((60 * lat)))) := by rw [eS12]; exact hM11.pR 3 _
              have hF12 : FM o S S12 := by rw [eS12]; exact hF11.pR _ (by omega) (by omega)
              clear eS12
              refine x_iload 0 dX7_to_161 rfl ?_
              refine x_at 163 rfl ?_
              exact x_ireturn dX7_to_163 rfl (Nat.le_of_ble_eq_true rfl) (Nat.le_of_ble_eq_true rfl) ⟨by rw [h_X7_to, if_neg c1, if_neg c2, if_neg c3, if_neg c4, if_pos c5, if_pos c6], by rw [h_X7_to, if_neg c1, if_neg c2, if_neg c3, if_neg c4, if_pos c5, if_pos c6]; exact hM12, hF12⟩
          · refine x_iconst (-1) dX7_to_112 (by decide) ?_
            exact x_ireturn dX7_to_113 rfl (Nat.le_of_ble_eq_true rfl) (Nat.le_of_ble_eq_true rfl) ⟨by rw [h_X7_to, if_neg c1, if_neg c2, if_neg c3, if_neg c4, if_neg c5], by rw [h_X7_to, if_neg c1, if_neg c2, if_neg c3, if_neg c4, if_neg c5]; exact hM, FM.rf⟩
        · refine x_iconst (-1) dX7_to_87 (by decide) ?_
          exact x_ireturn dX7_to_88 rfl (Nat.le_of_ble_eq_true rfl) (Nat.le_of_ble_eq_true rfl) ⟨by rw [h_X7_to, if_neg c1, if_neg c2, if_neg c3, if_pos c4], by rw [h_X7_to, if_neg c1, if_neg c2, if_neg c3, if_pos c4]; exact hM, FM.rf⟩
      · refine x_iload 1 dX7_to_52 rfl ?_
        refine x_iload 0 dX7_to_54 rfl ?_
        refine x_icmp_ne 61 dX7_to_56 (by decide) (fun c13 => ?_) (fun c13 => ?_)
        · refine x_iload_n 5 dX7_to_61 rfl ?_
          refine x_iload 2 dX7_to_62 rfl ?_
          refine x_isub dX7_to_64 ?_
          refine x_sipush 540 dX7_to_65 (by decide) ?_
          refine x_iadd dX7_to_68 ?_
          refine x_sipush 360 dX7_to_69 (by decide) ?_
          refine x_irem dX7_to_72 (by decide) ?_
          refine x_sipush 180 dX7_to_73 (by decide) ?_
          refine x_isub dX7_to_76 ?_
          refine x_istore [(7, .int (((((lon - ((σ.2 2) (cst).toNatClampNeg)) + 540) - ((lon - ((σ.2 2) (cst).toNatClampNeg)) + 540) / 360 * 360) - 180))), (6, .int ((60 * lat))), (5, .int (((σ.2 3) (cst).toNatClampNeg))), (4, .int (((σ.2 2) (cst).toNatClampNeg))), (0, .ref (o)), (1, .int (cst)), (2, .int (lon)), (3, .int (lat))] dX7_to_77 (Nat.le_of_ble_eq_true rfl) rfl ?_
          refine x_iload 0 dX7_to_79 rfl ?_
          refine x_at 81 rfl ?_
          refine x_sipush (-180) dX7_to_81 (by decide) ?_
          refine x_icmp_ne 89 dX7_to_84 (by decide) (fun c14 => ?_) (fun c14 => ?_)
          · refine x_aload_n 4 dX7_to_89 rfl ?_
            refine x_iload 3 dX7_to_90 rfl ?_
            refine x_iload 0 dX7_to_92 rfl ?_
            refine ca_X7_99 [.int (((σ.2 2) (cst).toNatClampNeg)), .int (((((lon - ((σ.2 2) (cst).toNatClampNeg)) + 540) - ((lon - ((σ.2 2) (cst).toNatClampNeg)) + 540) / 360 * 360) - 180))] [] (c_X7_parts (σ) (((σ.2 2) (cst).toNatClampNeg)) (((((lon - ((σ.2 2) (cst).toNatClampNeg)) + 540) - ((lon - ((σ.2 2) (cst).toNatClampNeg)) + 540) / 360 * 360) - 180)) hM hO (by_ok (x7_place c2).1 (hO.ca _ (cl_lt (isn_in hO.co2.1 (by decide) hO.co2.2 c1))) c14)) (mhK hM.1) rfl dX7_to_94 rfl rfl ⟨(Nat.le_of_ble_eq_true rfl), (Nat.le_of_ble_eq_true rfl), (Nat.le_of_ble_eq_true rfl), (Nat.le_of_ble_eq_true rfl), (Nat.le_of_ble_eq_true rfl)⟩ (fun v T hq => ?_)
            obtain ⟨rfl, rfl⟩ := hq
            refine x_istore [(8, .int ((h_X7_parts (σ) (((σ.2 2) (cst).toNatClampNeg)) (((((lon - ((σ.2 2) (cst).toNatClampNeg)) + 540) - ((lon - ((σ.2 2) (cst).toNatClampNeg)) + 540) / 360 * 360) - 180))))), (7, .int (((((lon - ((σ.2 2) (cst).toNatClampNeg)) + 540) - ((lon - ((σ.2 2) (cst).toNatClampNeg)) + 540) / 360 * 360) - 180))), (6, .int ((60 * lat))), (5, .int (((σ.2 3) (cst).toNatClampNeg))), (4, .int (((σ.2 2) (cst).toNatClampNeg))), (0, .ref (o)), (1, .int (cst)), (2, .int (lon)), (3, .int (lat))] dX7_to_97 (Nat.le_of_ble_eq_true rfl) rfl ?_
            refine x_aload_n 5 dX7_to_99 rfl ?_
            refine gf_X7_92 rfl dX7_to_100 (mhK hM.1) ?_
            rw [show gI (S) 262 (o) = σ.1 6 from (hM.i 6 (by decide))]
            refine x_iload 0 dX7_to_103 rfl ?_
            refine x_iadd dX7_to_105 ?_
            refine x_sipush 600 dX7_to_106 (by decide) ?_
            refine x_icmp_le 114 dX7_to_109 (by decide) (fun c15 => ?_) (fun c15 => ?_)
            · refine x_iload 1 dX7_to_114 rfl ?_
              refine x_if_ne 133 dX7_to_116 (by decide) (fun c16 => ?_) (fun c16 => ?_)
              · refine x_aload_n 5 dX7_to_133 rfl ?_
                refine x_iload_n 6 dX7_to_134 rfl ?_
                refine x_iload 4 dX7_to_135 rfl ?_
                refine x_iload 3 dX7_to_137 rfl ?_
                refine x_iload 2 dX7_to_139 rfl ?_
                refine x_iload 1 dX7_to_141 rfl ?_
                refine ca_X7_106 [.int (cst), .int (((σ.2 2) (cst).toNatClampNeg)), .int (((σ.2 3) (cst).toNatClampNeg)), .int ((60 * lat)), .int (((((lon - ((σ.2 2) (cst).toNatClampNeg)) + 540) - ((lon - ((σ.2 2) (cst).toNatClampNeg)) + 540) / 360 * 360) - 180))] [] (c_X7_goes (σ) (cst) (((σ.2 2) (cst).toNatClampNeg)) (((σ.2 3) (cst).toNatClampNeg)) ((60 * lat)) (((((lon - ((σ.2 2) (cst).toNatClampNeg)) + 540) - ((lon - ((σ.2 2) (cst).toNatClampNeg)) + 540) / 360 * 360) - 180)) hM hO.w (by_ok (x7_place c2).1 (hO.ca _ (cl_lt (isn_in hO.co2.1 (by decide) hO.co2.2 c1))) c14) c16 (hO.ca _ (cl_lt (isn_in hO.co2.1 (by decide) hO.co2.2 c1))).1 (hO.ca _ (cl_lt (isn_in hO.co2.1 (by decide) hO.co2.2 c1))).2 q hq (sum_ok hq (parts_rem (by_ok (x7_place c2).1 (hO.ca _ (cl_lt (isn_in hO.co2.1 (by decide) hO.co2.2 c1))) c14) c16) hq2 (Nat.lt_of_le_of_lt (remA_le _ _) (stB_lt (by_ok (x7_place c2).1 (hO.ca _ (cl_lt (isn_in hO.co2.1 (by decide) hO.co2.2 c1))) c14) c16).2) c15)) (mhK hM.1) rfl dX7_to_143 rfl rfl ⟨(Nat.le_of_ble_eq_true rfl), (Nat.le_of_ble_eq_true rfl), (Nat.le_of_ble_eq_true rfl), (Nat.le_of_ble_eq_true rfl), (Nat.le_of_ble_eq_true rfl)⟩ (fun v T17 hq => ?_)
                obtain ⟨rfl, hM17, hF17⟩ := hq
                have hF17 := FM.tr FM.rf hF17
                refine x_aload_n 5 dX7_to_146 rfl ?_
                refine gf_X7_13 rfl dX7_to_147 (mhK hM17.1) ?_
                rw [show gP (T17) 260 (o) = some (o + 2) from (mhP_coastAt hM17.1)]
                refine x_iload_n 6 dX7_to_150 rfl ?_
                refine x_iload_n 7 dX7_to_151 rfl ?_
                refine x_at 152 rfl ?_
                refine x_iastore dX7_to_152 (mhK_coastAt hM17.1) (by rw [show gL (T17) (o + 2) = 30 from (mhL_coastAt hM17.1)]; exact ((isn_in hO.co2.1 (by decide) hO.co2.2 c1))) ?_
                rw [show gR (T17) (o + 2) = ((h_X7_goes (σ) cst (((σ.2 2) (cst).toNatClampNeg)) (((σ.2 3) (cst).toNatClampNeg)) ((60 * lat)) (((((lon - ((σ.2 2) (cst).toNatClampNeg)) + 540) - ((lon - ((σ.2 2) (cst).toNatClampNeg)) + 540) / 360 * 360) - 180)))).2 2 from (hM17.r 2 (by decide))]
                obtain ⟨S18, eS18⟩ : ∃ s9 : HS, s9 = uR (T17) (o + 2) (upd (((h_X7_goes (σ) cst (((σ.2 2) (cst).toNatClampNeg)) (((σ.2 3) (cst).toNatClampNeg)) ((60 * lat)) (((((lon - ((σ.2 2) (cst).toNatClampNeg)) + 540) - ((lon - ((σ.2 2) (cst).toNatClampNeg)) + 540) / 360 * 360) - 180)))).2 2) (cst).toNatClampNeg (lon)) := ⟨_, rfl⟩
                rw [← eS18]
                have hM18 : MI S18 o (fR ((h_X7_goes (σ) cst (((σ.2 2) (cst).toNatClampNeg)) (((σ.2 3) (cst).toNatClampNeg)) ((60 * lat)) (((((lon - ((σ.2 2) (cst).toNatClampNeg)) + 540) - ((lon - ((σ.2 2) (cst).toNatClampNeg)) + 540) / 360 * 360) - 180)))) 2 (upd (((h_X7_goes (σ) cst (((σ.2 2) (cst).toNatClampNeg)) (((σ.2 3) (cst).toNatClampNeg)) ((60 * lat)) (((((lon - ((σ.2 2) (cst).toNatClampNeg)) + 540) - ((lon - ((σ.2 2) (cst).toNatClampNeg)) + 540) / 360 * 360) - 180)))).2 2) (cst).toNatClampNeg (lon))) := by rw [eS18]; exact hM17.pR 2 _
                have hF18 : FM o S S18 := by rw [eS18]; exact hF17.pR _ (by omega) (by omega)
                clear eS18
                refine x_aload_n 5 dX7_to_153 rfl ?_
                refine gf_X7_16 rfl dX7_to_154 (mhK hM18.1) ?_
                rw [show gP (S18) 261 (o) = some (o + 3) from (mhP_coastHigh hM18.1)]
                refine x_iload_n 6 dX7_to_157 rfl ?_
                refine x_iload 2 dX7_to_158 rfl ?_
                refine x_iastore dX7_to_160 (mhK_coastHigh hM18.1) (by rw [show gL (S18) (o + 3) = 30 from (mhL_coastHigh hM18.1)]; exact ((isn_in hO.co2.1 (by decide) hO.co2.2 c1))) ?_
                rw [show gR (S18) (o + 3) = ((h_X7_goes (σ) cst (((σ.2 2) (cst).toNatClampNeg)) (((σ.2 3) (cst).toNatClampNeg)) ((60 * lat)) (((((lon - ((σ.2 2) (cst).toNatClampNeg)) + 540) - ((lon - ((σ.2 2) (cst).toNatClampNeg)) + 540) / 360 * 360) - 180)))).2 3 from (hM18.r 3 (by decide))]
                obtain ⟨S19, eS19⟩ : ∃ s9 : HS, s9 = uR (S18) (o + 3) (upd (((h_X7_goes (σ) cst (((σ.2 2) (cst).toNatClampNeg)) (((σ.2 3) (cst).toNatClampNeg)) ((60 * lat)) (((((lon - ((σ.2 2) (cst).toNatClampNeg)) + 540) - ((lon - ((σ.2 2) (cst).toNatClampNeg)) + 540) / 360 * 360) - 180)))).2 3) (cst).toNatClampNeg ((60 * lat))) := ⟨_, rfl⟩
                rw [← eS19]
                have hM19 : MI S19 o (fR (fR ((h_X7_goes (σ) cst (((σ.2 2) (cst).toNatClampNeg)) (((σ.2 3) (cst).toNatClampNeg)) ((60 * lat)) (((((lon - ((σ.2 2) (cst).toNatClampNeg)) + 540) - ((lon - ((σ.2 2) (cst).toNatClampNeg)) + 540) / 360 * 360) - 180)))) 2 (upd (((h_X7_goes (σ) cst (((σ.2 2) (cst).toNatClampNeg)) (((σ.2 3) (cst).toNatClampNeg)) ((60 * lat)) (((((lon - ((σ.2 2) (cst).toNatClampNeg)) + 540) - ((lon - ((σ.2 2) (cst).toNatClampNeg)) + 540) / 360 * 360) - 180)))).2 2) (cst).toNatClampNeg (lon))) 3 (upd (((h_X7_goes (σ) cst (((σ.2 2) (cst).toNatClampNeg)) (((σ.2 3) (cst).toNatClampNeg)) ((60 * lat)) (((((lon - ((σ.2 2) (cst).toNatClampNeg)) + 540) - ((lon - ((σ.2 2) (cst).toNatClampNeg)) + 540) / 360 * 360) - 180)))).2 3) (cst).toNatClampNeg ((60 * lat)))) := by rw [eS19]; exact hM18.pR 3 _
                have hF19 : FM o S S19 := by rw [eS19]; exact hF18.pR _ (by omega) (by omega)
                clear eS19
                refine x_iload 0 dX7_to_161 rfl ?_
                exact x_ireturn dX7_to_163 rfl (Nat.le_of_ble_eq_true rfl) (Nat.le_of_ble_eq_true rfl) ⟨by rw [h_X7_to, if_neg c1, if_neg c2, if_pos c3, if_neg c13, if_neg c14, if_pos c15, if_neg c16], by rw [h_X7_to, if_neg c1, if_neg c2, if_pos c3, if_neg c13, if_neg c14, if_pos c15, if_neg c16]; exact hM19, hF19⟩
              · refine x_aload_n 5 dX7_to_119 rfl ?_
                refine x_iload_n 6 dX7_to_120 rfl ?_
                refine x_iload 4 dX7_to_121 rfl ?_
                refine x_iload 3 dX7_to_123 rfl ?_
                refine x_at 125 rfl ?_
                refine x_iload 2 dX7_to_125 rfl ?_
                refine ca_X7_102 [.int (cst), .int (((σ.2 2) (cst).toNatClampNeg)), .int (((σ.2 3) (cst).toNatClampNeg)), .int ((60 * lat))] [] (c_X7_stays (σ) (cst) (((σ.2 2) (cst).toNatClampNeg)) (((σ.2 3) (cst).toNatClampNeg)) ((60 * lat)) hM hO.w (hO.ca _ (cl_lt (isn_in hO.co2.1 (by decide) hO.co2.2 c1))).1 (hO.ca _ (cl_lt (isn_in hO.co2.1 (by decide) hO.co2.2 c1))).2 q hq (sum_ok hq (parts0 c16) hq2 (by split <;> decide) c15)) (mhK hM.1) rfl dX7_to_127 rfl rfl ⟨(Nat.le_of_ble_eq_true rfl), (Nat.le_of_ble_eq_true rfl), (Nat.le_of_ble_eq_true rfl), (Nat.le_of_ble_eq_true rfl), (Nat.le_of_ble_eq_true rfl)⟩ (fun v T20 hq => ?_)
                obtain ⟨rfl, hM20, hF20⟩ := hq
                have hF20 := FM.tr FM.rf hF20
                refine x_goto 146 dX7_to_130 (by decide) ?_
                refine x_aload_n 5 dX7_to_146 rfl ?_
                refine gf_X7_13 rfl dX7_to_147 (mhK hM20.1) ?_
                rw [show gP (T20) 260 (o) = some (o + 2) from (mhP_coastAt hM20.1)]
                refine x_iload_n 6 dX7_to_150 rfl ?_
                refine x_iload_n 7 dX7_to_151 rfl ?_
                refine x_iastore dX7_to_152 (mhK_coastAt hM20.1) (by rw [show gL (T20) (o + 2) = 30 from (mhL_coastAt hM20.1)]; exact ((isn_in hO.co2.1 (by decide) hO.co2.2 c1))) ?_
                rw [show gR (T20) (o + 2) = ((h_X7_stays (σ) cst (((σ.2 2) (cst).toNatClampNeg)) (((σ.2 3) (cst).toNatClampNeg)) ((60 * lat)))).2 2 from (hM20.r 2 (by decide))]
                obtain ⟨S21, eS21⟩ : ∃ s9 : HS, s9 = uR (T20) (o + 2) (upd (((h_X7_stays (σ) cst (((σ.2 2) (cst).toNatClampNeg)) (((σ.2 3) (cst).toNatClampNeg)) ((60 * lat)))).2 2) (cst).toNatClampNeg (lon)) := ⟨_, rfl⟩
                rw [← eS21]
                have hM21 : MI S21 o (fR ((h_X7_stays (σ) cst (((σ.2 2) (cst).toNatClampNeg)) (((σ.2 3) (cst).toNatClampNeg)) ((60 * lat)))) 2 (upd (((h_X7_stays (σ) cst (((σ.2 2) (cst).toNatClampNeg)) (((σ.2 3) (cst).toNatClampNeg)) ((60 * lat)))).2 2) (cst).toNatClampNeg (lon))) := by rw [eS21]; exact hM20.pR 2 _
                have hF21 : FM o S S21 := by rw [eS21]; exact hF20.pR _ (by omega) (by omega)
                clear eS21
                refine x_aload_n 5 dX7_to_153 rfl ?_
                refine gf_X7_16 rfl dX7_to_154 (mhK hM21.1) ?_
                rw [show gP (S21) 261 (o) = some (o + 3) from (mhP_coastHigh hM21.1)]
                refine x_iload_n 6 dX7_to_157 rfl ?_
                refine x_iload 2 dX7_to_158 rfl ?_
                refine x_iastore dX7_to_160 (mhK_coastHigh hM21.1) (by rw [show gL (S21) (o + 3) = 30 from (mhL_coastHigh hM21.1)]; exact ((isn_in hO.co2.1 (by decide) hO.co2.2 c1))) ?_
                rw [show gR (S21) (o + 3) = ((h_X7_stays (σ) cst (((σ.2 2) (cst).toNatClampNeg)) (((σ.2 3) (cst).toNatClampNeg)) ((60 * lat)))).2 3 from (hM21.r 3 (by decide))]
                obtain ⟨S22, eS22⟩ : ∃ s9 : HS, s9 = uR (S21) (o + 3) (upd (((h_X7_stays (σ) cst (((σ.2 2) (cst).toNatClampNeg)) (((σ.2 3) (cst).toNatClampNeg)) ((60 * lat)))).2 3) (cst).toNatClampNeg ((60 * lat))) := ⟨_, rfl⟩
                rw [← eS22]
                have hM22 : MI S22 o (fR (fR ((h_X7_stays (σ) cst (((σ.2 2) (cst).toNatClampNeg)) (((σ.2 3) (cst).toNatClampNeg)) ((60 * lat)))) 2 (upd (((h_X7_stays (σ) cst (((σ.2 2) (cst).toNatClampNeg)) (((σ.2 3) (cst).toNatClampNeg)) ((60 * lat)))).2 2) (cst).toNatClampNeg (lon))) 3 (upd (((h_X7_stays (σ) cst (((σ.2 2) (cst).toNatClampNeg)) (((σ.2 3) (cst).toNatClampNeg)) ((60 * lat)))).2 3) (cst).toNatClampNeg ((60 * lat)))) := by rw [eS22]; exact hM21.pR 3 _
                have hF22 : FM o S S22 := by rw [eS22]; exact hF21.pR _ (by omega) (by omega)
                clear eS22
                refine x_iload 0 dX7_to_161 rfl ?_
                refine x_at 163 rfl ?_
                exact x_ireturn dX7_to_163 rfl (Nat.le_of_ble_eq_true rfl) (Nat.le_of_ble_eq_true rfl) ⟨by rw [h_X7_to, if_neg c1, if_neg c2, if_pos c3, if_neg c13, if_neg c14, if_pos c15, if_pos c16], by rw [h_X7_to, if_neg c1, if_neg c2, if_pos c3, if_neg c13, if_neg c14, if_pos c15, if_pos c16]; exact hM22, hF22⟩
            · refine x_iconst (-1) dX7_to_112 (by decide) ?_
              exact x_ireturn dX7_to_113 rfl (Nat.le_of_ble_eq_true rfl) (Nat.le_of_ble_eq_true rfl) ⟨by rw [h_X7_to, if_neg c1, if_neg c2, if_pos c3, if_neg c13, if_neg c14, if_neg c15], by rw [h_X7_to, if_neg c1, if_neg c2, if_pos c3, if_neg c13, if_neg c14, if_neg c15]; exact hM, FM.rf⟩
          · refine x_iconst (-1) dX7_to_87 (by decide) ?_
            exact x_ireturn dX7_to_88 rfl (Nat.le_of_ble_eq_true rfl) (Nat.le_of_ble_eq_true rfl) ⟨by rw [h_X7_to, if_neg c1, if_neg c2, if_pos c3, if_neg c13, if_pos c14], by rw [h_X7_to, if_neg c1, if_neg c2, if_pos c3, if_neg c13, if_pos c14]; exact hM, FM.rf⟩
        · refine x_iconst (-1) dX7_to_59 (by decide) ?_
          exact x_ireturn dX7_to_60 rfl (Nat.le_of_ble_eq_true rfl) (Nat.le_of_ble_eq_true rfl) ⟨by rw [h_X7_to, if_neg c1, if_neg c2, if_pos c3, if_pos c13], by rw [h_X7_to, if_neg c1, if_neg c2, if_pos c3, if_pos c13]; exact hM, FM.rf⟩
    · refine x_iconst (-1) dX7_to_22 (by decide) ?_
      exact x_ireturn dX7_to_23 rfl (Nat.le_of_ble_eq_true rfl) (Nat.le_of_ble_eq_true rfl) ⟨by rw [h_X7_to, if_neg c1, if_pos c2], by rw [h_X7_to, if_neg c1, if_pos c2]; exact hM, FM.rf⟩
