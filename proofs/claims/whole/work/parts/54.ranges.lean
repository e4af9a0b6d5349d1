/-! THE REFERENCE'S SETTING -/
def fl (σ : MS) (g : Int32) (j m : Nat) : List Nat := (List.range' j m).filter (fun i => decide (¬ σ.2 7 i = 0 ∧ σ.2 8 i = g))
theorem fl_hl {σ : MS} {p g : Nat} : fl σ (nI g) 0 p = hl σ p g := by unfold fl hl; rw [List.range_eq_range']
theorem st1_eq {σ : MS} {g : Int32} : ∀ (m j c : Nat) (r : Nat → Int32), j + m < 2 ^ 31 → c + m < 2 ^ 31 → (st1 σ g m j c r).1 = c + (fl σ g j m).length ∧ (∀ i, i < c → (st1 σ g m j c r).2 i = r i) ∧ ∀ i, i < (fl σ g j m).length → (st1 σ g m j c r).2 (c + i) = nI ((fl σ g j m).getD i 0) := by
  intro m
  induction m with
  | zero => intro j c r _ _; exact ⟨rfl, fun _ _ => rfl, fun i hi => absurd hi (Nat.not_lt_zero _)⟩
  | succ m ih =>
    intro j c r h1 h2
    unfold fl
    rw [st1, List.range'_succ, List.filter_cons, nI_clamp (by omega)]
    by_cases a : σ.2 7 j = 0
    · rw [if_pos a, if_neg (by simp [a])]; exact ih (j + 1) c r (by omega) (by omega)
    · rw [if_neg a]
      by_cases b : σ.2 8 j = g
      · rw [if_pos b, if_pos (by simp [a, b]), nI_clamp (by omega)]
        obtain ⟨q1, q2, q3⟩ := ih (j + 1) (c + 1) (upd r c (nI j)) (by omega) (by omega)
        unfold fl at q1 q3
        refine ⟨by rw [q1, List.length_cons]; omega, fun i hi => by rw [q2 i (by omega), pk_un (by omega)], fun i hi => ?_⟩
        cases i with
        | zero => exact (q2 c (by omega)).trans (by rw [pk_us]; rfl)
        | succ i =>
          rw [List.length_cons] at hi
          rw [show c + (i + 1) = c + 1 + i by omega, q3 i (by omega)]; rfl
      · rw [if_neg b, if_neg (by simp [b])]; exact ih (j + 1) c r (by omega) (by omega)
section
variable {k : KT} {S : HS} {x n c q p : Nat} {ca pa na : Nat → Nat} {σ : MS}
theorem CX.cn (hI : CX k S x n c q p ca pa na σ) (g : Int32) : cN σ g p 0 ≤ 6 := by
  have hp := hI.p1
  have h1 := st1_cnt (σ := σ) (g := g) p 0 0 (fun _ => 0)
  have h2 := (st1_eq (σ := σ) (g := g) p 0 0 (fun _ => 0) (by omega) (by omega)).1
  rw [h1] at h2
  rcases Nat.eq_zero_or_pos (fl σ g 0 p).length with z | z
  · omega
  · have hm := List.getElem_mem z
    generalize (fl σ g 0 p)[0] = t at hm
    unfold fl at hm
    rw [List.mem_filter, List.mem_range'_1] at hm
    have hd := of_decide_eq_true hm.2
    obtain ⟨g2, hg2, e2⟩ := (hI.w.2.2.1 t (by omega)).2.2.2.2.1
    have e3 : g = nI g2 := hd.2.symm.trans e2
    rw [e3, fl_hl] at h2
    have := (hI.w.2.2.2 g2 hg2).2
    rw [e3]; omega
theorem CX.pr99 (hI : CX k S x n c q p ca pa na σ) {g : Nat} : ∀ h, h ∈ hl σ p g → ∃ v : Nat, σ.2 12 h = nI v ∧ v ≤ 99 := fun h hh => by
  have hN := (hI.w.2.2.1 h (hl_mem.mp hh).1).2.2.2.2.2.2.1
  obtain ⟨v, hv, ev⟩ := nI_of (x := σ.2 12 h) (by rw [t_lt]; show ¬ _ < 0; omega)
  rw [ev, nI_toInt hv] at hN
  exact ⟨v, ev, by omega⟩
theorem CX.rep (hI : CX k S x n c q p ca pa na σ) {g : Nat} (hg : g < n) (h0 w0 b0 : Nat → Int32) : ∃ he : Nat → Int32, st1 σ (nI g) p 0 0 h0 = ((hl σ p g).length, he) ∧ (∀ i, i < (hl σ p g).length → he i = nI ((hl σ p g).getD i 0) ∧ (hl σ p g).getD i 0 < 2 ^ 31) ∧ (st3 σ he (hl σ p g).length (5 ^ (hl σ p g).length) 0 w0 b0 (-1)).2.2 = nI (bst σ p g).1 ∧ ∀ i, i < (hl σ p g).length → (st3 σ he (hl σ p g).length (5 ^ (hl σ p g).length) 0 w0 b0 (-1)).2.1 i = nI ((bst σ p g).2 i) := by
  have hp := hI.p1
  have h6 := (hI.w.2.2.2 g hg).2
  obtain ⟨a1, a2, a3⟩ := st1_eq (σ := σ) (g := nI g) p 0 0 h0 (by omega) (by omega)
  rw [fl_hl] at a1 a3
  have hH : ∀ i, i < (hl σ p g).length → (st1 σ (nI g) p 0 0 h0).2 i = nI ((hl σ p g).getD i 0) ∧ (hl σ p g).getD i 0 < 2 ^ 31 := fun i hi => by
    have := a3 i hi
    rw [Nat.zero_add] at this
    have hm := (hl_mem.mp (getD_mem hi)).1
    exact ⟨this, by omega⟩
  have hpw := pow5_lt h6
  have hR := st3_eq (σ := σ) (H := hl σ p g) hH hI.pr99 h6 (5 ^ (hl σ p g).length) 0 w0 b0 (-1) (595, fun _ => 0) (by omega) ⟨by rw [if_pos rfl], Nat.le_refl _, fun z => absurd rfl z⟩
  have hb : (bstH σ (hl σ p g)).1 ≤ 594 := bst_lt h6 (fun h hh => by obtain ⟨v, ev, v2⟩ := hI.pr99 h hh; rw [ev, nI_clamp (by omega)]; exact v2)
  have hb2 : bst σ p g = sRn (bOk σ (hl σ p g)) (bAp σ (hl σ p g)) (bCs σ (hl σ p g)) (hl σ p g).length (5 ^ (hl σ p g).length) 0 (595, fun _ => 0) := rfl
  rw [← hb2] at hR
  have hb3 : (bst σ p g).1 ≤ 594 := hb
  obtain ⟨r1, r2, r3⟩ := hR
  refine ⟨(st1 σ (nI g) p 0 0 h0).2, ?_, hH, ?_, r3 (by omega)⟩
  · rw [Nat.zero_add] at a1; rw [← a1]
  · rw [r1, if_neg (by omega)]
theorem c_setR {o : Nat} (hI : CX k S x n c q p ca pa na σ) (hM : MI S o σ) (hO : okS σ) (i : Int32) : Ct k (mt_X7_set (rm 8 0 0)) [.ref o, .int i] S (Pm o S (setR σ p i, σ)) := by
  have hp := hI.p1
  have hnb := hI.nb
  refine c_X7_set i (setR σ p i) hM hO hp.2 hp.1 hI.cn (fun z => by unfold setR; rw [if_pos z]) (fun z h0 w0 b0 => ?_)
  rcases name_cases hp.1 (σ.2 7) i with ⟨e0, ho⟩ | ⟨i', hi', rfl, ei⟩
  · rw [← hp.2] at e0; exact absurd e0 z
  rw [← hp.2] at ei
  have ht : ¬ σ.2 7 i' = 0 := fun y => z (ei.mpr y)
  obtain ⟨g, hg, eg⟩ := (hI.w.2.2.1 i' hi').2.2.2.2.1
  obtain ⟨he, r1, r2, -, r4⟩ := hI.rep hg h0 w0 b0
  have hmem : i' ∈ hl σ p g := hl_mem.mpr ⟨hi', ht, eg⟩
  have hix := getD_idxOf hmem
  rw [nI_clamp (by omega), eg]
  refine ⟨_, he, (hl σ p g).idxOf i', r1, hix.1, by rw [(r2 _ hix.1).1, hix.2], fun t ht2 y => ?_, ?_⟩
  · rw [(r2 t (by omega)).1] at y
    have h3 := (nI_eq (r2 t (by omega)).2 (by omega)).mp y
    have h4 := getD_inj (hl_nodup (σ := σ) (p := p) (g := g)) (show t < (hl σ p g).length by omega) hix.1 (by rw [h3, hix.2])
    omega
  · rw [r4 _ hix.1]
    unfold setR
    rw [if_neg z, nI_clamp (by omega), eg, nI_clamp (by omega)]
theorem c_costR {o : Nat} (hI : CX k S x n c q p ca pa na σ) (hM : MI S o σ) (hO : okS σ) (i : Int32) : Ct k (mt_X7_cost (rm 8 0 0)) [.ref o, .int i] S (Pm o S (costR σ p i, σ)) := by
  have hp := hI.p1
  have hnb := hI.nb
  refine c_X7_cost i (costR σ p i) hM hO hp.2 hp.1 hI.cn (fun z => by unfold costR; rw [if_pos z]) (fun z h0 w0 b0 => ?_)
  rcases gore_cases hnb.2 (by omega) i with ⟨e0, ho⟩ | ⟨g, hg, rfl, e0⟩
  · rw [← hI.n1] at e0; exact absurd e0 z
  obtain ⟨he, r1, r2, r3, r4⟩ := hI.rep hg h0 w0 b0
  refine ⟨_, he, r1, ?_⟩
  rw [r3]
  unfold costR
  rw [if_neg z, nI_clamp (by omega)]
end
/-! RANGES -/
theorem okS_coast {σ : MS} (h : okS σ) (lon lat : Int32) : okS (g_X7_coast σ lon lat).2 := by
  unfold g_X7_coast
  by_cases c1 : f_X7_isPlace lon lat = 0
  · rw [if_pos c1]; exact h
  rw [if_neg c1]
  by_cases c2 : σ.1 3 = 30
  · rw [if_pos c2]; exact h
  rw [if_neg c2]
  have hpl := place_lat c1
  have hl := lat_rng hpl.2
  obtain ⟨c, hc, ec⟩ := h.co
  have hne : c ≠ 30 := fun z => c2 (by rw [ec, z]; rfl)
  exact ((h.u2 hpl.1).u3 ⟨t_le.mp hl.1, t_le.mp hl.2⟩).fld (by decide) (fun _ => ⟨c + 1, by omega, by rw [ec, nI_1]⟩) (fun z => absurd z (by decide)) (fun z => absurd z (by decide)) (fun z => absurd z (by decide)) (fun z => absurd z (by decide))
theorem okS_lpp {ac al : Int32} : ∀ (m j : Nat) (σ : MS), okS σ → okS (lp_X7_paper ac al m j σ).2 := by
  intro m
  induction m with
  | zero => intro j σ h; exact h
  | succ m ih => intro j σ h; rw [lp_X7_paper]; exact ih (j + 1) _ (h.u13 (Or.inr rfl))
theorem okS_paper {σ : MS} (h : okS σ) (ac al : Int32) : okS (h_X7_paper σ ac al).2 := by
  unfold h_X7_paper
  by_cases c1 : f_X7_in ac 0 50 = 0
  · rw [if_pos c1]; exact h
  rw [if_neg c1]
  by_cases c2 : f_X7_in al 0 50 = 0
  · rw [if_pos c2]; exact h
  rw [if_neg c2]
  have h2 : okS (fI (fI σ 10 ac) 11 al) := (h.fld (by decide) (fun z => absurd z (by decide)) (fun z => absurd z (by decide)) (fun z => absurd z (by decide)) (fun _ => x_in_ok c1) (fun z => absurd z (by decide))).fld (by decide) (fun z => absurd z (by decide)) (fun z => absurd z (by decide)) (fun z => absurd z (by decide)) (fun z => absurd z (by decide)) (fun _ => x_in_ok c2)
  by_cases c3 : ac = σ.1 10
  · rw [if_pos c3]
    by_cases c4 : al = σ.1 11
    · rw [if_pos c4]; exact h
    · rw [if_neg c4]; exact okS_lpp _ _ _ h2
  · rw [if_neg c3]; exact okS_lpp _ _ _ h2
theorem okS_lpe : ∀ (m j : Nat) (σ : MS) (n : Int32), okS σ → okS (lp_X7_edition m j σ n).2 := by
  intro m
  induction m with
  | zero => intro j σ n h; exact h
  | succ m ih =>
    intro j σ n h
    rw [lp_X7_edition]
    by_cases c : σ.2 13 (nI j).toNatClampNeg = 0
    · rw [if_pos c]; exact ih (j + 1) _ _ h
    · rw [if_neg c]; exact ih (j + 1) _ _ ((h.u13 (Or.inl rfl)).free (by decide))
theorem okS_edition {σ : MS} (h : okS σ) : okS (h_X7_edition σ).2 := by
  unfold h_X7_edition
  exact okS_lpe _ _ _ _ (h.fld (by decide) (fun z => absurd z (by decide)) (fun z => absurd z (by decide)) (fun z => absurd z (by decide)) (fun z => absurd z (by decide)) (fun z => absurd z (by decide)))
/-! the ranges but for the number of pieces -/
theorem okP_adds {σ : MS} {g cst s1 h1 s2 h2 : Int32} (h : okS (fI σ 6 0)) : okS (fI (g_X7_adds σ g cst s1 h1 s2 h2) 6 0) := by
  unfold g_X7_adds
  have e : ∀ (τ : MS) (v : Int32) (r : Nat → Int32), fI (fR (fI τ 6 v) 13 r) 6 0 = fR (fI τ 6 0) 13 r := fun τ v r => by
    refine Prod.ext (funext fun j => ?_) rfl
    show (if j = 6 then 0 else if j = 6 then v else τ.1 j) = if j = 6 then 0 else τ.1 j
    by_cases z : j = 6
    · rw [if_pos z, if_pos z]
    · rw [if_neg z, if_neg z, if_neg z]
  rw [e]
  exact (((((((h.free (a := 4) (by decide)).free (a := 5) (by decide)).free (a := 6) (by decide)).free (a := 6) (by decide)).free (a := 6) (by decide)).free (a := 6) (by decide)).u13 (Or.inr rfl))
theorem okP_goes {cst fr lo hi by_ dr : Int32} {P : Nat} : ∀ (m j : Nat) (σ : MS) (bg : Int32), okS (fI σ 6 0) → okS (fI (lp_X7_goes cst fr lo hi by_ dr P m j σ bg) 6 0) := by
  intro m
  induction m with
  | zero => intro j σ bg h; exact h
  | succ m ih =>
    intro j σ bg h
    rw [goes_step]
    by_cases c : nI P ≤ nI j ∨ ¬ f_X7_isEdge (σ.1 2) (atE fr dr (nI j)) = 0
    · rw [if_pos c]; exact ih (j + 1) _ _ (okP_adds h)
    · rw [if_neg c]; exact ih (j + 1) _ _ h
theorem okP_toX {σ : MS} {cst fr lo hi B : Int32} (h : okS (fI σ 6 0)) : okS (fI (toX σ cst fr lo hi B) 6 0) := by
  unfold toX
  by_cases c : B = 0
  · rw [if_pos c]
    unfold h_X7_stays
    by_cases d : f_X7_isEdge (σ.1 2) fr = 0
    · rw [if_pos d]; exact okP_adds h
    · rw [if_neg d]; exact okP_adds (okP_adds h)
  · rw [if_neg c, goes_nf]; exact okP_goes _ _ _ _ h
theorem okP_of {σ : MS} (h : okS (fI σ 6 0)) (hc : ∃ c : Nat, c ≤ 600 ∧ σ.1 6 = nI c) : okS σ := by
  have e : fI (fI σ 6 0) 6 (σ.1 6) = σ := by
    refine Prod.ext (funext fun j => ?_) rfl
    show (if j = 6 then σ.1 6 else if j = 6 then 0 else σ.1 j) = σ.1 j
    by_cases z : j = 6
    · rw [if_pos z, z]
    · rw [if_neg z, if_neg z]
  rw [← e]
  exact h.fld (by decide) (fun z => absurd z (by decide)) (fun _ => hc) (fun z => absurd z (by decide)) (fun z => absurd z (by decide)) (fun z => absurd z (by decide))
theorem okS_to {σ : MS} (h : okS σ) (cst lon lat : Int32) (hc : ∃ c : Nat, c ≤ 600 ∧ (h_X7_to σ cst lon lat).2.1 6 = nI c) : okS (h_X7_to σ cst lon lat).2 := by
  by_cases c0 : f_X7_in cst 0 (σ.1 3 - 1) = 0
  · rw [h_X7_to, if_pos c0]; exact h
  have e := to_nf (σ := σ) (cst := cst) (lon := lon) (lat := lat) c0 rfl rfl rfl
  rw [e] at hc ⊢
  generalize σ.2 2 cst.toNatClampNeg = fr at *
  generalize σ.2 3 cst.toNatClampNeg = lo at *
  generalize lon - fr + 540 - (lon - fr + 540) / 360 * 360 - 180 = B at *
  unfold toN at hc ⊢
  by_cases c1 : f_X7_isPlace lon lat = 0
  · rw [if_pos c1]; exact h
  rw [if_neg c1] at hc ⊢
  by_cases c2 : fr = lon ∧ lo = 60 * lat
  · rw [if_pos c2]; exact h
  rw [if_neg c2] at hc ⊢
  by_cases c3 : B = -180
  · rw [if_pos c3]; exact h
  rw [if_neg c3] at hc ⊢
  by_cases c4 : σ.1 6 + h_X7_parts σ fr B ≤ 600
  · rw [if_pos c4] at hc ⊢
    have hpl := place_lat c1
    have hl := lat_rng hpl.2
    refine okP_of ?_ hc
    have h0 : okS (fI σ 6 0) := h.fld (by decide) (fun z => absurd z (by decide)) (fun _ => ⟨0, by decide, rfl⟩) (fun z => absurd z (by decide)) (fun z => absurd z (by decide)) (fun z => absurd z (by decide))
    exact ((okP_toX (cst := cst) (fr := fr) (lo := lo) (hi := 60 * lat) (B := B) h0).u2 (i := cst.toNatClampNeg) hpl.1).u3 (i := cst.toNatClampNeg) ⟨t_le.mp hl.1, t_le.mp hl.2⟩
  · rw [if_neg c4]; exact h
