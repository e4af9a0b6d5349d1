/-! TO -/
def toX (σ : MS) (cst fr lo hi B : Int32) : MS := if B = 0 then h_X7_stays σ cst fr lo hi else h_X7_goes σ cst fr lo hi B
def toN (σ : MS) (cst lon lat fr lo B : Int32) : Int32 × MS := if f_X7_isPlace lon lat = 0 then (-1, σ) else if fr = lon ∧ lo = 60 * lat then (-1, σ) else if B = -180 then (-1, σ) else if σ.1 6 + h_X7_parts σ fr B ≤ 600 then (h_X7_parts σ fr B, fR (fR (toX σ cst fr lo (60 * lat) B) 2 (upd ((toX σ cst fr lo (60 * lat) B).2 2) cst.toNatClampNeg lon)) 3 (upd ((toX σ cst fr lo (60 * lat) B).2 3) cst.toNatClampNeg (60 * lat))) else (-1, σ)
theorem to_nf {σ : MS} {cst lon lat fr lo B : Int32} (h : ¬ f_X7_in cst 0 (σ.1 3 - 1) = 0) (e2 : σ.2 2 cst.toNatClampNeg = fr) (e3 : σ.2 3 cst.toNatClampNeg = lo) (eB : lon - fr + 540 - (lon - fr + 540) / 360 * 360 - 180 = B) : h_X7_to σ cst lon lat = toN σ cst lon lat fr lo B := by
  unfold h_X7_to toN toX
  rw [if_neg h, e2, e3, eB]
  by_cases a : f_X7_isPlace lon lat = 0
  · rw [if_pos a, if_pos a]
  rw [if_neg a, if_neg a]
  by_cases b : fr = lon
  · rw [if_pos b]
    by_cases c : lo = 60 * lat
    · rw [if_pos c, if_pos ⟨b, c⟩]
    rw [if_neg c, if_neg (show ¬ (fr = lon ∧ lo = 60 * lat) from fun z => c z.2)]
    by_cases d : B = -180
    · rw [if_pos d, if_pos d]
    rw [if_neg d, if_neg d]
    by_cases e : σ.1 6 + h_X7_parts σ fr B ≤ 600
    · rw [if_pos e, if_pos e]
      by_cases f : B = 0
      · simp only [if_pos f]
      · simp only [if_neg f]
    · rw [if_neg e, if_neg e]
  · rw [if_neg b, if_neg (show ¬ (fr = lon ∧ lo = 60 * lat) from fun z => b z.1)]
    by_cases d : B = -180
    · rw [if_pos d, if_pos d]
    rw [if_neg d, if_neg d]
    by_cases e : σ.1 6 + h_X7_parts σ fr B ≤ 600
    · rw [if_pos e, if_pos e]
      by_cases f : B = 0
      · simp only [if_pos f]
      · simp only [if_neg f]
    · rw [if_neg e, if_neg e]
theorem goes_nf {σ : MS} {cst fr lo hi B : Int32} : h_X7_goes σ cst fr lo hi B = lp_X7_goes cst fr lo hi B (dirB B) (stB B) (stB B) 1 σ 0 := by
  unfold h_X7_goes dirB stB
  by_cases c : 0 ≤ B
  · simp only [if_pos c]
  · simp only [if_neg c]
theorem pieces_parts {σ : MS} {n W : Nat} {fr lon B : Int32} (hNW : NWp n W) (hW : 15 ≤ W ∧ W ≤ 60) (hw : σ.1 2 = nI W) (h2 : 0 ≤ fr.toInt ∧ fr.toInt ≤ 359) (h1 : 0 ≤ lon.toInt ∧ lon.toInt ≤ 359) (eB : lon - fr + 540 - (lon - fr + 540) / 360 * 360 - 180 = B) (hB : ¬ B = -180) : f_X6_piecesOf (σ.1 2) fr (stL (stT fr lon)) (stD (stT fr lon)) = h_X7_parts σ fr B ∧ (¬ B = 0 → ∃ b L : Nat, b < W ∧ 0 < L ∧ L < 180 ∧ f_X6_goneFromEdge (nI W) fr (dirB B) = nI b ∧ (b : Int) = ((dirB B).toInt * fr.toInt) % W ∧ stL (stT fr lon) = nI L ∧ stB B = L ∧ h_X7_parts σ fr B = nI (cmN W b L)) := by
  have hst := step_eq h1 h2
  rw [eB] at hst
  obtain ⟨s1, s2, s3⟩ := hst.2 hB
  have hbok := by_ok h1 h2 (by rw [eB]; exact hB)
  rw [eB] at hbok
  rw [s1, s2, hw]
  by_cases h0 : B = 0
  · refine ⟨?_, fun z => absurd h0 z⟩
    subst h0
    rw [parts0 rfl, hw]
    unfold f_X6_piecesOf
    rw [if_pos (by decide +kernel), show dirB 0 = 1 from rfl]
    have hg := gone_edge (W := W) h2.1 h2.2 (by omega) hW.2
    by_cases c : f_X7_isEdge (nI W) fr = 0
    · rw [if_pos c, if_neg (fun z => hg.mp z c)]; rfl
    · rw [if_neg c, if_pos (hg.mpr c)]; rfl
  · obtain ⟨b, hb, hgb, hbm⟩ := gone_b (W := W) (dirB_or B) h2.1 h2.2 (by omega) hW.2
    have hL := stB_lt hbok h0
    have hed : ∀ e, e < 181 → (f_X7_isEdge (nI W) (atE fr (dirB B) (nI e)) = 0 ↔ ¬ (b + e) % W = 0) := fun e he => edge_b hNW (by omega) (dirB_or B) h2.1 h2.2 hbm he
    have hp : h_X7_parts σ fr B = nI (cmN W b (stB B)) := by
      rw [parts_rem hbok h0, hw, rem_all (by omega) hb hed (by omega) hL.2]
    refine ⟨?_, fun _ => ⟨b, stB B, hb, by omega, hL.2, hgb, hbm, rfl, rfl, hp⟩⟩
    rw [hp]
    unfold f_X6_piecesOf
    rw [if_neg (nI_ne0 (by omega) (by omega)), hgb, pcs_wh hW hb hL.2]
theorem coast_cases {p : Nat} (hp : p ≤ 30) (i : Int32) : (f_X7_in i 0 (nI p - 1) = 0 ∧ (i < 0 ∨ nI p ≤ i)) ∨ ∃ i' : Nat, i' < p ∧ i = nI i' ∧ ¬ f_X7_in i 0 (nI p - 1) = 0 := by
  rw [in_zero]
  by_cases c1 : i < 0
  · exact Or.inl ⟨Or.inl c1, Or.inl c1⟩
  obtain ⟨j, hj, rfl⟩ := nI_of c1
  have e : (nI p - 1).toInt = (p : Int) - 1 := pk_sub_toInt (b := 1) (by omega) (by omega)
  by_cases c : j < p
  · refine Or.inr ⟨j, c, rfl, fun z => z.elim c1 (fun q => ?_)⟩
    rw [t_lt, e, nI_toInt hj] at q; omega
  · refine Or.inl ⟨Or.inr ?_, Or.inr (nI_le (by omega) hj)⟩
    rw [t_lt, e, nI_toInt hj]; omega
theorem lat_eq {a b : Int32} (ha : -90 ≤ a.toInt ∧ a.toInt ≤ 90) (hb : -90 ≤ b.toInt ∧ b.toInt ≤ 90) (h : 60 * a = 60 * b) : a = b := by
  have e1 : (60 * a).toInt = 60 * a.toInt := t_mul (by show _ ≤ 60 * a.toInt; omega) (by show 60 * a.toInt < _; omega)
  have e2 : (60 * b).toInt = 60 * b.toInt := t_mul (by show _ ≤ 60 * b.toInt; omega) (by show 60 * b.toInt < _; omega)
  refine t_ext ?_
  have := congrArg Int32.toInt h
  rw [e1, e2] at this; omega
theorem isAt_eq {fr a0 lon lat : Int32} (ha : -90 ≤ a0.toInt ∧ a0.toInt ≤ 90) (hb : -90 ≤ lat.toInt ∧ lat.toInt ≤ 90) : f_X0_isAt fr a0 lon lat = 0 ↔ ¬ (fr = lon ∧ 60 * a0 = 60 * lat) := by
  unfold f_X0_isAt
  by_cases c : fr = lon
  · rw [if_pos c]
    by_cases d : a0 = lat
    · rw [if_pos d]; exact ⟨fun z => absurd z (by decide), fun z => absurd ⟨c, by rw [d]⟩ z⟩
    · rw [if_neg d]; exact ⟨fun _ z => d (lat_eq ha hb z.2), fun _ => rfl⟩
  · rw [if_neg c]; exact ⟨fun _ z => c z.1, fun _ => rfl⟩
section
variable {k : KT} {S : HS} {x n c q p : Nat} {ca pa na : Nat → Nat} {σ : MS}
theorem CX.moved {i : Nat} {lon lat : Int32} (h : CX k S x n c q p ca pa na σ) (hi : i < c) (hr : -90 ≤ lat.toInt ∧ lat.toInt ≤ 90) : CX k (uI (uI S 32 (ca i) lon) 33 (ca i) lat) x n c q p ca pa na (fR (fR σ 2 (upd (σ.2 2) i lon)) 3 (upd (σ.2 3) i (60 * lat))) := by
  have e : ∀ f b, f ≠ 32 → f ≠ 33 → gI (uI (uI S 32 (ca i) lon) 33 (ca i) lat) f b = gI S f b := fun f b h1 h2 => by
    rw [gI_uI, if_neg (fun z => h2 z.1), gI_uI, if_neg (fun z => h1 z.1)]
  refine ⟨h.1, h.lw, h.l, ⟨?_, fun g2 h2 => ?_⟩, ⟨(h.cp.1.pI (by decide)).pI (by decide), h.cp.2.1, fun j hj => ?_⟩, CQ.cg (σ := σ) rfl rfl rfl ⟨fun j hj => ((h.qq.1 j hj).pI (by decide)).pI (by decide), fun g2 h2 => ((h.qq.2 g2 h2).pI (by decide)).pI (by decide)⟩, CW.cg (σ := σ) ⟨rfl, rfl, rfl, rfl, rfl, rfl, rfl, rfl⟩ ⟨(h.w.1.pI (by decide)).pI (by decide), h.w.2.1, fun j hj => ((h.w.2.2.1 j hj).pI (by decide)).pI (by decide), fun g2 h2 => ⟨((h.w.2.2.2 g2 h2).1.pI (by decide)).pI (by decide), (h.w.2.2.2 g2 h2).2⟩⟩, CB.cg (σ := σ) ⟨rfl, rfl, rfl, rfl, rfl, rfl, rfl, rfl⟩ ((h.b.pI (by decide) (by decide)).pI (by decide) (by decide))⟩
  · rw [e _ _ (by decide) (by decide), e _ _ (by decide) (by decide), e _ _ (by decide) (by decide), e _ _ (by decide) (by decide), e _ _ (by decide) (by decide)]; exact h.m.1
  · rw [e _ _ (by decide) (by decide), e _ _ (by decide) (by decide)]; exact h.m.2 g2 h2
  · show gK S (ca j) = 2 ∧ gI (uI (uI S 32 (ca i) lon) 33 (ca i) lat) 32 (ca j) = upd (σ.2 2) i lon j ∧ upd (σ.2 3) i (60 * lat) j = 60 * gI (uI (uI S 32 (ca i) lon) 33 (ca i) lat) 33 (ca j) ∧ _ ≤ (gI (uI (uI S 32 (ca i) lon) 33 (ca i) lat) 33 (ca j)).toInt ∧ (gI (uI (uI S 32 (ca i) lon) 33 (ca i) lat) 33 (ca j)).toInt ≤ _
    have hj2 := h.cp.2.2 j hj
    by_cases ej : j = i
    · subst ej
      rw [gI_uI, if_neg (fun z => absurd z.1 (by decide)), gI_uI, if_pos ⟨rfl, rfl⟩, gI_uI, if_pos ⟨rfl, rfl⟩, pk_us, pk_us]
      exact ⟨hj2.1, rfl, rfl, hr⟩
    · have hne : ca j ≠ ca i := fun z => ej (h.cp.2.1 j i hj hi z)
      rw [gI_uI, if_neg (fun z => hne z.2), gI_uI, if_neg (fun z => hne z.2), gI_uI, if_neg (fun z => hne z.2), gI_uI, if_neg (fun z => hne z.2), pk_un ej, pk_un ej]
      exact hj2
end
set_option maxRecDepth 100000 in
theorem c_X6_to {k : KT} {S : HS} {x n c q p : Nat} {ca pa na : Nat → Nat} {σ : MS} (hI : CX k S x n c q p ca pa na σ) (hO : okS σ) (cst lon lat : Int32) : Ct k (mt_X6_to (rm 10 27 11770)) [.ref x, .int cst, .int lon, .int lat] S (fun v T => v = some (.int (h_X7_to σ cst lon lat).1) ∧ CI k T x (h_X7_to σ cst lon lat).2 ∧ FX x S T) := by
  have hc1 := hI.c1
  rcases coast_cases hc1.1 cst with ⟨e0, ho⟩ | ⟨i, hi, rfl, e0⟩
  · rw [← hc1.2] at e0
    refine Ct.ofF (by decide +kernel) (Nat.le_of_ble_eq_true rfl) ?_
    refine x_lv [(0, .ref (x)), (1, .int (cst)), (2, .int (lon)), (3, .int (lat))] [0, 1, 2, 3] rfl ?_
    refine x_aload_n 0 dX6_to_0 rfl ?_
    refine x_iload_n 1 dX6_to_1 rfl ?_
    refine ca_X6_73 [.int (cst)] [] (c_coastOfN hI ho) hI.l.1 rfl dX6_to_2 rfl rfl ⟨(Nat.le_of_ble_eq_true rfl), (Nat.le_of_ble_eq_true rfl), (Nat.le_of_ble_eq_true rfl), (Nat.le_of_ble_eq_true rfl), (Nat.le_of_ble_eq_true rfl)⟩ (fun v T hq => ?_)
    obtain ⟨rfl, rfl⟩ := hq
    refine x_astoreN [(4, .null), (0, .ref (x)), (1, .int (cst)), (2, .int (lon)), (3, .int (lat))] dX6_to_5 (Nat.le_of_ble_eq_true rfl) rfl ?_
    refine x_aloadN 0 dX6_to_7 rfl ?_
    refine x_ifnullN 30 dX6_to_9 (by decide) ?_
    refine x_iconst (-1) dX6_to_30 (by decide) ?_
    exact x_ireturn dX6_to_31 rfl (Nat.le_of_ble_eq_true rfl) (Nat.le_of_ble_eq_true rfl) ⟨by rw [h_X7_to, if_pos e0], by rw [h_X7_to, if_pos e0]; exact ⟨n, c, q, p, ca, pa, na, hI⟩, FX.rf⟩
  · rw [← hc1.2] at e0
    have hKi := (hI.cp.2.2 i hi).1
    obtain ⟨fr, e32⟩ : ∃ z : Int32, gI S 32 (ca i) = z := ⟨_, rfl⟩
    obtain ⟨a0, e33⟩ : ∃ z : Int32, gI S 33 (ca i) = z := ⟨_, rfl⟩
    obtain ⟨B, eB⟩ : ∃ z : Int32, lon - fr + 540 - (lon - fr + 540) / 360 * 360 - 180 = z := ⟨_, rfl⟩
    have efr : σ.2 2 i = fr := by rw [← (hI.cp.2.2 i hi).2.1]; exact e32
    have elo : σ.2 3 i = 60 * a0 := by rw [(hI.cp.2.2 i hi).2.2.1, e33]
    have ha0 : -90 ≤ a0.toInt ∧ a0.toInt ≤ 90 := by have := (hI.cp.2.2 i hi).2.2.2; rw [e33] at this; exact this
    have hfr : 0 ≤ fr.toInt ∧ fr.toInt ≤ 359 := by rw [← efr]; exact hO.ca i (by omega)
    have h9 := gor9 hI.nn
    have hNW := nwp_of hI.nn
    have hw := wid_n hO hI.n1 hI.nn
    obtain ⟨W, eW⟩ : ∃ W : Nat, 360 / n = W := ⟨_, rfl⟩
    rw [eW] at h9 hNW hw
    have hW := h9.2
    have hlo : a0 * 60 = 60 * a0 := Int32.mul_comm _ _
    have hhi : a0 * 60 + (lat - a0) * 60 = 60 * lat := by rw [← Int32.add_mul, Int32.add_comm, Int32.sub_add_cancel, Int32.mul_comm]
    have hri : (lat - a0) * 60 = 60 * lat - a0 * 60 := by rw [Int32.sub_mul, Int32.mul_comm lat]
    rw [to_nf (fr := fr) (lo := 60 * a0) (B := B) e0 (by rw [nI_clamp (by omega)]; exact efr) (by rw [nI_clamp (by omega)]; exact elo) eB]
    refine Ct.ofF (by decide +kernel) (Nat.le_of_ble_eq_true rfl) ?_
    refine x_lv [(0, .ref (x)), (1, .int (nI i)), (2, .int (lon)), (3, .int (lat))] [0, 1, 2, 3] rfl ?_
    refine x_aload_n 0 dX6_to_0 rfl ?_
    refine x_iload_n 1 dX6_to_1 rfl ?_
    refine ca_X6_73 [.int (nI i)] [] (c_coastOf hI hi) hI.l.1 rfl dX6_to_2 rfl rfl ⟨(Nat.le_of_ble_eq_true rfl), (Nat.le_of_ble_eq_true rfl), (Nat.le_of_ble_eq_true rfl), (Nat.le_of_ble_eq_true rfl), (Nat.le_of_ble_eq_true rfl)⟩ (fun v T hq => ?_)
    obtain ⟨rfl, rfl⟩ := hq
    refine x_astore [(4, .ref (ca i)), (0, .ref (x)), (1, .int (nI i)), (2, .int (lon)), (3, .int (lat))] dX6_to_5 (Nat.le_of_ble_eq_true rfl) rfl ?_
    refine x_aload 0 dX6_to_7 rfl ?_
    refine x_ifnull dX6_to_9 ?_
    refine x_iload_n 3 dX6_to_12 rfl ?_
    refine x_iload_n 4 dX6_to_13 rfl ?_
    refine ca_X6_56 [.int (lon), .int (lat)] [] (c_X6_isPlace (lon) (lat)) rfl dX6_to_14 rfl rfl ⟨(Nat.le_of_ble_eq_true rfl), (Nat.le_of_ble_eq_true rfl), (Nat.le_of_ble_eq_true rfl), (Nat.le_of_ble_eq_true rfl), (Nat.le_of_ble_eq_true rfl)⟩ (fun v T hq => ?_)
    obtain ⟨rfl, rfl⟩ := hq
    refine x_if_eq 30 dX6_to_17 (by decide) (fun c1 => ?_) (fun c1 => ?_)
    · refine x_iconst (-1) dX6_to_30 (by decide) ?_
      exact x_ireturn dX6_to_31 rfl (Nat.le_of_ble_eq_true rfl) (Nat.le_of_ble_eq_true rfl) ⟨by rw [toN, if_pos (by rw [← place_eq]; exact c1)], by rw [toN, if_pos (by rw [← place_eq]; exact c1)]; exact ⟨n, c, q, p, ca, pa, na, hI⟩, FX.rf⟩
    · refine x_aload 0 dX6_to_20 rfl ?_
      refine x_iload_n 3 dX6_to_22 rfl ?_
      refine x_iload_n 4 dX6_to_23 rfl ?_
      refine ca_X6_77 [.int (lon), .int (lat)] [] (c_X0_isAt (fr) (a0) (lon) (lat) hKi e32 e33) hKi rfl dX6_to_24 rfl rfl ⟨(Nat.le_of_ble_eq_true rfl), (Nat.le_of_ble_eq_true rfl), (Nat.le_of_ble_eq_true rfl), (Nat.le_of_ble_eq_true rfl), (Nat.le_of_ble_eq_true rfl)⟩ (fun v T hq => ?_)
      obtain ⟨rfl, rfl⟩ := hq
      refine x_if_eq 32 dX6_to_27 (by decide) (fun c2 => ?_) (fun c2 => ?_)
      · have hpl := place_lat (lon := lon) (lat := lat) (by rw [← place_eq]; exact c1)
        rw [toN, if_neg (by rw [← place_eq]; exact c1), if_neg ((isAt_eq ha0 hpl.2).mp c2)]
        have hne : ca i ≠ gN S := fun z => by have := hI.lw.2.1 (ca i) (by rw [hKi]; decide); omega
        refine nw_X6_80 rfl dX6_to_32 (Nat.le_of_ble_eq_true rfl) (Nat.le_of_ble_eq_true rfl) ?_
        refine x_dup dX6_to_35 rfl ?_
        refine x_aload 0 dX6_to_36 rfl ?_
        refine x_iload_n 3 dX6_to_38 rfl ?_
        refine x_iload_n 4 dX6_to_39 rfl ?_
        refine ca_X6_82 [.ref (ca i), .int lon, .int lat] [.ref (gN S)] (c_X5_init (l0 := fr) (a0 := a0) lon lat (by rw [gK_nO, if_pos rfl]) (by rw [gK_nO, if_neg hne]; exact hKi) (by rw [gI_nO, if_neg hne]; exact e32) (by rw [gI_nO, if_neg hne]; exact e33)) rfl dX6_to_40 rfl rfl ⟨(Nat.le_of_ble_eq_true rfl), (Nat.le_of_ble_eq_true rfl), (Nat.le_of_ble_eq_true rfl), (Nat.le_of_ble_eq_true rfl), (Nat.le_of_ble_eq_true rfl)⟩ (fun v T hq => ?_)
        obtain ⟨rfl, rfl⟩ := hq
        obtain ⟨S1, eS1⟩ : ∃ s9 : HS, s9 = uI (uI (uI (uI (uI (nO S 6) 192 (gN S) fr) 193 (gN S) (a0 * 60)) 194 (gN S) ((lat - a0) * 60)) 196 (gN S) (stD (stT fr lon))) 195 (gN S) (stL (stT fr lon)) := ⟨_, rfl⟩
        rw [← eS1]
        have hE1 : EX S S1 := by rw [eS1]; exact (((((EX.rf.nO 6).uI (Nat.le_refl _)).uI (Nat.le_refl _)).uI (Nat.le_refl _)).uI (Nat.le_refl _)).uI (Nat.le_refl _)
        have hW1 : LW k S1 := by rw [eS1]; exact hI.lw.nO 6
        have hI1 := hI.ex hE1 hW1
        have hSt : STp S1 (gN S) fr (a0 * 60) ((lat - a0) * 60) (stL (stT fr lon)) (stD (stT fr lon)) := by rw [eS1]; refine ⟨if_pos rfl, ?_⟩; simp [gI_uI]
        clear eS1
        refine x_astore [(5, .ref (gN S)), (4, .ref (ca i)), (0, .ref (x)), (1, .int (nI i)), (2, .int (lon)), (3, .int (lat))] dX6_to_43 (Nat.le_of_ble_eq_true rfl) rfl ?_
        refine x_aload 0 dX6_to_45 rfl ?_
        refine gf_X6_85 rfl dX6_to_47 hSt.1 ?_
        rw [show gI (S1) 195 (gN S) = stL (stT fr lon) from hSt.2.2.2.2.1]
        refine x_sipush 180 dX6_to_50 (by decide) ?_
        refine x_icmp_ne 58 dX6_to_53 (by decide) (fun c3 => ?_) (fun c3 => ?_)
        · have hB180 : ¬ B = -180 := fun z => c3 ((by rw [← eB] at z; exact (step_eq hpl.1 hfr).1.mpr z))
          obtain ⟨hpc, hpd⟩ := pieces_parts hNW hW hw hfr hpl.1 eB hB180
          obtain ⟨sd1, sd2, sd3⟩ := (step_eq hpl.1 hfr).2 (by rw [eB]; exact hB180)
          rw [eB] at sd1 sd2 sd3
          rw [if_neg hB180]
          refine x_aload_n 2 dX6_to_58 rfl ?_
          refine x_aload 0 dX6_to_59 rfl ?_
          refine ca_X6_88 [.ref (gN S)] [] (c_X6_piecesOf (σ.1 2) (fr) (stL (stT fr lon)) (stD (stT fr lon))  hI1.l.1 hI1.m.1.1 hSt.1 hSt.2.1 hSt.2.2.2.2.1 hSt.2.2.2.2.2) hI1.l.1 rfl dX6_to_61 rfl rfl ⟨(Nat.le_of_ble_eq_true rfl), (Nat.le_of_ble_eq_true rfl), (Nat.le_of_ble_eq_true rfl), (Nat.le_of_ble_eq_true rfl), (Nat.le_of_ble_eq_true rfl)⟩ (fun v T hq => ?_)
          obtain ⟨rfl, rfl⟩ := hq
          rw [hpc]
          refine x_istore [(6, .int ((h_X7_parts σ fr B))), (5, .ref (gN S)), (4, .ref (ca i)), (0, .ref (x)), (1, .int (nI i)), (2, .int (lon)), (3, .int (lat))] dX6_to_64 (Nat.le_of_ble_eq_true rfl) rfl ?_
          refine x_aload_n 3 dX6_to_66 rfl ?_
          refine gf_X6_92 rfl dX6_to_67 hI1.l.1 ?_
          rw [show gI (S1) 229 (x) = σ.1 6 from hI1.m.1.2.1]
          refine x_iload 0 dX6_to_70 rfl ?_
          refine x_iadd dX6_to_72 ?_
          refine x_sipush 600 dX6_to_73 (by decide) ?_
          refine x_icmp_le 81 dX6_to_76 (by decide) (fun c4 => ?_) (fun c4 => ?_)
          · rw [if_pos c4]
            refine x_aload 1 dX6_to_81 rfl ?_
            refine gf_X6_85 rfl dX6_to_83 hSt.1 ?_
            rw [show gI (S1) 195 (gN S) = stL (stT fr lon) from hSt.2.2.2.2.1]
            refine x_if_ne 99 dX6_to_86 (by decide) (fun c5 => ?_) (fun c5 => ?_)
            · refine x_aload_n 3 dX6_to_99 rfl ?_
              refine x_iload_n 4 dX6_to_100 rfl ?_
              refine x_aload 1 dX6_to_101 rfl ?_
              refine x_iload 0 dX6_to_103 rfl ?_
              have hB0 : ¬ B = 0 := fun y => c5 (sd3.mp y)
              obtain ⟨b, L, hb, hL, hL2, hgb, hbm, eL1, eL2, hcm⟩ := hpd hB0
              have hSt2 : STp S1 (gN S) fr (a0 * 60) ((lat - a0) * 60) (nI L) (dirB B) := by rw [sd1, eL1] at hSt; exact hSt
              have hc13 := cm_le (L := L) hW.1 hb hL2
              have hqq := sum_ok (R := cmN W b L) hI.q1.2 hcm hI.q1.1 (by omega) c4
              rw [hcm]
              refine ca_X6_99 [.int (nI i), .ref (gN S), .int (nI (cmN W b L))] [] (c_cutS (cst := nI i) (hi := 60 * lat) (by_ := B) hI1 hNW hW hw hfr.1 hfr.2 (dirB_or B) hb hgb hbm hL hL2 hqq hSt2 hri) hI1.l.1 rfl dX6_to_105 rfl rfl ⟨(Nat.le_of_ble_eq_true rfl), (Nat.le_of_ble_eq_true rfl), (Nat.le_of_ble_eq_true rfl), (Nat.le_of_ble_eq_true rfl), (Nat.le_of_ble_eq_true rfl)⟩ (fun v T hq => ?_)
              obtain ⟨rfl, ⟨q2, pa2, hI2⟩, u2, u3⟩ := hq
              rw [hlo, show lp_X7_goes (nI i) fr (60 * a0) (60 * lat) B (dirB B) L L 1 σ 0 = toX σ (nI i) fr (60 * a0) (60 * lat) B from by rw [toX, if_neg hB0, goes_nf, eL2]] at hI2
              have hI3 := hI2.moved (lon := lon) (lat := lat) hi hpl.2
              refine x_aload 2 dX6_to_108 rfl ?_
              refine x_iload_n 5 dX6_to_110 rfl ?_
              refine pf_X6_103 rfl dX6_to_111 (hI2.cp.2.2 i hi).1 ?_
              refine x_aload 2 dX6_to_114 rfl ?_
              refine x_iload_n 6 dX6_to_116 rfl ?_
              refine pf_X6_106 rfl dX6_to_117 (hI2.cp.2.2 i hi).1 ?_
              refine x_at 120 rfl ?_
              refine x_iload 0 dX6_to_120 rfl ?_
              exact x_ireturn dX6_to_122 rfl (Nat.le_of_ble_eq_true rfl) (Nat.le_of_ble_eq_true rfl) ⟨rfl, ⟨n, c, q2, p, ca, pa2, na, by rw [nI_clamp (by omega)]; exact hI3⟩, FX.tr hE1.fx (FX.tr u2 (FX.tr (FX.pI (by decide)) (FX.pI (by decide))))⟩
            · refine x_aload_n 3 dX6_to_89 rfl ?_
              refine x_iload_n 4 dX6_to_90 rfl ?_
              refine x_aload 1 dX6_to_91 rfl ?_
              have hB0 : B = 0 := sd3.mpr c5
              have hSt2 : STp S1 (gN S) fr (a0 * 60) ((lat - a0) * 60) (stL (stT fr lon)) 1 := by rw [sd1, hB0] at hSt; exact hSt
              have hqq := sum_ok (R := if f_X7_isEdge (σ.1 2) fr = 0 then 1 else 2) hI.q1.2 (parts0 hB0) hI.q1.1 (by split <;> decide) c4
              refine ca_X6_95 [.int (nI i), .ref (gN S)] [] (c_cutU (cst := nI i) (hi := 60 * lat) hI1 hO hNW hW hw hfr.1 hfr.2 hqq hSt2 hhi) hI1.l.1 rfl dX6_to_93 rfl rfl ⟨(Nat.le_of_ble_eq_true rfl), (Nat.le_of_ble_eq_true rfl), (Nat.le_of_ble_eq_true rfl), (Nat.le_of_ble_eq_true rfl), (Nat.le_of_ble_eq_true rfl)⟩ (fun v T hq => ?_)
              obtain ⟨rfl, ⟨q2, pa2, hI2⟩, u2, u3⟩ := hq
              rw [hlo, show h_X7_stays σ (nI i) fr (60 * a0) (60 * lat) = toX σ (nI i) fr (60 * a0) (60 * lat) B from by rw [toX, if_pos hB0]] at hI2
              have hI3 := hI2.moved (lon := lon) (lat := lat) hi hpl.2
              refine x_goto 108 dX6_to_96 (by decide) ?_
              refine x_aload 2 dX6_to_108 rfl ?_
              refine x_iload_n 5 dX6_to_110 rfl ?_
              refine pf_X6_103 rfl dX6_to_111 (hI2.cp.2.2 i hi).1 ?_
              refine x_aload 2 dX6_to_114 rfl ?_
              refine x_iload_n 6 dX6_to_116 rfl ?_
              refine pf_X6_106 rfl dX6_to_117 (hI2.cp.2.2 i hi).1 ?_
              refine x_iload 0 dX6_to_120 rfl ?_
              exact x_ireturn dX6_to_122 rfl (Nat.le_of_ble_eq_true rfl) (Nat.le_of_ble_eq_true rfl) ⟨rfl, ⟨n, c, q2, p, ca, pa2, na, by rw [nI_clamp (by omega)]; exact hI3⟩, FX.tr hE1.fx (FX.tr u2 (FX.tr (FX.pI (by decide)) (FX.pI (by decide))))⟩
          · refine x_iconst (-1) dX6_to_79 (by decide) ?_
            exact x_ireturn dX6_to_80 rfl (Nat.le_of_ble_eq_true rfl) (Nat.le_of_ble_eq_true rfl) ⟨by rw [if_neg c4], by rw [if_neg c4]; exact ⟨n, c, q, p, ca, pa, na, hI1⟩, hE1.fx⟩
        · refine x_iconst (-1) dX6_to_56 (by decide) ?_
          refine x_at 57 rfl ?_
          exact x_ireturn dX6_to_57 rfl (Nat.le_of_ble_eq_true rfl) (Nat.le_of_ble_eq_true rfl) ⟨by rw [if_pos (by rw [← eB]; exact (step_eq hpl.1 hfr).1.mp c3)], by rw [if_pos (by rw [← eB]; exact (step_eq hpl.1 hfr).1.mp c3)]; exact ⟨n, c, q, p, ca, pa, na, hI1⟩, hE1.fx⟩
      · refine x_iconst (-1) dX6_to_30 (by decide) ?_
        exact x_ireturn dX6_to_31 rfl (Nat.le_of_ble_eq_true rfl) (Nat.le_of_ble_eq_true rfl) ⟨by rw [toN, if_neg (by rw [← place_eq]; exact c1), if_pos (Decidable.byContradiction (fun z => c2 ((isAt_eq ha0 (place_lat (lon := lon) (lat := lat) (by rw [← place_eq]; exact c1)).2).mpr z)))], by rw [toN, if_neg (by rw [← place_eq]; exact c1), if_pos (Decidable.byContradiction (fun z => c2 ((isAt_eq ha0 (place_lat (lon := lon) (lat := lat) (by rw [← place_eq]; exact c1)).2).mpr z)))]; exact ⟨n, c, q, p, ca, pa, na, hI⟩, FX.rf⟩
