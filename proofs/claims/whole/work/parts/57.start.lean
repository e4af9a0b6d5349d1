/-! THE START -/
theorem tm {w : Cond} {i : Nat} (h : tables_1[i]? = some w) : w ∈ lw_tbl := List.mem_append_right _ (List.mem_of_getElem? h)
theorem cos_in : ∀ j, j < 91 → Cond.eq (.elem (.static "GlobeWorks" "COS" "[I") (.int (Int32.ofNat j))) (.int (cosL.getD j 0)) ∈ flatC (Cond.and given_1 narrow_1) := by decide +kernel
theorem gor_in : ∀ j, j < 9 → Cond.eq (.elem (.static "GlobeWorks" "GORE_NUMBERS" "[I") (.int (Int32.ofNat j))) (.int (gorL.getD j 0)) ∈ flatC (Cond.and given_1 narrow_1) := by decide +kernel
theorem start_gd {s : State} {args : Array Value} (l : Launch) (hts : ∀ w ∈ lw_tbl, w.before args s = true) (hgv : (Cond.and given_1 narrow_1).before args s = true) : ∃ k : KT, k.1 = l ∧ k.2.2.2.2 = s.heap.size ∧ Gd k s ∧ k.2.2.2.1 0 < s.heap.size := by
  have hs := flat_of_before _ hgv
  have hA : ∀ a : Nat, a < s.heap.size → ¬ (fun q : Nat => s.heap.size ≤ q) a := fun a h => Nat.not_le.mpr h
  obtain ⟨d0, i0, h0⟩ := u_known (C := RJx4a65c) (T := TJx4a65c) (N := 3) (n := 3) hts inJx4a65c (hts _ (wsL_law_in _ tw_1_17))
  obtain ⟨d1, i1, h1⟩ := u_known (C := RX0) (T := TX0) (N := 2) (n := 2) hts inX0 (hts _ (wsL_law_in _ tw_7_1))
  obtain ⟨d2, i2, h2⟩ := u_known (C := RX1) (T := TX1) (N := 5) (n := 5) hts inX1 (hts _ (wsL_law_in _ tw_2_4))
  obtain ⟨d3, i3, h3⟩ := u_known (C := RX2) (T := TX2) (N := 9) (n := 9) hts inX2 (hts _ (wsL_law_in _ tw_19_14))
  obtain ⟨d4, i4, h4⟩ := u_known (C := RX3) (T := TX3) (N := 5) (n := 5) hts inX3 (hts _ (wsL_law_in _ tw_13_5))
  obtain ⟨d5, i5, h5⟩ := u_known (C := RX4) (T := TX4) (N := 3) (n := 3) hts inX4 (hts _ (wsL_law_in _ tw_1_22))
  obtain ⟨d6, i6, h6⟩ := u_known (C := RX5) (T := TX5) (N := 5) (n := 5) hts inX5 (hts _ (wsL_law_in _ tw_10_9))
  obtain ⟨d7, i7, h7⟩ := u_known (C := RX6) (T := TX6) (N := 9) (n := 9) hts inX6 (hts _ (wsL_law_in _ tw_1_1))
  obtain ⟨d8, i8, h8⟩ := u_known (C := RX7) (T := TX7) (N := 26) (n := 26) hts inX7 (hts _ (wsL_law_in _ tw_1_4))
  obtain ⟨dC, dI, hKc⟩ : ∃ (dC : Nat → ClassId) (dI : Nat → Nat → Nat), ∀ (c : Nat) (q : vw_C), vwCl[c]? = some q → u_Kn s q.1 q.2.1 q.2.2 (dC c) (dI c) := by
    refine ⟨fun c => match c with | 0 => d0 | 1 => d1 | 2 => d2 | 3 => d3 | 4 => d4 | 5 => d5 | 6 => d6 | 7 => d7 | _ => d8, fun c => match c with | 0 => i0 | 1 => i1 | 2 => i2 | 3 => i3 | 4 => i4 | 5 => i5 | 6 => i6 | 7 => i7 | _ => i8, ?_⟩
    intro c q hq
    match c, hq with
    | 0, hq => cases hq; exact h0
    | 1, hq => cases hq; exact h1
    | 2, hq => cases hq; exact h2
    | 3, hq => cases hq; exact h3
    | 4, hq => cases hq; exact h4
    | 5, hq => cases hq; exact h5
    | 6, hq => cases hq; exact h6
    | 7, hq => cases hq; exact h7
    | 8, hq => cases hq; exact h8
    | c + 9, hq => simp [vwCl] at hq
  obtain ⟨cI, kI, mI, aI, bI, eI⟩ := Cond.arrayClass_spec (hts (.arrayClass .int) (tm (i := 71) (by decide +kernel)))
  obtain ⟨cZ, kZ, mZ, aZ, bZ, eZ⟩ := Cond.arrayClass_spec (hts (.arrayClass .boolean) (tm (i := 663) (by decide +kernel)))
  obtain ⟨mG, cG, kG, a1, a2, a3, a4, a5⟩ := Cond.arrayOver_spec (hts (.arrayOver (.object "GlobeWorks$Gore")) (tm (i := 84) (by decide +kernel)))
  obtain ⟨mO, cO, kO, b1, b2, b3, b4, b5⟩ := Cond.arrayOver_spec (hts (.arrayOver (.object "java/lang/Object")) (tm (i := 239) (by decide +kernel)))
  obtain ⟨t0, et0, hT0⟩ := va_Tof (tm := .static "java/util/ArrayList" "DEFAULTCAPACITY_EMPTY_ELEMENTDATA" "[Ljava/lang/Object;") (ty := .object "java/lang/Object") (N := 0) (f := fun _ => .null) (A := fun q : Nat => s.heap.size ≤ q) (by decide) (hs (.arrayOf (.static "java/util/ArrayList" "DEFAULTCAPACITY_EMPTY_ELEMENTDATA" "[Ljava/lang/Object;") (.object "java/lang/Object")) (by decide +kernel)) (va_eqt (hs (.eq (.length (.static "java/util/ArrayList" "DEFAULTCAPACITY_EMPTY_ELEMENTDATA" "[Ljava/lang/Object;")) (.int (Int32.ofNat 0))) (by decide +kernel))) (fun j hj => absurd hj (Nat.not_lt_zero _)) hA
  obtain ⟨t1, et1, hT1⟩ := va_Tof (tm := .static "GlobeWorks" "COS" "[I") (ty := .int) (N := 91) (f := fun j => .int (cosL.getD j 0)) (A := fun q : Nat => s.heap.size ≤ q) (by decide) (hs (.arrayOf (.static "GlobeWorks" "COS" "[I") .int) (by decide +kernel)) (va_eqt (hs (.eq (.length (.static "GlobeWorks" "COS" "[I")) (.int (Int32.ofNat 91))) (by decide +kernel))) (fun j hj => va_eqt (hs _ (cos_in j hj))) hA
  obtain ⟨t2, et2, hT2⟩ := va_Tof (tm := .static "GlobeWorks" "GORE_NUMBERS" "[I") (ty := .int) (N := 9) (f := fun j => .int (gorL.getD j 0)) (A := fun q : Nat => s.heap.size ≤ q) (by decide) (hs (.arrayOf (.static "GlobeWorks" "GORE_NUMBERS" "[I") .int) (by decide +kernel)) (va_eqt (hs (.eq (.length (.static "GlobeWorks" "GORE_NUMBERS" "[I")) (.int (Int32.ofNat 9))) (by decide +kernel))) (fun j hj => va_eqt (hs _ (gor_in j hj))) hA
  have hZ0 := va_Zof (A := fun q : Nat => s.heap.size ≤ q) (hts (.laysStatic "java/util/ArrayList" "DEFAULTCAPACITY_EMPTY_ELEMENTDATA" "[Ljava/lang/Object;") (tm (i := 39) (by decide +kernel))) (hts _ (wsL_law_in _ tw_1_18)) et0 hA
  have hZ1 := va_Zof (A := fun q : Nat => s.heap.size ≤ q) (hts (.laysStatic "GlobeWorks" "COS" "[I") (tm (i := 156) (by decide +kernel))) (hts _ (wsL_law_in _ tw_1_2)) et1 hA
  have hZ2 := va_Zof (A := fun q : Nat => s.heap.size ≤ q) (hts (.laysStatic "GlobeWorks" "GORE_NUMBERS" "[I") (tm (i := 76) (by decide +kernel))) (hts _ (wsL_law_in _ tw_1_2)) et2 hA
  obtain ⟨mi, hMi⟩ := va_Mi.of (C := "[Ljava/lang/Object;") (hs (.isRef (.mirror "[Ljava/lang/Object;")) (by decide +kernel))
  have ht0 : t0 < s.heap.size := by
    obtain ⟨cell, q1, _⟩ := hT0
    exact (Array.getElem?_eq_some_iff.mp q1).1
  refine ⟨(l, (dC, dI), (fun j => match j with | 0 => cI | 1 => cZ | 2 => cG | _ => cO), (fun j => match j with | 0 => t0 | 1 => t1 | 2 => t2 | _ => mi), s.heap.size), rfl, rfl, ⟨⟨hKc, ?_⟩, ⟨va_Nw.of rfl (hts (.methodLinkNest RX6 44 yX1_init "GlobeWorks") (tm (i := 86) (by decide +kernel))), va_Nw.of rfl (hts (.methodLinkNest RX6 21 yX4_init "GlobeWorks") (tm (i := 54) (by decide +kernel))), va_Nw.of rfl (hts (.methodLinkNest RX5 42 yX6_roundBy "GlobeWorks") (tm (i := 379) (by decide +kernel))), va_Nw.of rfl (hts (.methodLinkNest RX5 27 yX6_rest "GlobeWorks") (tm (i := 281) (by decide +kernel)))⟩, ?_, ⟨va_AO.of (hts (.arrayOver (.object "GlobeWorks$Gore")) (tm (i := 84) (by decide +kernel))), va_AO.of (hts (.arrayOver (.object "java/lang/Object")) (tm (i := 239) (by decide +kernel)))⟩, ⟨hZ0, hZ1, hZ2⟩, ⟨hT0, hT1, hT2⟩, hMi, va_Dc.of (hts (.declares ⟨"java/lang/Object", "getClass", "()Ljava/lang/Class;"⟩) (tm (i := 840) (by decide +kernel))), Nat.le_refl _⟩, ht0⟩
  · intro j q hq
    match j, hq with
    | 0, hq => cases hq; exact ⟨fun n z => ⟨(fun k h => by cases h), kI, bI, mI, eI⟩, aI⟩
    | 1, hq => cases hq; exact ⟨fun n z => ⟨(fun k h => by cases h), kZ, bZ, mZ, eZ⟩, aZ⟩
    | 2, hq => cases hq; exact ⟨fun n z => ⟨(fun k h => by cases h), kG, a3, mG, a4⟩, kG, mG, a3, a4, a1, a5⟩
    | 3, hq => cases hq; exact ⟨fun n z => ⟨(fun k h => by cases h), kO, b3, mO, b4⟩, kO, mO, b3, b4, b1, b5⟩
    | j + 4, hq => simp [kT] at hq
  · intro q hq
    simp only [csL, List.mem_cons, List.not_mem_nil, or_false] at hq
    rcases hq with rfl | rfl | rfl
    · exact va_Nw.of rfl (hts (.castable RX0 "java/lang/Object") (tm (i := 834) (by decide +kernel)))
    · exact va_Nw.of rfl (hts (.castable RX2 "java/lang/Object") (tm (i := 837) (by decide +kernel)))
    · exact va_Nw.of rfl (hts (.castable RX3 "java/lang/Object") (tm (i := 836) (by decide +kernel)))
theorem mh_k {S : HS} {o a : Nat} (h : MH S o) (h1 : o ≤ a) (h2 : a < o + 18) : gK S a ≠ 1 := by
  have hd : ∀ j, 0 < j → j < 18 → ∃ q ∈ mhT, q.2.1 = j ∧ q.2.2.1 ≠ 1 := by
    have h9 : ∀ j, j < 18 → 0 < j → ∃ q ∈ mhT, q.2.1 = j ∧ q.2.2.1 ≠ 1 := by decide +kernel
    exact fun j a b => h9 j b a
  rcases Nat.eq_or_lt_of_le h1 with e | e
  · rw [← e, h.1]; decide
  · obtain ⟨q, hq, e1, e2⟩ := hd (a - o) (by omega) (by omega)
    have := (h.2 q hq).2.1
    rw [e1, show o + (a - o) = a by omega] at this
    rw [this]; exact e2
set_option maxRecDepth 100000 in
theorem law_start {nm : String} {k : KT} {b L : Nat} {xs : Nat → Int32} {S0 : HS} (hL : L ≤ 2561) (hz : ∀ a, gK S0 a = 0) (hk0 : k.2.2.2.1 0 < gN S0) : X k (mtL nm) (ZL k b L xs) 0 [(0, .ref b)] [] S0 0 0 := by
  have hW0 : LW k S0 := ⟨hk0, fun a h => absurd (hz a) h, fun a b d h => by rw [hz] at h; exact absurd h (by decide), fun a d h => by rw [hz] at h; exact absurd h (by decide)⟩
  refine nw_L_7 rfl dL_law_0 (Nat.le_of_ble_eq_true rfl) (Nat.le_of_ble_eq_true rfl) ?_
  refine x_dup dL_law_3 rfl ?_
  refine x_aload_n 0 dL_law_4 rfl ?_
  refine x_iconst 0 dL_law_5 (by decide) ?_
  refine x_cell (fun _ _ h => h.1) hL rfl dL_law_6 ⟨(Nat.le_of_ble_eq_true rfl), (Nat.le_of_ble_eq_true rfl), (Nat.le_of_ble_eq_true rfl), (Nat.le_of_ble_eq_true rfl), (Nat.le_of_ble_eq_true rfl)⟩ ?_
  refine ca_L_15 [.int (g0v L xs)] [.ref (gN S0)] (c_X6_init (g0v L xs) rfl (if_pos rfl) (fun f => if_pos rfl) (hW0.nO 7)) rfl dL_law_9 rfl rfl ⟨(Nat.le_of_ble_eq_true rfl), (Nat.le_of_ble_eq_true rfl), (Nat.le_of_ble_eq_true rfl), (Nat.le_of_ble_eq_true rfl), (Nat.le_of_ble_eq_true rfl)⟩ (fun v T hq => ?_)
  obtain ⟨rfl, n, en, hn, hGv⟩ := hq
  obtain ⟨x, ex⟩ : ∃ x : Nat, x = gN S0 := ⟨_, rfl⟩
  rw [← ex] at hGv ⊢
  refine x_astore_n [(1, .ref x), (0, .ref b)] dL_law_12 (Nat.le_of_ble_eq_true rfl) rfl ?_
  refine nw_L_18 rfl dL_law_13 (Nat.le_of_ble_eq_true rfl) (Nat.le_of_ble_eq_true rfl) ?_
  refine x_dup dL_law_16 rfl ?_
  refine x_aload_n 1 dL_law_17 rfl ?_
  refine x_iconst 0 dL_law_18 (by decide) ?_
  refine x_cell (fun _ _ h => h.1) hL rfl dL_law_19 ⟨(Nat.le_of_ble_eq_true rfl), (Nat.le_of_ble_eq_true rfl), (Nat.le_of_ble_eq_true rfl), (Nat.le_of_ble_eq_true rfl), (Nat.le_of_ble_eq_true rfl)⟩ ?_
  refine ca_L_20 [.int (g0v L xs)] [.ref (gN T)] (c_X7_init (g0v L xs) rfl (if_pos rfl) (fun f => if_pos rfl)) rfl dL_law_22 rfl rfl ⟨(Nat.le_of_ble_eq_true rfl), (Nat.le_of_ble_eq_true rfl), (Nat.le_of_ble_eq_true rfl), (Nat.le_of_ble_eq_true rfl), (Nat.le_of_ble_eq_true rfl)⟩ (fun v U hq => ?_)
  obtain ⟨rfl, σ, hM, hO, ⟨P, eP, hP, hIni⟩, hNF, hN⟩ := hq
  have hnb := gor_le hn
  have hPb := gor_le hP
  have ePn : P = n := (nI_eq (by omega) (by omega)).mp (eP.symm.trans en)
  rw [ePn] at hIni
  have hNT : gN T = x + 7 + 3 * n := hGv.1
  refine x_astore_n [(2, .ref (gN T)), (1, .ref x), (0, .ref b)] dL_law_25 (Nat.le_of_ble_eq_true rfl) rfl ?_
  refine x_iconst 1 dL_law_26 (by decide) ?_
  refine x_istore_n [(3, .int 1), (2, .ref (gN T)), (1, .ref x), (0, .ref b)] dL_law_27 (Nat.le_of_ble_eq_true rfl) rfl ?_
  refine x_lv [(0, .ref b), (1, .ref x), (2, .ref (gN T)), (3, .int (nI (1 + 5 * 0)))] [3, 2, 1, 0] rfl ?_
  refine x_lt (fun hlt => ?_)
  have hWT : LW k T := hGv.2.2.2.1
  have hst : ∀ a, a < gN T → gK U a = gK T a ∧ gL U a = gL T a ∧ gQ U a = gQ T a ∧ (∀ f, f < 256 → gI U f a = gI T f a) ∧ ∀ f, gP U f a = gP T f a := fun a ha => by
    have h9 := hNF.2 a ha
    have hne : a ≠ gN T := by omega
    refine ⟨by rw [h9.1, gK_nO, if_neg hne], by rw [h9.2.1, gL_nO], by rw [h9.2.2.2.1, gQ_nO], fun f hf => by rw [h9.2.2.2.2.1 f hf, gI_nO, if_neg hne], fun f => by rw [h9.2.2.2.2.2 f, gP_nO, if_neg hne]⟩
  have hk1 : ∀ a, gK U a = 1 → a < gN T := fun a ha => by
    have h1 := hlt a (by omega)
    rcases Nat.lt_or_ge a (gN T) with z | z
    · exact z
    · exact absurd ha (mh_k hM.1 z (by omega))
  have hWU : LW k U := ⟨by have := hWT.1; omega, hlt, fun a a2 d g1 g2 g3 g4 => by
      have l1 := hst a (hk1 a g1)
      have l2 := hst a2 (hk1 a2 g2)
      rw [l1.1] at g1
      rw [l2.1] at g2
      rw [l1.2.2.2.2] at g3
      rw [l2.2.2.2.2] at g4
      exact hWT.2.2.1 a a2 d g1 g2 g3 g4, fun a d g1 g3 => by
      have l1 := hst a (hk1 a g1)
      rw [l1.1] at g1
      rw [l1.2.2.2.2] at g3
      have := hWT.2.2.2 a d g1 g3
      omega⟩
  have hCF : CF T U := ⟨by omega, hst⟩
  have hCI : CI k U x σ := ⟨n, 0, 0, 0, fun _ => 0, fun _ => 0, fun _ => 0, (hGv.ci hn hIni).cf hCF hWU⟩
  refine x_widen [] 97 4596 (Nat.le_of_ble_eq_true rfl) (Nat.le_of_ble_eq_true rfl) ?_
  exact l_law hL (by omega) 512 0 (by omega) (by omega) U σ hCI hM hO (by omega)
theorem whole_start {p : Program} {e : Env} {s : State} {m : MethodId} {below : List Frame} {meth : Method} {c : Code} (l : Launch) {b L : Nat} {xs : Nat → Int32} (hL : L ≤ 2561) (C0 : lw_At p s m meth c b L xs) : W p l e room_1 s m #[Value.ref b] below meth c s.heap [] 0 0 (lw_Z below #[Value.ref b] s) (entryFrame m ([Value.ref b] : List Value).toArray 4) := by
  obtain ⟨hx, hb, hr, hml, hown, hts, hX, hbl, hlocks, hgv⟩ := C0
  obtain ⟨k, rfl, hsz, hG, hk0⟩ := start_gd l hts hgv
  have hst := law_start (nm := meth.name) (k := k) (b := b) (L := L) (xs := xs) (S0 := (fun _ => 0, fun _ _ => 0, fun _ _ => none, fun _ => 0, fun _ _ => 0, fun _ _ => none, s.heap.size)) hL (fun _ => rfl) hk0
  have hls := lv_entry [Value.ref b] (n := 4) (Nat.le_of_ble_eq_true rfl)
  have hW := hst p e s m #[Value.ref b] below meth c s.heap [] _ ⟨hx, hb, hml, hr, fun w hw => hts w (wsL_law_in w hw), hown, hlocks, rfl, hG⟩ hls ⟨rfl, fun a h => absurd rfl h⟩ va_S.rf
  rw [lg_entry_eq]
  intro T hT X0
  obtain ⟨t, a1, b1⟩ := hW T hT X0
  exact ⟨t, a1, b1 ⟨⟨hX, hbl, fun z => by have z2 : k.2.2.2.2 ≤ b := z; omega⟩, rfl, hsz.symm⟩⟩
