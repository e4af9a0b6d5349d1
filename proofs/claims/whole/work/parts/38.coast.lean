section
variable {k : KT} {S T : HS} {x n c q p : Nat} {ca pa na : Nat → Nat} {σ : MS}
theorem CX.gk8 {g : Nat} (h : CX k S x n c q p ca pa na σ) (hg : g < n) : gK S (x + 8 + 3 * g) = 1 := (h.qq.2 g hg).1
theorem CX.coast (h : CX k S x n c q p ca pa na σ) (hc : c < 30) {a : Nat} {lon lat : Int32} (hK : gK S a = 2) (h32 : gI S 32 a = lon) (h33 : gI S 33 a = lat) (hr : -90 ≤ lat.toInt ∧ lat.toInt ≤ 90) (hfr : ∀ i, i < c → ca i ≠ a) (hA : AL k T (x + 1) ((List.range c).map ca ++ [a])) (hW : LW k T) (hF : LF (x + 1) S T) : CX k T x n (c + 1) q p (va_up ca c a) pa na (fI (fR (fR σ 2 (upd (σ.2 2) c lon)) 3 (upd (σ.2 3) c (60 * lat))) 3 (nI c + 1)) := by
  have h1 := h.cp.1.1
  refine ⟨⟨h.1.1, ⟨by omega, nI_1 c⟩, h.1.2.2.1, h.1.2.2.2⟩, hW, h.l.lf h.lw hF, h.m.lf hF, ⟨by rw [rng_up]; exact hA, fun i j hi hj e => ?_, fun i hi => ?_⟩, CQ.cg rfl rfl rfl ⟨fun i hi => (h.qq.1 i hi).lf h.lw hF, fun g hg => (h.qq.2 g hg).keep h.lw h1 hF (by omega)⟩, CW.cg ⟨rfl, rfl, rfl, rfl, rfl, rfl, rfl, rfl⟩ ⟨h.w.1.keep h.lw h1 hF (by omega), h.w.2.1, fun i hi => (h.w.2.2.1 i hi).lf h.lw hF, fun g hg => ⟨(h.w.2.2.2 g hg).1.keep h.lw h1 hF (by omega), (h.w.2.2.2 g hg).2⟩⟩, CB.cg ⟨rfl, rfl, rfl, rfl, rfl, rfl, rfl, rfl⟩ (h.b.lf hF)⟩
  · by_cases ei : i = c
    · by_cases ej : j = c
      · omega
      · rw [ei, up_eq, up_ne ej] at e; exact absurd e.symm (hfr j (by omega))
    · by_cases ej : j = c
      · rw [ej, up_eq, up_ne ei] at e; exact absurd e (hfr i (by omega))
      · rw [up_ne ei, up_ne ej] at e; exact h.cp.2.1 i j (by omega) (by omega) e
  · show gK T (va_up ca c a i) = 2 ∧ gI T 32 (va_up ca c a i) = upd (σ.2 2) c lon i ∧ upd (σ.2 3) c (60 * lat) i = 60 * gI T 33 (va_up ca c a i) ∧ -90 ≤ (gI T 33 (va_up ca c a i)).toInt ∧ (gI T 33 (va_up ca c a i)).toInt ≤ 90
    by_cases e : i = c
    · subst e
      rw [up_eq, pk_us, pk_us, (hF.2.1 a (h.lw.2.1 a (by omega))).1, hF.2.2.2.1 32 a (Or.inl (by decide)), hF.2.2.2.1 33 a (Or.inl (by decide)), h32, h33]
      exact ⟨hK, rfl, rfl, hr⟩
    · rw [up_ne e, pk_un e, pk_un e]
      exact CPe.lf (S := S) h.cp.2.2 h.lw hF i (by omega)
end
theorem place_lat {lon lat : Int32} (h : ¬ f_X7_isPlace lon lat = 0) : (0 ≤ lon.toInt ∧ lon.toInt ≤ 359) ∧ -90 ≤ lat.toInt ∧ lat.toInt ≤ 90 := by
  unfold f_X7_isPlace at h
  rcases in_ok (v := lon) (lo := 0) (hi := 359) with a | ⟨a, a1, a2⟩
  · rw [if_pos a] at h; exact absurd rfl h
  · rcases in_ok (v := lat) (lo := -90) (hi := 90) with b | ⟨b, b1, b2⟩
    · rw [if_neg (by rw [a]; decide), if_pos b] at h; exact absurd rfl h
    · exact ⟨⟨t_le.mp a1, t_le.mp a2⟩, t_le.mp b1, t_le.mp b2⟩
set_option maxRecDepth 100000 in
theorem c_X6_coast {k : KT} {S : HS} {x n c q p : Nat} {ca pa na : Nat → Nat} {σ : MS} (hI : CX k S x n c q p ca pa na σ) (lon lat : Int32) : Ct k (mt_X6_coast (rm 7 2 902)) [.ref x, .int lon, .int lat] S (fun v T => v = some (.int (g_X7_coast σ lon lat).1) ∧ CI k T x (g_X7_coast σ lon lat).2 ∧ FX x S T) := by
  have hc1 := hI.c1
  by_cases e0 : f_X6_isPlace lon lat = 0
  rotate_left
  by_cases hc : c = 30
  rotate_left
  have hlt : c < 30 := by omega
  have hc3 : ¬ σ.1 3 = 30 := fun z => hc ((nI_eq (by omega) (by decide)).mp (hc1.2.symm.trans z : nI c = nI 30))
  · refine Ct.ofF (by decide +kernel) (Nat.le_of_ble_eq_true rfl) ?_
    refine x_lv [(0, .ref (x)), (1, .int (lon)), (2, .int (lat))] [0, 1, 2] rfl ?_
    refine x_iload_n 1 dX6_coast_0 rfl ?_
    refine x_iload_n 2 dX6_coast_1 rfl ?_
    refine ca_X6_56 [.int (lon), .int (lat)] [] (c_X6_isPlace (lon) (lat)) rfl dX6_coast_2 rfl rfl ⟨(Nat.le_of_ble_eq_true rfl), (Nat.le_of_ble_eq_true rfl), (Nat.le_of_ble_eq_true rfl), (Nat.le_of_ble_eq_true rfl), (Nat.le_of_ble_eq_true rfl)⟩ (fun v T hq => ?_)
    obtain ⟨rfl, rfl⟩ := hq
    refine x_if_eq 20 dX6_coast_5 (by decide) (fun c1 => ?_) (fun c1 => ?_)
    · exact absurd c1 e0
    · refine x_aload_n 0 dX6_coast_8 rfl ?_
      refine gf_X6_12 rfl dX6_coast_9 hI.l.1 ?_
      rw [show gP (S) 226 (x) = some (x + 1) from hI.l.2.1.2.1]
      refine ca_X6_60 [] [] (c_al_size hI.cp.1.1) hI.cp.1.1 rfl dX6_coast_12 rfl rfl ⟨(Nat.le_of_ble_eq_true rfl), (Nat.le_of_ble_eq_true rfl), (Nat.le_of_ble_eq_true rfl), (Nat.le_of_ble_eq_true rfl), (Nat.le_of_ble_eq_true rfl)⟩ (fun v T hq => ?_)
      obtain ⟨rfl, hT⟩ := hq
      obtain rfl := hT.symm
      rw [show gI (S) 2 (x + 1) = nI c from (by rw [hI.cp.1.2.1, List.length_map, List.length_range])]
      refine x_bipush 30 dX6_coast_15 (by decide) ?_
      refine x_icmp_lt 22 dX6_coast_17 (by decide) (fun c2 => ?_) (fun c2 => ?_)
      · refine x_aload_n 0 dX6_coast_22 rfl ?_
        refine gf_X6_12 rfl dX6_coast_23 hI.l.1 ?_
        rw [show gP (S) 226 (x) = some (x + 1) from hI.l.2.1.2.1]
        refine nw_X6_64 rfl dX6_coast_26 (Nat.le_of_ble_eq_true rfl) (Nat.le_of_ble_eq_true rfl) ?_
        refine x_dup dX6_coast_29 rfl ?_
        refine x_iload_n 1 dX6_coast_30 rfl ?_
        refine x_iload_n 2 dX6_coast_31 rfl ?_
        refine ca_X6_66 [.int lon, .int lat] [.ref (gN S), .ref (x + 1)] (c_X0_init lon lat (by rw [gK_nO, if_pos rfl])) rfl dX6_coast_32 rfl rfl ⟨(Nat.le_of_ble_eq_true rfl), (Nat.le_of_ble_eq_true rfl), (Nat.le_of_ble_eq_true rfl), (Nat.le_of_ble_eq_true rfl), (Nat.le_of_ble_eq_true rfl)⟩ (fun v T hq => ?_)
        obtain ⟨rfl, rfl⟩ := hq
        obtain ⟨S1, eS1⟩ : ∃ s9 : HS, s9 = uI (uI (nO S 1) 32 (gN S) lon) 33 (gN S) lat := ⟨_, rfl⟩
        rw [← eS1]
        have hE1 : EX S S1 := by rw [eS1]; exact ((EX.rf.nO 1).uI (Nat.le_refl _)).uI (Nat.le_refl _)
        have hW1 : LW k S1 := by rw [eS1]; exact hI.lw.nO 1
        have hI1 := hI.ex hE1 hW1
        have hK1 : gK S1 (gN S) = 2 := by rw [eS1]; exact if_pos rfl
        have h32 : gI S1 32 (gN S) = lon := by rw [eS1, gI_uI, if_neg (by omega), gI_uI, if_pos ⟨rfl, rfl⟩]
        have h33 : gI S1 33 (gN S) = lat := by rw [eS1, gI_uI, if_pos ⟨rfl, rfl⟩]
        clear eS1
        have hok : ∀ y ∈ (List.range c).map ca, okE S1 y := fun y hy => by
          obtain ⟨i, hi, rfl⟩ := List.mem_map.mp hy
          exact Or.inl (hI1.cp.2.2 i (List.mem_range.mp hi)).1
        have hfr : ∀ i, i < c → ca i ≠ gN S := fun i hi => by have := hI.lw.2.1 (ca i) (by have := (hI.cp.2.2 i hi).1; omega); omega
        refine ca_X6_69 [.ref (gN S)] [] (c_al_add hI1.cp.1 hI1.lw hok (Or.inl hK1) (by rw [List.length_map, List.length_range]; omega)) hI1.cp.1.1 rfl dX6_coast_35 rfl rfl ⟨(Nat.le_of_ble_eq_true rfl), (Nat.le_of_ble_eq_true rfl), (Nat.le_of_ble_eq_true rfl), (Nat.le_of_ble_eq_true rfl), (Nat.le_of_ble_eq_true rfl)⟩ (fun v T hq => ?_)
        obtain ⟨rfl, q1, q2, q3⟩ := hq
        have hI2 := hI1.coast hlt hK1 h32 h33 (place_lat (by rw [← place_eq]; exact e0)).2 hfr q1 q2 q3
        refine x_pop dX6_coast_38 rfl ?_
        refine x_aload_n 0 dX6_coast_39 rfl ?_
        refine gf_X6_12 rfl dX6_coast_40 hI2.l.1 ?_
        rw [show gP (T) 226 (x) = some (x + 1) from hI2.l.2.1.2.1]
        refine x_at 43 rfl ?_
        refine ca_X6_60 [] [] (c_al_size hI2.cp.1.1) hI2.cp.1.1 rfl dX6_coast_43 rfl rfl ⟨(Nat.le_of_ble_eq_true rfl), (Nat.le_of_ble_eq_true rfl), (Nat.le_of_ble_eq_true rfl), (Nat.le_of_ble_eq_true rfl), (Nat.le_of_ble_eq_true rfl)⟩ (fun v T hq => ?_)
        obtain ⟨rfl, hT⟩ := hq
        obtain rfl := hT.symm
        rw [show gI (T) 2 (x + 1) = nI (c + 1) from (by rw [hI2.cp.1.2.1, List.length_map, List.length_range])]
        refine x_iconst 1 dX6_coast_46 (by decide) ?_
        refine x_isub dX6_coast_47 ?_
        exact x_ireturn dX6_coast_48 rfl (Nat.le_of_ble_eq_true rfl) (Nat.le_of_ble_eq_true rfl) ⟨by rw [g_X7_coast, ← place_eq, if_neg e0, if_neg hc3, hI.c1.2, nI_clamp (by omega), nI_1], by rw [g_X7_coast, ← place_eq, if_neg e0, if_neg hc3, hI.c1.2, nI_clamp (by omega)]; exact ⟨n, c + 1, q, p, va_up ca c (gN S), pa, na, hI2⟩, FX.tr hE1.fx (FX.lf q3)⟩
      · exact absurd (show nI c < nI 30 from nI_lt hlt (by decide)) c2
  · refine Ct.ofF (by decide +kernel) (Nat.le_of_ble_eq_true rfl) ?_
    refine x_lv [(0, .ref (x)), (1, .int (lon)), (2, .int (lat))] [0, 1, 2] rfl ?_
    refine x_iload_n 1 dX6_coast_0 rfl ?_
    refine x_iload_n 2 dX6_coast_1 rfl ?_
    refine ca_X6_56 [.int (lon), .int (lat)] [] (c_X6_isPlace (lon) (lat)) rfl dX6_coast_2 rfl rfl ⟨(Nat.le_of_ble_eq_true rfl), (Nat.le_of_ble_eq_true rfl), (Nat.le_of_ble_eq_true rfl), (Nat.le_of_ble_eq_true rfl), (Nat.le_of_ble_eq_true rfl)⟩ (fun v T hq => ?_)
    obtain ⟨rfl, rfl⟩ := hq
    refine x_if_eq 20 dX6_coast_5 (by decide) (fun c1 => ?_) (fun c1 => ?_)
    · refine x_iconst (-1) dX6_coast_20 (by decide) ?_
      exact x_ireturn dX6_coast_21 rfl (Nat.le_of_ble_eq_true rfl) (Nat.le_of_ble_eq_true rfl) ⟨by rw [g_X7_coast, ← place_eq, if_pos e0], by rw [g_X7_coast, ← place_eq, if_pos e0]; exact ⟨n, c, q, p, ca, pa, na, hI⟩, FX.rf⟩
    · exact absurd e0 c1
  · refine Ct.ofF (by decide +kernel) (Nat.le_of_ble_eq_true rfl) ?_
    refine x_lv [(0, .ref (x)), (1, .int (lon)), (2, .int (lat))] [0, 1, 2] rfl ?_
    refine x_iload_n 1 dX6_coast_0 rfl ?_
    refine x_iload_n 2 dX6_coast_1 rfl ?_
    refine ca_X6_56 [.int (lon), .int (lat)] [] (c_X6_isPlace (lon) (lat)) rfl dX6_coast_2 rfl rfl ⟨(Nat.le_of_ble_eq_true rfl), (Nat.le_of_ble_eq_true rfl), (Nat.le_of_ble_eq_true rfl), (Nat.le_of_ble_eq_true rfl), (Nat.le_of_ble_eq_true rfl)⟩ (fun v T hq => ?_)
    obtain ⟨rfl, rfl⟩ := hq
    refine x_if_eq 20 dX6_coast_5 (by decide) (fun c1 => ?_) (fun c1 => ?_)
    · exact absurd c1 e0
    · refine x_aload_n 0 dX6_coast_8 rfl ?_
      refine gf_X6_12 rfl dX6_coast_9 hI.l.1 ?_
      rw [show gP (S) 226 (x) = some (x + 1) from hI.l.2.1.2.1]
      refine ca_X6_60 [] [] (c_al_size hI.cp.1.1) hI.cp.1.1 rfl dX6_coast_12 rfl rfl ⟨(Nat.le_of_ble_eq_true rfl), (Nat.le_of_ble_eq_true rfl), (Nat.le_of_ble_eq_true rfl), (Nat.le_of_ble_eq_true rfl), (Nat.le_of_ble_eq_true rfl)⟩ (fun v T hq => ?_)
      obtain ⟨rfl, hT⟩ := hq
      obtain rfl := hT.symm
      rw [show gI (S) 2 (x + 1) = nI c from (by rw [hI.cp.1.2.1, List.length_map, List.length_range])]
      refine x_bipush 30 dX6_coast_15 (by decide) ?_
      refine x_icmp_lt 22 dX6_coast_17 (by decide) (fun c2 => ?_) (fun c2 => ?_)
      · rw [hc] at c2
        exact absurd c2 (by decide)
      · refine x_iconst (-1) dX6_coast_20 (by decide) ?_
        exact x_ireturn dX6_coast_21 rfl (Nat.le_of_ble_eq_true rfl) (Nat.le_of_ble_eq_true rfl) ⟨by rw [g_X7_coast, ← place_eq, if_neg e0, if_pos (by rw [hI.c1.2, hc]; rfl)], by rw [g_X7_coast, ← place_eq, if_neg e0, if_pos (by rw [hI.c1.2, hc]; rfl)]; exact ⟨n, c, q, p, ca, pa, na, hI⟩, FX.rf⟩
