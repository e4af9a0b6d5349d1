/-- the scratch of sets beside the state -/
def SC (S0 S : HS) (o : Nat) (σ : MS) (he wa bw : Nat → Int32) (bc : Int32) : Prop := MI S o σ ∧ FM o S0 S ∧ gR S (o + 15) = he ∧ gR S (o + 16) = wa ∧ gR S (o + 17) = bw ∧ gI S 281 o = bc
theorem SC.w15 {S0 S : HS} {o : Nat} {σ : MS} {he wa bw : Nat → Int32} {bc : Int32} (h : SC S0 S o σ he wa bw bc) (r : Nat → Int32) : SC S0 (uR S (o + 15) r) o σ r wa bw bc :=
  ⟨h.1.sR 15 r (by decide), h.2.1.pR r (by omega) (by omega), by rw [gR_uR, if_pos rfl], by rw [gR_uR, if_neg (by omega)]; exact h.2.2.2.1, by rw [gR_uR, if_neg (by omega)]; exact h.2.2.2.2.1, h.2.2.2.2.2⟩
theorem SC.w16 {S0 S : HS} {o : Nat} {σ : MS} {he wa bw : Nat → Int32} {bc : Int32} (h : SC S0 S o σ he wa bw bc) (r : Nat → Int32) : SC S0 (uR S (o + 16) r) o σ he r bw bc :=
  ⟨h.1.sR 16 r (by decide), h.2.1.pR r (by omega) (by omega), by rw [gR_uR, if_neg (by omega)]; exact h.2.2.1, by rw [gR_uR, if_pos rfl], by rw [gR_uR, if_neg (by omega)]; exact h.2.2.2.2.1, h.2.2.2.2.2⟩
theorem SC.w17 {S0 S : HS} {o : Nat} {σ : MS} {he wa bw : Nat → Int32} {bc : Int32} (h : SC S0 S o σ he wa bw bc) (r : Nat → Int32) : SC S0 (uR S (o + 17) r) o σ he wa r bc :=
  ⟨h.1.sR 17 r (by decide), h.2.1.pR r (by omega) (by omega), by rw [gR_uR, if_neg (by omega)]; exact h.2.2.1, by rw [gR_uR, if_neg (by omega)]; exact h.2.2.2.1, by rw [gR_uR, if_pos rfl], h.2.2.2.2.2⟩
theorem SC.wbc {S0 S : HS} {o : Nat} {σ : MS} {he wa bw : Nat → Int32} {bc : Int32} (h : SC S0 S o σ he wa bw bc) (v : Int32) : SC S0 (uI S 281 o v) o σ he wa bw v :=
  ⟨h.1.sI v, h.2.1.pI v (by decide), h.2.2.1, h.2.2.2.1, h.2.2.2.2.1, by rw [gI_uI, if_pos ⟨rfl, rfl⟩]⟩
/-- how many names of the gore g stand at j .. j + m - 1 -/
def cN (σ : MS) (g : Int32) : Nat → Nat → Nat
  | 0, _ => 0
  | m + 1, j => (if σ.2 7 (nI j).toNatClampNeg = 0 then 0 else if σ.2 8 (nI j).toNatClampNeg = g then 1 else 0) + cN σ g m (j + 1)
def st1 (σ : MS) (g : Int32) : Nat → Nat → Nat → (Nat → Int32) → Nat × (Nat → Int32)
  | 0, _, c, r => (c, r)
  | m + 1, j, c, r => if σ.2 7 (nI j).toNatClampNeg = 0 then st1 σ g m (j + 1) c r else if σ.2 8 (nI j).toNatClampNeg = g then st1 σ g m (j + 1) (c + 1) (upd r (nI c).toNatClampNeg (nI j)) else st1 σ g m (j + 1) c r
def st3a (σ : MS) (he : Nat → Int32) : Nat → Int32 → Int32 → (Nat → Int32) → Int32 × (Nat → Int32)
  | 0, _, q, w => (q, w)
  | t + 1, r, q, w => if (upd w (nI t).toNatClampNeg (r - r / 5 * 5)) (nI t).toNatClampNeg = 4 then st3a σ he t (r / 5) (q + σ.2 12 (he (nI t).toNatClampNeg).toNatClampNeg) (upd w (nI t).toNatClampNeg (r - r / 5 * 5)) else st3a σ he t (r / 5) (q + (upd w (nI t).toNatClampNeg (r - r / 5 * 5)) (nI t).toNatClampNeg) (upd w (nI t).toNatClampNeg (r - r / 5 * 5))
def st3b (wa : Nat → Int32) : Nat → Nat → (Nat → Int32) → (Nat → Int32)
  | 0, _, b => b
  | m + 1, j, b => st3b wa m (j + 1) (upd b (nI j).toNatClampNeg (wa (nI j).toNatClampNeg))
def st3 (σ : MS) (he : Nat → Int32) (c : Nat) : Nat → Nat → (Nat → Int32) → (Nat → Int32) → Int32 → (Nat → Int32) × (Nat → Int32) × Int32
  | 0, _, w, b, q => (w, b, q)
  | m + 1, s, w, b, q =>
    if q = -1 then (if igO σ he (st3a σ he c (nI s) 0 w).2 c 0 = 0 then st3 σ he c m (s + 1) (st3a σ he c (nI s) 0 w).2 b q else st3 σ he c m (s + 1) (st3a σ he c (nI s) 0 w).2 (st3b (st3a σ he c (nI s) 0 w).2 c 0 b) (st3a σ he c (nI s) 0 w).1)
    else if q ≤ (st3a σ he c (nI s) 0 w).1 then st3 σ he c m (s + 1) (st3a σ he c (nI s) 0 w).2 b q
    else (if igO σ he (st3a σ he c (nI s) 0 w).2 c 0 = 0 then st3 σ he c m (s + 1) (st3a σ he c (nI s) 0 w).2 b q else st3 σ he c m (s + 1) (st3a σ he c (nI s) 0 w).2 (st3b (st3a σ he c (nI s) 0 w).2 c 0 b) (st3a σ he c (nI s) 0 w).1)
set_option maxRecDepth 100000 in
theorem l_st1 {k : KT} {Z : ZT} {S0 : HS} {o : Nat} {σ : MS} {g : Int32} {wa bw : Nat → Int32} {bc : Int32} {P c0 : Nat} {h0 : Nat → Int32} (hP : σ.1 12 = nI P) (hP2 : P ≤ 60) : ∀ (m j c : Nat), j + m = P → c + cN σ g m j ≤ 6 → ∀ (S : HS) (he : Nat → Int32), SC S0 S o σ he wa bw bc → (∀ S9 : HS, SC S0 S9 o σ (st1 σ g m j c he).2 wa bw bc → X k (mt_X7_sets (rm 7 0 0)) Z 50 [(0, .ref o), (1, .int g), (2, .int (nI (st1 σ g m j c he).1))] [] S9 0 0) → X k (mt_X7_sets (rm 7 0 0)) Z 4 [(0, .ref (o)), (1, .int (g)), (2, .int (nI c)), (3, .int (nI j))] [] S 0 0 := by
  intro m
  induction m with
  | zero =>
    intro j c hj hc S he hC kk
    refine x_iload_n 3 dX7_sets_4 rfl ?_
    refine x_aload_n 0 dX7_sets_5 rfl ?_
    refine gf_X7_133 rfl dX7_sets_6 (mhK hC.1.1) ?_
    rw [show gI (S) 268 (o) = nI P from ((hC.1.i 12 (by decide)).trans hP)]
    refine x_icmp_ge 50 dX7_sets_9 (by decide) (fun c1 => ?_) (fun c1 => ?_)
    · refine x_lv [(0, .ref (o)), (1, .int (g)), (2, .int (nI c))] [0, 1, 2] rfl ?_
      exact kk S hC
    · exact absurd (nI_le (by omega) (by omega)) c1
  | succ m ih =>
    intro j c hj hc S he hC kk
    refine x_iload_n 3 dX7_sets_4 rfl ?_
    refine x_aload_n 0 dX7_sets_5 rfl ?_
    refine gf_X7_133 rfl dX7_sets_6 (mhK hC.1.1) ?_
    rw [show gI (S) 268 (o) = nI P from ((hC.1.i 12 (by decide)).trans hP)]
    refine x_icmp_ge 50 dX7_sets_9 (by decide) (fun c1 => ?_) (fun c1 => ?_)
    · exact absurd c1 (nI_ge (by omega) (by omega))
    · refine x_aload_n 0 dX7_sets_12 rfl ?_
      refine gf_X7_28 rfl dX7_sets_13 (mhK hC.1.1) ?_
      rw [show gP (S) 269 (o) = some (o + 7) from (mhP_isThere hC.1.1)]
      refine x_iload_n 3 dX7_sets_16 rfl ?_
      refine x_baload dX7_sets_17 (mhK_isThere hC.1.1) (by rw [show gL (S) (o + 7) = 60 from (mhL_isThere hC.1.1)]; exact (vp_in_nI (by omega) (by decide))) ?_
      rw [show gR (S) (o + 7) = σ.2 7 from (hC.1.r 7 (by decide))]
      refine x_if_eq 44 dX7_sets_18 (by decide) (fun c2 => ?_) (fun c2 => ?_)
      · refine x_iinc 3 (nI j + 1) [(3, .int ((nI j + 1))), (0, .ref (o)), (1, .int (g)), (2, .int (nI c))] dX7_sets_44 rfl rfl (Nat.le_of_ble_eq_true rfl) rfl ?_
        refine x_goto 4 dX7_sets_47 (by decide) ?_
        refine x_lv [(0, .ref (o)), (1, .int (g)), (2, .int (nI c)), (3, .int (nI (j + 1)))] [1, 2, 3, 0] (by rw [← nI_1 j]; rfl) ?_
        exact ih (j + 1) c (by omega) (by rw [cN, if_pos c2] at hc; omega) S _ hC (fun S9 h9 => by have := kk S9; rw [st1, if_pos c2] at this; exact this h9)
      · refine x_aload_n 0 dX7_sets_21 rfl ?_
        refine gf_X7_32 rfl dX7_sets_22 (mhK hC.1.1) ?_
        rw [show gP (S) 270 (o) = some (o + 8) from (mhP_nameGore hC.1.1)]
        refine x_iload_n 3 dX7_sets_25 rfl ?_
        refine x_iaload dX7_sets_26 (mhK_nameGore hC.1.1) (by rw [show gL (S) (o + 8) = 60 from (mhL_nameGore hC.1.1)]; exact (vp_in_nI (by omega) (by decide))) ?_
        rw [show gR (S) (o + 8) = σ.2 8 from (hC.1.r 8 (by decide))]
        refine x_iload_n 1 dX7_sets_27 rfl ?_
        refine x_icmp_eq 34 dX7_sets_28 (by decide) (fun c3 => ?_) (fun c3 => ?_)
        · refine x_aload_n 0 dX7_sets_34 rfl ?_
          refine gf_X7_53 rfl dX7_sets_35 (mhK hC.1.1) ?_
          rw [show gP (S) 278 (o) = some (o + 15) from (mhP_here hC.1.1)]
          refine x_iload_n 2 dX7_sets_38 rfl ?_
          refine x_iload_n 3 dX7_sets_39 rfl ?_
          refine x_iastore dX7_sets_40 (mhK_here hC.1.1) (by rw [show gL (S) (o + 15) = 6 from (mhL_here hC.1.1)]; exact (vp_in_nI (by rw [cN, if_neg c2, if_pos c3] at hc; omega) (by decide))) ?_
          rw [show gR (S) (o + 15) = he from hC.2.2.1]
          obtain ⟨S4, eS4⟩ : ∃ s9 : HS, s9 = uR (S) (o + 15) (upd he (nI c).toNatClampNeg (nI j)) := ⟨_, rfl⟩
          rw [← eS4]
          have hC4 : SC S0 S4 o σ ((upd he (nI c).toNatClampNeg (nI j))) (wa) (bw) (bc) := by rw [eS4]; exact hC.w15 _
          clear eS4
          refine x_iinc 2 (nI c + 1) [(2, .int ((nI c + 1))), (0, .ref (o)), (1, .int (g)), (3, .int (nI j))] dX7_sets_41 rfl rfl (Nat.le_of_ble_eq_true rfl) rfl ?_
          refine x_iinc 3 (nI j + 1) [(3, .int ((nI j + 1))), (2, .int ((nI c + 1))), (0, .ref (o)), (1, .int (g))] dX7_sets_44 rfl rfl (Nat.le_of_ble_eq_true rfl) rfl ?_
          refine x_goto 4 dX7_sets_47 (by decide) ?_
          refine x_lv [(0, .ref (o)), (1, .int (g)), (2, .int (nI (c + 1))), (3, .int (nI (j + 1)))] [2, 3, 1, 0] (by rw [← nI_1 j, ← nI_1 c]; rfl) ?_
          exact ih (j + 1) (c + 1) (by omega) (by rw [cN, if_neg c2, if_pos c3] at hc; omega) S4 _ hC4 (fun S9 h9 => by have := kk S9; rw [st1, if_neg c2, if_pos c3] at this; exact this h9)
        · refine x_goto 44 dX7_sets_31 (by decide) ?_
          refine x_iinc 3 (nI j + 1) [(3, .int ((nI j + 1))), (0, .ref (o)), (1, .int (g)), (2, .int (nI c))] dX7_sets_44 rfl rfl (Nat.le_of_ble_eq_true rfl) rfl ?_
          refine x_goto 4 dX7_sets_47 (by decide) ?_
          refine x_lv [(0, .ref (o)), (1, .int (g)), (2, .int (nI c)), (3, .int (nI (j + 1)))] [1, 2, 3, 0] (by rw [← nI_1 j]; rfl) ?_
          exact ih (j + 1) c (by omega) (by rw [cN, if_neg c2, if_neg c3] at hc; omega) S _ hC (fun S9 h9 => by have := kk S9; rw [st1, if_neg c2, if_neg c3] at this; exact this h9)
set_option maxRecDepth 100000 in
theorem l_st2 {k : KT} {Z : ZT} {S0 : HS} {o : Nat} {σ : MS} {g : Int32} {he wa bw : Nat → Int32} {bc : Int32} {c : Nat} {S : HS} (hC : SC S0 S o σ he wa bw bc) (hc : c ≤ 6) (kk : X k (mt_X7_sets (rm 7 0 0)) Z 71 [(0, .ref o), (1, .int g), (2, .int (nI c)), (3, .int (nI (5 ^ c)))] [] S 0 0) : ∀ (m j : Nat), j + m = c → X k (mt_X7_sets (rm 7 0 0)) Z 55 [(0, .ref (o)), (1, .int (g)), (2, .int (nI c)), (3, .int (nI (5 ^ j))), (4, .int (nI j))] [] S 0 0 := by
  intro m
  induction m with
  | zero =>
    intro j hj
    refine x_iload 4 dX7_sets_55 rfl ?_
    refine x_iload_n 2 dX7_sets_57 rfl ?_
    refine x_icmp_ge 71 dX7_sets_58 (by decide) (fun c1 => ?_) (fun c1 => ?_)
    · refine x_lv [(0, .ref (o)), (1, .int (g)), (2, .int (nI c)), (3, .int (nI (5 ^ c)))] [0, 1, 2, 3] (by rw [show j = c by omega]; rfl) ?_
      exact kk
    · exact absurd (nI_le (by omega) (by omega)) c1
  | succ m ih =>
    intro j hj
    refine x_iload 4 dX7_sets_55 rfl ?_
    refine x_iload_n 2 dX7_sets_57 rfl ?_
    refine x_icmp_ge 71 dX7_sets_58 (by decide) (fun c1 => ?_) (fun c1 => ?_)
    · exact absurd c1 (nI_ge (by omega) (by omega))
    · refine x_iload_n 3 dX7_sets_61 rfl ?_
      refine x_iconst 5 dX7_sets_62 (by decide) ?_
      refine x_imul dX7_sets_63 ?_
      refine x_istore_n [(3, .int ((nI (5 ^ j) * 5))), (0, .ref (o)), (1, .int (g)), (2, .int (nI c)), (4, .int (nI j))] dX7_sets_64 (Nat.le_of_ble_eq_true rfl) rfl ?_
      refine x_iinc 4 (nI j + 1) [(4, .int ((nI j + 1))), (3, .int ((nI (5 ^ j) * 5))), (0, .ref (o)), (1, .int (g)), (2, .int (nI c))] dX7_sets_65 rfl rfl (Nat.le_of_ble_eq_true rfl) rfl ?_
      refine x_goto 55 dX7_sets_68 (by decide) ?_
      refine x_lv [(0, .ref (o)), (1, .int (g)), (2, .int (nI c)), (3, .int (nI (5 ^ (j + 1)))), (4, .int (nI (j + 1)))] [2, 3, 4, 1, 0] (by rw [← nI_1 j, Nat.pow_succ, ← pk_mul]; rfl) ?_
      exact ih (j + 1) (by omega)
set_option maxRecDepth 100000 in
theorem l_st3a {k : KT} {Z : ZT} {S0 : HS} {o : Nat} {σ : MS} {g : Int32} {he bw : Nat → Int32} {bc A x4 : Int32} {c : Nat} (hc : c ≤ 6) (h60 : ∀ i, i < c → vp_in (he i) 60) : ∀ (t : Nat), t ≤ c → ∀ (r q : Int32) (S : HS) (wa : Nat → Int32), SC S0 S o σ he wa bw bc → (∀ S9 : HS, SC S0 S9 o σ he (st3a σ he t r q wa).2 bw bc → X k (mt_X7_sets (rm 7 0 0)) Z 163 [(0, .ref o), (1, .int g), (2, .int (nI c)), (3, .int A), (4, .int x4), (6, .int (st3a σ he t r q wa).1)] [] S9 0 0) → X k (mt_X7_sets (rm 7 0 0)) Z 97 [(0, .ref (o)), (1, .int (g)), (2, .int (nI c)), (3, .int A), (4, .int x4), (5, .int r), (6, .int q), (7, .int (nI t + (-1)))] [] S 0 0 := by
  intro t
  induction t with
  | zero =>
    intro ht r q S wa hC kk
    refine x_lv [(0, .ref (o)), (1, .int (g)), (2, .int (nI c)), (3, .int A), (4, .int x4), (5, .int r), (6, .int q), (7, .int (0 + (-1)))] [0, 1, 2, 3, 4, 5, 6, 7] rfl ?_
    refine x_iload 7 dX7_sets_97 rfl ?_
    refine x_if_lt 163 dX7_sets_99 (by decide) (fun c1 => ?_) (fun c1 => ?_)
    · refine x_lv [(0, .ref (o)), (1, .int (g)), (2, .int (nI c)), (3, .int (A)), (4, .int (x4)), (6, .int (q))] [0, 1, 2, 3, 4, 6] rfl ?_
      exact kk S hC
    · exact absurd (by decide : (0 : Int32) + (-1) < 0) c1
  | succ t ih =>
    intro ht r q S wa hC kk
    refine x_lv [(0, .ref (o)), (1, .int (g)), (2, .int (nI c)), (3, .int A), (4, .int x4), (5, .int r), (6, .int q), (7, .int (nI t))] [0, 1, 2, 3, 4, 5, 6, 7] (by rw [← pk_m1 t]; rfl) ?_
    refine x_iload 7 dX7_sets_97 rfl ?_
    refine x_if_lt 163 dX7_sets_99 (by decide) (fun c1 => ?_) (fun c1 => ?_)
    · exact absurd c1 (nI_pos (by omega))
    · refine x_aload_n 0 dX7_sets_102 rfl ?_
      refine gf_X7_56 rfl dX7_sets_103 (mhK hC.1.1) ?_
      rw [show gP (S) 279 (o) = some (o + 16) from (mhP_ways hC.1.1)]
      refine x_iload 7 dX7_sets_106 rfl ?_
      refine x_iload 5 dX7_sets_108 rfl ?_
      refine x_iconst 5 dX7_sets_110 (by decide) ?_
      refine x_irem dX7_sets_111 (by decide) ?_
      refine x_iastore dX7_sets_112 (mhK_ways hC.1.1) (by rw [show gL (S) (o + 16) = 6 from (mhL_ways hC.1.1)]; exact (vp_in_nI (by omega) (by decide))) ?_
      rw [show gR (S) (o + 16) = wa from hC.2.2.2.1]
      obtain ⟨S2, eS2⟩ : ∃ s9 : HS, s9 = uR (S) (o + 16) (upd wa (nI t).toNatClampNeg ((r - r / 5 * 5))) := ⟨_, rfl⟩
      rw [← eS2]
      have hC2 : SC S0 S2 o σ (he) ((upd wa (nI t).toNatClampNeg ((r - r / 5 * 5)))) (bw) (bc) := by rw [eS2]; exact hC.w16 _
      clear eS2
      refine x_iload 5 dX7_sets_113 rfl ?_
      refine x_iconst 5 dX7_sets_115 (by decide) ?_
      refine x_idiv dX7_sets_116 (by decide) ?_
      refine x_istore [(5, .int ((r / 5))), (0, .ref (o)), (1, .int (g)), (2, .int (nI c)), (3, .int (A)), (4, .int (x4)), (6, .int (q)), (7, .int (nI t))] dX7_sets_117 (Nat.le_of_ble_eq_true rfl) rfl ?_
      refine x_at 119 rfl ?_
      refine x_iload 6 dX7_sets_119 rfl ?_
      refine x_aload_n 1 dX7_sets_121 rfl ?_
      refine gf_X7_56 rfl dX7_sets_122 (mhK hC2.1.1) ?_
      rw [show gP (S2) 279 (o) = some (o + 16) from (mhP_ways hC2.1.1)]
      refine x_iload 7 dX7_sets_125 rfl ?_
      refine x_iaload dX7_sets_127 (mhK_ways hC2.1.1) (by rw [show gL (S2) (o + 16) = 6 from (mhL_ways hC2.1.1)]; exact (vp_in_nI (by omega) (by decide))) ?_
      rw [show gR (S2) (o + 16) = (upd wa (nI t).toNatClampNeg ((r - r / 5 * 5))) from hC2.2.2.2.1]
      refine x_iconst 4 dX7_sets_128 (by decide) ?_
      refine x_icmp_ne 147 dX7_sets_129 (by decide) (fun c3 => ?_) (fun c3 => ?_)
      · refine x_aload_n 1 dX7_sets_147 rfl ?_
        refine gf_X7_56 rfl dX7_sets_148 (mhK hC2.1.1) ?_
        rw [show gP (S2) 279 (o) = some (o + 16) from (mhP_ways hC2.1.1)]
        refine x_iload 7 dX7_sets_151 rfl ?_
        refine x_iaload dX7_sets_153 (mhK_ways hC2.1.1) (by rw [show gL (S2) (o + 16) = 6 from (mhL_ways hC2.1.1)]; exact (vp_in_nI (by omega) (by decide))) ?_
        rw [show gR (S2) (o + 16) = (upd wa (nI t).toNatClampNeg ((r - r / 5 * 5))) from hC2.2.2.2.1]
        refine x_iadd dX7_sets_154 ?_
        refine x_istore [(6, .int ((q + (((upd wa (nI t).toNatClampNeg ((r - r / 5 * 5)))) (nI t).toNatClampNeg)))), (5, .int ((r / 5))), (0, .ref (o)), (1, .int (g)), (2, .int (nI c)), (3, .int (A)), (4, .int (x4)), (7, .int (nI t))] dX7_sets_155 (Nat.le_of_ble_eq_true rfl) rfl ?_
        refine x_iinc 7 (nI t + (-1)) [(7, .int ((nI t + (-1)))), (6, .int ((q + (((upd wa (nI t).toNatClampNeg ((r - r / 5 * 5)))) (nI t).toNatClampNeg)))), (5, .int ((r / 5))), (0, .ref (o)), (1, .int (g)), (2, .int (nI c)), (3, .int (A)), (4, .int (x4))] dX7_sets_157 rfl rfl (Nat.le_of_ble_eq_true rfl) rfl ?_
        refine x_goto 97 dX7_sets_160 (by decide) ?_
        refine x_lv [(0, .ref (o)), (1, .int (g)), (2, .int (nI c)), (3, .int (A)), (4, .int (x4)), (5, .int ((r / 5))), (6, .int ((q + (((upd wa (nI t).toNatClampNeg ((r - r / 5 * 5)))) (nI t).toNatClampNeg)))), (7, .int ((nI t + (-1))))] [3, 4, 5, 6, 7, 2, 1, 0] rfl ?_
        exact ih (by omega) _ _ S2 _ hC2 (fun S9 h9 => by have := kk S9; rw [st3a, if_neg c3] at this; exact this h9)
      · refine x_aload_n 1 dX7_sets_132 rfl ?_
        refine gf_X7_44 rfl dX7_sets_133 (mhK hC2.1.1) ?_
        rw [show gP (S2) 274 (o) = some (o + 12) from (mhP_price hC2.1.1)]
        refine x_aload_n 1 dX7_sets_136 rfl ?_
        refine gf_X7_53 rfl dX7_sets_137 (mhK hC2.1.1) ?_
        rw [show gP (S2) 278 (o) = some (o + 15) from (mhP_here hC2.1.1)]
        refine x_iload 7 dX7_sets_140 rfl ?_
        refine x_iaload dX7_sets_142 (mhK_here hC2.1.1) (by rw [show gL (S2) (o + 15) = 6 from (mhL_here hC2.1.1)]; exact (vp_in_nI (by omega) (by decide))) ?_
        rw [show gR (S2) (o + 15) = he from hC2.2.2.1]
        refine x_iaload dX7_sets_143 (mhK_price hC2.1.1) (by rw [show gL (S2) (o + 12) = 60 from (mhL_price hC2.1.1)]; exact (h60 _ (by rw [nI_clamp (by omega)]; omega))) ?_
        rw [show gR (S2) (o + 12) = σ.2 12 from (hC2.1.r 12 (by decide))]
        refine x_goto 154 dX7_sets_144 (by decide) ?_
        refine x_iadd dX7_sets_154 ?_
        refine x_istore [(6, .int ((q + ((σ.2 12) ((he (nI t).toNatClampNeg)).toNatClampNeg)))), (5, .int ((r / 5))), (0, .ref (o)), (1, .int (g)), (2, .int (nI c)), (3, .int (A)), (4, .int (x4)), (7, .int (nI t))] dX7_sets_155 (Nat.le_of_ble_eq_true rfl) rfl ?_
        refine x_iinc 7 (nI t + (-1)) [(7, .int ((nI t + (-1)))), (6, .int ((q + ((σ.2 12) ((he (nI t).toNatClampNeg)).toNatClampNeg)))), (5, .int ((r / 5))), (0, .ref (o)), (1, .int (g)), (2, .int (nI c)), (3, .int (A)), (4, .int (x4))] dX7_sets_157 rfl rfl (Nat.le_of_ble_eq_true rfl) rfl ?_
        refine x_goto 97 dX7_sets_160 (by decide) ?_
        refine x_lv [(0, .ref (o)), (1, .int (g)), (2, .int (nI c)), (3, .int (A)), (4, .int (x4)), (5, .int ((r / 5))), (6, .int ((q + ((σ.2 12) ((he (nI t).toNatClampNeg)).toNatClampNeg)))), (7, .int ((nI t + (-1))))] [3, 4, 5, 6, 7, 2, 1, 0] rfl ?_
        exact ih (by omega) _ _ S2 _ hC2 (fun S9 h9 => by have := kk S9; rw [st3a, if_pos c3] at this; exact this h9)
set_option maxRecDepth 100000 in
theorem l_st3b {k : KT} {Z : ZT} {S0 : HS} {o : Nat} {σ : MS} {g : Int32} {he wa : Nat → Int32} {bc A x4 : Int32} {c : Nat} (hc : c ≤ 6) : ∀ (m j : Nat), j + m = c → ∀ (S : HS) (bw : Nat → Int32), SC S0 S o σ he wa bw bc → (∀ S9 : HS, SC S0 S9 o σ he wa (st3b wa m j bw) bc → X k (mt_X7_sets (rm 7 0 0)) Z 226 [(0, .ref o), (1, .int g), (2, .int (nI c)), (3, .int A), (4, .int x4)] [] S9 0 0) → X k (mt_X7_sets (rm 7 0 0)) Z 200 [(0, .ref (o)), (1, .int (g)), (2, .int (nI c)), (3, .int A), (4, .int x4), (7, .int (nI j))] [] S 0 0 := by
  intro m
  induction m with
  | zero =>
    intro j hj S bw hC kk
    refine x_iload 5 dX7_sets_200 rfl ?_
    refine x_iload_n 2 dX7_sets_202 rfl ?_
    refine x_icmp_ge 226 dX7_sets_203 (by decide) (fun c1 => ?_) (fun c1 => ?_)
    · refine x_lv [(0, .ref (o)), (1, .int (g)), (2, .int (nI c)), (3, .int (A)), (4, .int (x4))] [0, 1, 2, 3, 4] rfl ?_
      exact kk S hC
    · exact absurd (nI_le (by omega) (by omega)) c1
  | succ m ih =>
    intro j hj S bw hC kk
    refine x_iload 5 dX7_sets_200 rfl ?_
    refine x_iload_n 2 dX7_sets_202 rfl ?_
    refine x_icmp_ge 226 dX7_sets_203 (by decide) (fun c1 => ?_) (fun c1 => ?_)
    · exact absurd c1 (nI_ge (by omega) (by omega))
    · refine x_aload_n 0 dX7_sets_206 rfl ?_
      refine gf_X7_59 rfl dX7_sets_207 (mhK hC.1.1) ?_
      rw [show gP (S) 280 (o) = some (o + 17) from (mhP_bestWays hC.1.1)]
      refine x_iload 5 dX7_sets_210 rfl ?_
      refine x_aload_n 0 dX7_sets_212 rfl ?_
      refine gf_X7_56 rfl dX7_sets_213 (mhK hC.1.1) ?_
      rw [show gP (S) 279 (o) = some (o + 16) from (mhP_ways hC.1.1)]
      refine x_iload 5 dX7_sets_216 rfl ?_
      refine x_iaload dX7_sets_218 (mhK_ways hC.1.1) (by rw [show gL (S) (o + 16) = 6 from (mhL_ways hC.1.1)]; exact (vp_in_nI (by omega) (by decide))) ?_
      rw [show gR (S) (o + 16) = wa from hC.2.2.2.1]
      refine x_iastore dX7_sets_219 (mhK_bestWays hC.1.1) (by rw [show gL (S) (o + 17) = 6 from (mhL_bestWays hC.1.1)]; exact (vp_in_nI (by omega) (by decide))) ?_
      rw [show gR (S) (o + 17) = bw from hC.2.2.2.2.1]
      obtain ⟨S2, eS2⟩ : ∃ s9 : HS, s9 = uR (S) (o + 17) (upd bw (nI j).toNatClampNeg ((wa (nI j).toNatClampNeg))) := ⟨_, rfl⟩
      rw [← eS2]
      have hC2 : SC S0 S2 o σ (he) (wa) ((upd bw (nI j).toNatClampNeg ((wa (nI j).toNatClampNeg)))) (bc) := by rw [eS2]; exact hC.w17 _
      clear eS2
      refine x_iinc 5 (nI j + 1) [(7, .int ((nI j + 1))), (0, .ref (o)), (1, .int (g)), (2, .int (nI c)), (3, .int (A)), (4, .int (x4))] dX7_sets_220 rfl rfl (Nat.le_of_ble_eq_true rfl) rfl ?_
      refine x_goto 200 dX7_sets_223 (by decide) ?_
      refine x_lv [(0, .ref (o)), (1, .int (g)), (2, .int (nI c)), (3, .int (A)), (4, .int (x4)), (7, .int (nI (j + 1)))] [1, 2, 3, 4, 5, 0] (by rw [← nI_1 j]; rfl) ?_
      exact ih (j + 1) (by omega) S2 _ hC2 (fun S9 h9 => by have := kk S9; rw [st3b] at this; exact this h9)
