set_option maxRecDepth 100000 in
theorem l_st3 {k : KT} {Z : ZT} {S0 : HS} {o : Nat} {σ : MS} {g : Int32} {he : Nat → Int32} {c A : Nat} (hO : okS σ) (hc : c ≤ 6) (hA : A < 2 ^ 30) (h60 : ∀ i, i < c → vp_in (he i) 60) : ∀ (m i : Nat), i + m = A → ∀ (S : HS) (wa bw : Nat → Int32) (bc : Int32), SC S0 S o σ he wa bw bc → (∀ S9 : HS, SC S0 S9 o σ he (st3 σ he c m i wa bw bc).1 (st3 σ he c m i wa bw bc).2.1 (st3 σ he c m i wa bw bc).2.2 → X k (mt_X7_sets (rm 7 0 0)) Z 232 [(0, .ref o), (1, .int g), (2, .int (nI c))] [] S9 0 0) → X k (mt_X7_sets (rm 7 0 0)) Z 79 [(0, .ref (o)), (1, .int (g)), (2, .int (nI c)), (3, .int (nI A)), (4, .int (nI i))] [] S 0 0 := by
  intro m
  induction m with
  | zero =>
    intro i hi S wa bw bc hC kk
    refine x_iload 4 dX7_sets_79 rfl ?_
    refine x_iload_n 3 dX7_sets_81 rfl ?_
    refine x_icmp_ge 232 dX7_sets_82 (by decide) (fun c1 => ?_) (fun c1 => ?_)
    · refine x_lv [(0, .ref (o)), (1, .int (g)), (2, .int (nI c))] [0, 1, 2] rfl ?_
      exact kk S hC
    · exact absurd (nI_le (by omega) (by omega)) c1
  | succ m ih =>
    intro i hi S wa bw bc hC kk
    refine x_iload 4 dX7_sets_79 rfl ?_
    refine x_iload_n 3 dX7_sets_81 rfl ?_
    refine x_icmp_ge 232 dX7_sets_82 (by decide) (fun c1 => ?_) (fun c1 => ?_)
    · exact absurd c1 (nI_ge (by omega) (by omega))
    · refine x_iload 4 dX7_sets_85 rfl ?_
      refine x_istore [(5, .int (nI i)), (0, .ref (o)), (1, .int (g)), (2, .int (nI c)), (3, .int (nI A)), (4, .int (nI i))] dX7_sets_87 (Nat.le_of_ble_eq_true rfl) rfl ?_
      refine x_iconst 0 dX7_sets_89 (by decide) ?_
      refine x_istore [(6, .int (0)), (5, .int (nI i)), (0, .ref (o)), (1, .int (g)), (2, .int (nI c)), (3, .int (nI A)), (4, .int (nI i))] dX7_sets_90 (Nat.le_of_ble_eq_true rfl) rfl ?_
      refine x_iload_n 4 dX7_sets_92 rfl ?_
      refine x_iconst 1 dX7_sets_93 (by decide) ?_
      refine x_isub dX7_sets_94 ?_
      refine x_istore [(7, .int ((nI c - 1))), (6, .int (0)), (5, .int (nI i)), (0, .ref (o)), (1, .int (g)), (2, .int (nI c)), (3, .int (nI A)), (4, .int (nI i))] dX7_sets_95 (Nat.le_of_ble_eq_true rfl) rfl ?_
      refine x_lv [(0, .ref (o)), (1, .int (g)), (2, .int (nI c)), (3, .int (nI A)), (4, .int (nI i)), (5, .int (nI i)), (6, .int (0)), (7, .int (nI c + (-1)))] [3, 4, 5, 6, 7, 2, 1, 0] (by rw [← Int32.sub_eq_add_neg]; rfl) ?_
      refine l_st3a hc h60 c (Nat.le_refl c) (nI i) 0 S wa hC (fun S9 h9 => ?_)
      refine x_aload_n 0 dX7_sets_163 rfl ?_
      refine gf_X7_154 rfl dX7_sets_164 (mhK h9.1.1) ?_
      rw [show gI (S9) 281 (o) = bc from h9.2.2.2.2.2]
      refine x_iconst (-1) dX7_sets_167 (by decide) ?_
      refine x_icmp_eq 180 dX7_sets_168 (by decide) (fun c1 => ?_) (fun c1 => ?_)
      · refine x_aload_n 0 dX7_sets_180 rfl ?_
        refine x_iload_n 2 dX7_sets_181 rfl ?_
        refine ca_X7_157 [.int (nI c)] [] (c_X7_isGood h9.1 hO h9.2.2.1 h9.2.2.2.1 hc h60) (mhK h9.1.1) rfl dX7_sets_182 rfl rfl ⟨(Nat.le_of_ble_eq_true rfl), (Nat.le_of_ble_eq_true rfl), (Nat.le_of_ble_eq_true rfl), (Nat.le_of_ble_eq_true rfl), (Nat.le_of_ble_eq_true rfl)⟩ (fun v T hq => ?_)
        obtain ⟨rfl, rfl⟩ := hq
        refine x_if_ne 191 dX7_sets_185 (by decide) (fun c2 => ?_) (fun c2 => ?_)
        · refine x_aload_n 0 dX7_sets_191 rfl ?_
          refine x_iload 5 dX7_sets_192 rfl ?_
          refine pf_X7_154 rfl dX7_sets_194 (mhK h9.1.1) ?_
          obtain ⟨S3, eS3⟩ : ∃ s9 : HS, s9 = uI (S9) 281 (o) ((st3a σ he c (nI i) 0 wa).1) := ⟨_, rfl⟩
          rw [← eS3]
          have hC3 : SC S0 S3 o σ (he) ((st3a σ he c (nI i) 0 wa).2) (bw) ((st3a σ he c (nI i) 0 wa).1) := by rw [eS3]; exact h9.wbc _
          clear eS3
          refine x_iconst 0 dX7_sets_197 (by decide) ?_
          refine x_istore [(7, .int (0)), (0, .ref (o)), (1, .int (g)), (2, .int (nI c)), (3, .int (nI A)), (4, .int (nI i)), (6, .int ((st3a σ he c (nI i) 0 wa).1))] dX7_sets_198 (Nat.le_of_ble_eq_true rfl) rfl ?_
          refine x_lv [(0, .ref (o)), (1, .int (g)), (2, .int (nI c)), (3, .int (nI A)), (4, .int (nI i)), (7, .int (nI 0))] [1, 2, 3, 4, 5, 0] rfl ?_
          refine l_st3b hc c 0 (by omega) S3 bw hC3 (fun S7 h7 => ?_)
          refine x_iinc 4 (nI i + 1) [(4, .int ((nI i + 1))), (0, .ref (o)), (1, .int (g)), (2, .int (nI c)), (3, .int (nI A))] dX7_sets_226 rfl rfl (Nat.le_of_ble_eq_true rfl) rfl ?_
          refine x_goto 79 dX7_sets_229 (by decide) ?_
          refine x_lv [(0, .ref (o)), (1, .int (g)), (2, .int (nI c)), (3, .int (nI A)), (4, .int (nI (i + 1)))] [1, 2, 3, 4, 0] (by rw [← nI_1 i]; rfl) ?_
          exact ih (i + 1) (by omega) S7 _ _ _ h7 (fun S8 h8 => by have := kk S8; rw [st3, if_pos c1, if_neg c2] at this; exact this h8)
        · refine x_goto 226 dX7_sets_188 (by decide) ?_
          refine x_lv [(0, .ref (o)), (1, .int (g)), (2, .int (nI c)), (3, .int (nI A)), (4, .int (nI i))] [0, 1, 2, 3, 4] rfl ?_
          refine x_iinc 4 (nI i + 1) [(4, .int ((nI i + 1))), (0, .ref (o)), (1, .int (g)), (2, .int (nI c)), (3, .int (nI A))] dX7_sets_226 rfl rfl (Nat.le_of_ble_eq_true rfl) rfl ?_
          refine x_goto 79 dX7_sets_229 (by decide) ?_
          refine x_lv [(0, .ref (o)), (1, .int (g)), (2, .int (nI c)), (3, .int (nI A)), (4, .int (nI (i + 1)))] [1, 2, 3, 4, 0] (by rw [← nI_1 i]; rfl) ?_
          exact ih (i + 1) (by omega) S9 _ _ _ h9 (fun S8 h8 => by have := kk S8; rw [st3, if_pos c1, if_pos c2] at this; exact this h8)
      · refine x_iload 5 dX7_sets_171 rfl ?_
        refine x_aload_n 0 dX7_sets_173 rfl ?_
        refine gf_X7_154 rfl dX7_sets_174 (mhK h9.1.1) ?_
        rw [show gI (S9) 281 (o) = bc from h9.2.2.2.2.2]
        refine x_icmp_ge 226 dX7_sets_177 (by decide) (fun c4 => ?_) (fun c4 => ?_)
        · refine x_lv [(0, .ref (o)), (1, .int (g)), (2, .int (nI c)), (3, .int (nI A)), (4, .int (nI i))] [0, 1, 2, 3, 4] rfl ?_
          refine x_iinc 4 (nI i + 1) [(4, .int ((nI i + 1))), (0, .ref (o)), (1, .int (g)), (2, .int (nI c)), (3, .int (nI A))] dX7_sets_226 rfl rfl (Nat.le_of_ble_eq_true rfl) rfl ?_
          refine x_goto 79 dX7_sets_229 (by decide) ?_
          refine x_lv [(0, .ref (o)), (1, .int (g)), (2, .int (nI c)), (3, .int (nI A)), (4, .int (nI (i + 1)))] [1, 2, 3, 4, 0] (by rw [← nI_1 i]; rfl) ?_
          exact ih (i + 1) (by omega) S9 _ _ _ h9 (fun S8 h8 => by have := kk S8; rw [st3, if_neg c1, if_pos c4] at this; exact this h8)
        · refine x_aload_n 0 dX7_sets_180 rfl ?_
          refine x_iload_n 2 dX7_sets_181 rfl ?_
          refine ca_X7_157 [.int (nI c)] [] (c_X7_isGood h9.1 hO h9.2.2.1 h9.2.2.2.1 hc h60) (mhK h9.1.1) rfl dX7_sets_182 rfl rfl ⟨(Nat.le_of_ble_eq_true rfl), (Nat.le_of_ble_eq_true rfl), (Nat.le_of_ble_eq_true rfl), (Nat.le_of_ble_eq_true rfl), (Nat.le_of_ble_eq_true rfl)⟩ (fun v T hq => ?_)
          obtain ⟨rfl, rfl⟩ := hq
          refine x_if_ne 191 dX7_sets_185 (by decide) (fun c5 => ?_) (fun c5 => ?_)
          · refine x_aload_n 0 dX7_sets_191 rfl ?_
            refine x_iload 5 dX7_sets_192 rfl ?_
            refine pf_X7_154 rfl dX7_sets_194 (mhK h9.1.1) ?_
            obtain ⟨S6, eS6⟩ : ∃ s9 : HS, s9 = uI (S9) 281 (o) ((st3a σ he c (nI i) 0 wa).1) := ⟨_, rfl⟩
            rw [← eS6]
            have hC6 : SC S0 S6 o σ (he) ((st3a σ he c (nI i) 0 wa).2) (bw) ((st3a σ he c (nI i) 0 wa).1) := by rw [eS6]; exact h9.wbc _
            clear eS6
            refine x_iconst 0 dX7_sets_197 (by decide) ?_
            refine x_istore [(7, .int (0)), (0, .ref (o)), (1, .int (g)), (2, .int (nI c)), (3, .int (nI A)), (4, .int (nI i)), (6, .int ((st3a σ he c (nI i) 0 wa).1))] dX7_sets_198 (Nat.le_of_ble_eq_true rfl) rfl ?_
            refine x_lv [(0, .ref (o)), (1, .int (g)), (2, .int (nI c)), (3, .int (nI A)), (4, .int (nI i)), (7, .int (nI 0))] [1, 2, 3, 4, 5, 0] rfl ?_
            refine l_st3b hc c 0 (by omega) S6 bw hC6 (fun S7 h7 => ?_)
            refine x_iinc 4 (nI i + 1) [(4, .int ((nI i + 1))), (0, .ref (o)), (1, .int (g)), (2, .int (nI c)), (3, .int (nI A))] dX7_sets_226 rfl rfl (Nat.le_of_ble_eq_true rfl) rfl ?_
            refine x_goto 79 dX7_sets_229 (by decide) ?_
            refine x_lv [(0, .ref (o)), (1, .int (g)), (2, .int (nI c)), (3, .int (nI A)), (4, .int (nI (i + 1)))] [1, 2, 3, 4, 0] (by rw [← nI_1 i]; rfl) ?_
            exact ih (i + 1) (by omega) S7 _ _ _ h7 (fun S8 h8 => by have := kk S8; rw [st3, if_neg c1, if_neg c4, if_neg c5] at this; exact this h8)
          · refine x_goto 226 dX7_sets_188 (by decide) ?_
            refine x_lv [(0, .ref (o)), (1, .int (g)), (2, .int (nI c)), (3, .int (nI A)), (4, .int (nI i))] [0, 1, 2, 3, 4] rfl ?_
            refine x_iinc 4 (nI i + 1) [(4, .int ((nI i + 1))), (0, .ref (o)), (1, .int (g)), (2, .int (nI c)), (3, .int (nI A))] dX7_sets_226 rfl rfl (Nat.le_of_ble_eq_true rfl) rfl ?_
            refine x_goto 79 dX7_sets_229 (by decide) ?_
            refine x_lv [(0, .ref (o)), (1, .int (g)), (2, .int (nI c)), (3, .int (nI A)), (4, .int (nI (i + 1)))] [1, 2, 3, 4, 0] (by rw [← nI_1 i]; rfl) ?_
            exact ih (i + 1) (by omega) S9 _ _ _ h9 (fun S8 h8 => by have := kk S8; rw [st3, if_neg c1, if_neg c4, if_pos c5] at this; exact this h8)
theorem st1_cnt {σ : MS} {g : Int32} : ∀ (m j c : Nat) (r : Nat → Int32), (st1 σ g m j c r).1 = c + cN σ g m j := by
  intro m
  induction m with
  | zero => intro j c r; rfl
  | succ m ih =>
    intro j c r
    rw [st1, cN]
    by_cases h1 : σ.2 7 (nI j).toNatClampNeg = 0
    · rw [if_pos h1, if_pos h1, ih]; omega
    · rw [if_neg h1, if_neg h1]
      by_cases h2 : σ.2 8 (nI j).toNatClampNeg = g
      · rw [if_pos h2, if_pos h2, ih]; omega
      · rw [if_neg h2, if_neg h2, ih]; omega
theorem st1_in {σ : MS} {g : Int32} : ∀ (m j c : Nat) (r : Nat → Int32), j + m ≤ 60 → c + cN σ g m j ≤ 6 → (∀ i, i < c → vp_in (r i) 60) → ∀ i, i < (st1 σ g m j c r).1 → vp_in ((st1 σ g m j c r).2 i) 60 := by
  intro m
  induction m with
  | zero => intro j c r _ _ h i hi; exact h i hi
  | succ m ih =>
    intro j c r hj hc h
    rw [st1]
    rw [cN] at hc
    by_cases h1 : σ.2 7 (nI j).toNatClampNeg = 0
    · rw [if_pos h1]; rw [if_pos h1] at hc; exact ih (j + 1) c r (by omega) (by omega) h
    · rw [if_neg h1]; rw [if_neg h1] at hc
      by_cases h2 : σ.2 8 (nI j).toNatClampNeg = g
      · rw [if_pos h2]; rw [if_pos h2] at hc
        refine ih (j + 1) (c + 1) _ (by omega) (by omega) (fun i hi => ?_)
        rw [nI_clamp (by omega)]
        by_cases e : i = c
        · subst e; rw [pk_us]; exact vp_in_nI (by omega) (by decide)
        · rw [pk_un e]; exact h i (by omega)
      · rw [if_neg h2]; rw [if_neg h2] at hc; exact ih (j + 1) c r (by omega) (by omega) h
theorem pow5_lt {c : Nat} (h : c ≤ 6) : 5 ^ c < 2 ^ 30 := Nat.lt_of_le_of_lt (Nat.pow_le_pow_right (by decide) h) (by decide)
set_option maxRecDepth 100000 in
/-- sets: the names of the gore by their numbers, then the best ways -/
theorem c_X7_sets {k : KT} {S : HS} {o : Nat} {σ : MS} {g : Int32} {P c : Nat} {he : Nat → Int32} (hM : MI S o σ) (hO : okS σ) (hP : σ.1 12 = nI P) (hP2 : P ≤ 60) (hN : cN σ g P 0 ≤ 6) (hst : st1 σ g P 0 0 (gR S (o + 15)) = (c, he)) : Ct k (mt_X7_sets (rm 7 0 0)) [.ref o, .int g] S (fun v T => v = some (.int (nI c)) ∧ SC S T o σ he (st3 σ he c (5 ^ c) 0 (gR S (o + 16)) (gR S (o + 17)) (-1)).1 (st3 σ he c (5 ^ c) 0 (gR S (o + 16)) (gR S (o + 17)) (-1)).2.1 (st3 σ he c (5 ^ c) 0 (gR S (o + 16)) (gR S (o + 17)) (-1)).2.2) := by
  have hc : c ≤ 6 := by
    have := st1_cnt (σ := σ) (g := g) P 0 0 (gR S (o + 15))
    rw [hst] at this
    have h2 : c = 0 + cN σ g P 0 := this
    omega
  have h60 : ∀ i, i < c → vp_in (he i) 60 := by
    have := st1_in (σ := σ) (g := g) P 0 0 (gR S (o + 15)) (by omega) (by omega) (fun i hi => absurd hi (Nat.not_lt_zero i))
    rw [hst] at this
    exact this
  refine Ct.ofF (by decide +kernel) (Nat.le_of_ble_eq_true rfl) ?_
  refine x_lv [(0, .ref o), (1, .int g)] [0, 1] rfl ?_
  refine x_iconst 0 dX7_sets_0 (by decide) ?_
  refine x_istore_n [(2, .int 0), (0, .ref o), (1, .int g)] dX7_sets_1 (Nat.le_of_ble_eq_true rfl) rfl ?_
  refine x_iconst 0 dX7_sets_2 (by decide) ?_
  refine x_istore_n [(3, .int 0), (2, .int 0), (0, .ref o), (1, .int g)] dX7_sets_3 (Nat.le_of_ble_eq_true rfl) rfl ?_
  refine x_lv [(0, .ref (o)), (1, .int (g)), (2, .int (nI 0)), (3, .int (nI 0))] [2, 3, 1, 0] rfl ?_
  refine l_st1 (c0 := 0) (h0 := he) hP hP2 P 0 0 (by omega) (by omega) S (gR S (o + 15)) ⟨hM, FM.rf, rfl, rfl, rfl, rfl⟩ (fun S1 h1 => ?_)
  rw [hst] at h1 ⊢
  refine x_lv [(0, .ref (o)), (1, .int (g)), (2, .int (nI c))] [0, 1, 2] rfl ?_
  refine x_iconst 1 dX7_sets_50 (by decide) ?_
  refine x_istore_n [(3, .int (1)), (0, .ref (o)), (1, .int (g)), (2, .int (nI c))] dX7_sets_51 (Nat.le_of_ble_eq_true rfl) rfl ?_
  refine x_iconst 0 dX7_sets_52 (by decide) ?_
  refine x_istore [(4, .int (0)), (3, .int (1)), (0, .ref (o)), (1, .int (g)), (2, .int (nI c))] dX7_sets_53 (Nat.le_of_ble_eq_true rfl) rfl ?_
  refine x_lv [(0, .ref (o)), (1, .int (g)), (2, .int (nI c)), (3, .int (nI (5 ^ 0))), (4, .int (nI 0))] [2, 3, 4, 1, 0] rfl ?_
  refine l_st2 h1 hc ?_ c 0 (by omega)
  refine x_aload_n 0 dX7_sets_71 rfl ?_
  refine x_iconst (-1) dX7_sets_72 (by decide) ?_
  refine pf_X7_154 rfl dX7_sets_73 (mhK h1.1.1) ?_
  obtain ⟨S1, eS1⟩ : ∃ s9 : HS, s9 = uI (S1) 281 (o) ((-1)) := ⟨_, rfl⟩
  rw [← eS1]
  have hC1 : SC S S1 o σ (he) (gR S (o + 16)) (gR S (o + 17)) ((-1)) := by rw [eS1]; exact h1.wbc _
  clear eS1
  refine x_iconst 0 dX7_sets_76 (by decide) ?_
  refine x_istore [(4, .int (0)), (0, .ref (o)), (1, .int (g)), (2, .int (nI c)), (3, .int (nI (5 ^ c)))] dX7_sets_77 (Nat.le_of_ble_eq_true rfl) rfl ?_
  refine x_lv [(0, .ref (o)), (1, .int (g)), (2, .int (nI c)), (3, .int (nI (5 ^ c))), (4, .int (nI 0))] [1, 2, 3, 4, 0] rfl ?_
  refine l_st3 hO hc (pow5_lt hc) h60 (5 ^ c) 0 (by omega) S1 _ _ _ hC1 (fun S9 h9 => ?_)
  refine x_iload_n 2 dX7_sets_232 rfl ?_
  exact x_ireturn dX7_sets_233 rfl (Nat.le_of_ble_eq_true rfl) (Nat.le_of_ble_eq_true rfl) ⟨rfl, h9⟩
theorem SC.trans {S S1 : HS} {o : Nat} {σ : MS} {he wa bw : Nat → Int32} {bc : Int32} (h : SC S S1 o σ he wa bw bc) : MI S1 o σ ∧ FM o S S1 := ⟨h.1, h.2.1⟩
