/-- what a constructor beside it leaves of the rest: everything below its address, and every field of other classes -/
def NF (lo : Nat) (S T : HS) : Prop := gN S ≤ gN T ∧ (∀ a, a < lo → gK T a = gK S a ∧ gL T a = gL S a ∧ gR T a = gR S a ∧ gQ T a = gQ S a ∧ (∀ f, f < 256 → gI T f a = gI S f a) ∧ ∀ f, gP T f a = gP S f a)
theorem NF.rf {lo : Nat} {S : HS} : NF lo S S := ⟨Nat.le_refl _, fun _ _ => ⟨rfl, rfl, rfl, rfl, fun _ _ => rfl, fun _ => rfl⟩⟩
def cosP (n : Nat) : Nat → Int32 := fun i => if i < n then (cosL ++ [0]).getD i 0 else 0
theorem cosP_up (n : Nat) : upd (cosP n) n ((cosL ++ [0]).getD n 0) = cosP (n + 1) := by
  funext i
  by_cases e : i = n
  · subst e; rw [pk_us, cosP, if_pos (by omega)]
  · rw [pk_un e, cosP, cosP]
    by_cases h : i < n
    · rw [if_pos h, if_pos (by omega)]
    · rw [if_neg h, if_neg (by omega)]
theorem uR_uR (S : HS) (a : Nat) (r r2 : Nat → Int32) : uR (uR S a r) a r2 = uR S a r2 := by
  have e : (fun b => if b = a then r2 else (fun b => if b = a then r else S.2.2.2.2.1 b) b) = (fun b => if b = a then r2 else S.2.2.2.2.1 b) := by
    funext b
    by_cases e : b = a
    · rw [if_pos e, if_pos e]
    · rw [if_neg e, if_neg e]; exact if_neg e
  show (S.1, S.2.1, S.2.2.1, S.2.2.2.1, (fun b => if b = a then r2 else (fun b => if b = a then r else S.2.2.2.2.1 b) b), S.2.2.2.2.2) = _
  rw [e]; rfl
theorem uR_id (S : HS) (a : Nat) (r : Nat → Int32) (h : gR S a = r) : uR S a r = S := by
  have e : (fun b => if b = a then r else S.2.2.2.2.1 b) = S.2.2.2.2.1 := by
    funext b
    by_cases e : b = a
    · subst e; rw [if_pos rfl]; exact h.symm
    · rw [if_neg e]
  show (S.1, S.2.1, S.2.2.1, S.2.2.2.1, (fun b => if b = a then r else S.2.2.2.2.1 b), S.2.2.2.2.2) = S
  rw [e]
theorem x_cosS {k : KT} {μ : MT} {Z : ZT} {pc : Nat} {lv : List (Nat × Value)} {rest : List Value} {S : HS} {cells slots a : Nat} {i x : Int32} (n : Nat) (hd : decode μ.2.2.1 pc = .ok (.iastore, 1)) (hK : gK S a = 20) (hL : gL S a = 92) (hi : i = nI n) (hn : n < 92) (hx : x = (cosL ++ [0]).getD n 0) (kk : X k μ Z (pc + 1) lv rest (uR S a (cosP (n + 1))) cells slots) : X k μ Z pc lv (.int x :: .int i :: .ref a :: rest) (uR S a (cosP n)) cells slots := by
  refine x_iastore hd (by rw [gK_uR]; exact hK) (by rw [gL_uR, hL, hi]; exact vp_in_nI hn (by decide)) ?_
  rw [gR_uR, if_pos rfl, hi, nI_clamp (by omega), hx, cosP_up, uR_uR]
  exact kk
/-- the first n rows of the reference are made -/
def IN (S0 S : HS) (o n : Nat) : Prop := gN S = o + 1 + n ∧ gK S o = 9 ∧ (∀ q ∈ mhT.take n, gP S (256 + q.1) o = some (o + q.2.1) ∧ gK S (o + q.2.1) = q.2.2.1 ∧ gL S (o + q.2.1) = q.2.2.2) ∧ (∀ f a, gI S f a = gI S0 f a) ∧ NF o S0 S ∧ ∀ a, 0 < a → a ≤ n → gR S (o + a) = if a = 1 then cosP 92 else fun _ => 0
theorem IN.st {S0 S : HS} {o n f kd N : Nat} (h : IN S0 S o n) (hq : mhT[n]? = some (f, n + 1, kd, N)) (hne : ∀ q ∈ mhT.take n, q.1 ≠ f) (hle : ∀ q ∈ mhT.take n, q.2.1 ≤ n) (hn : 0 < n) : IN S0 (uP (nA S kd N) (256 + f) o (some (gN S))) o (n + 1) := by
  obtain ⟨h1, h2, h3, h4, h5, h6⟩ := h
  refine ⟨by rw [gN_uP, gN_nA, h1]; omega, by rw [gK_uP, gK_nA, if_neg (by omega)]; exact h2, fun q hm => ?_, fun f' a => by rw [gI_uP, gI_nA]; exact h4 f' a, ⟨by rw [gN_uP, gN_nA]; have := h5.1; omega, fun a ha => ?_⟩, fun a ha hb => ?_⟩
  · rw [List.take_succ, hq] at hm
    rcases List.mem_append.mp hm with hm | hm
    · have := h3 q hm
      have hl := hle q hm
      refine ⟨by rw [gP_uP, if_neg (fun e => hne q hm (by omega)), gP_nA]; exact this.1, by rw [gK_uP, gK_nA, if_neg (by omega)]; exact this.2.1, by rw [gL_uP, gL_nA, if_neg (by omega)]; exact this.2.2⟩
    · have e : q = (f, n + 1, kd, N) := by simpa using hm
      subst e
      refine ⟨by rw [gP_uP, if_pos ⟨rfl, rfl⟩, h1]; congr 1; simp only; omega, by rw [gK_uP, gK_nA, if_pos (by rw [h1]; simp only; omega)], by rw [gL_uP, gL_nA, if_pos (by rw [h1]; simp only; omega)]⟩
  · obtain ⟨a1, a2, a3, a4, a5, a6⟩ := h5.2 a ha
    refine ⟨by rw [gK_uP, gK_nA, if_neg (by omega)]; exact a1, by rw [gL_uP, gL_nA, if_neg (by omega)]; exact a2, by rw [gR_uP, gR_nA, if_neg (by omega)]; exact a3, by rw [gQ_uP, gQ_nA, if_neg (by omega)]; exact a4, fun f' hf => by rw [gI_uP, gI_nA]; exact a5 f' hf, fun f' => by rw [gP_uP, if_neg (by omega), gP_nA]; exact a6 f'⟩
  · rw [gR_uP, gR_nA]
    by_cases e : a = n + 1
    · rw [if_pos (by omega), if_neg (by omega)]
    · rw [if_neg (by omega)]; exact h6 a ha (by omega)
theorem IN.s1 {S : HS} {o : Nat} (hN : gN S = o + 1) (hK : gK S o = 9) : IN S (uP (uR (nA S 20 92) (gN S) (cosP 92)) 256 o (some (gN S))) o 1 := by
  refine ⟨by rw [gN_uP, gN_uR, gN_nA, hN], by rw [gK_uP, gK_uR, gK_nA, if_neg (by omega)]; exact hK, fun q hm => ?_, fun f a => by rw [gI_uP, gI_uR, gI_nA], ⟨by rw [gN_uP, gN_uR, gN_nA]; omega, fun a ha => ?_⟩, fun a ha hb => ?_⟩
  · have e : q = (0, 1, 20, 92) := by simpa [mhT] using hm
    subst e
    refine ⟨by rw [gP_uP, if_pos ⟨rfl, rfl⟩, hN], by rw [gK_uP, gK_uR, gK_nA, if_pos (by rw [hN])], by rw [gL_uP, gL_uR, gL_nA, if_pos (by rw [hN])]⟩
  · refine ⟨by rw [gK_uP, gK_uR, gK_nA, if_neg (by omega)], by rw [gL_uP, gL_uR, gL_nA, if_neg (by omega)], by rw [gR_uP, gR_uR, if_neg (by omega), gR_nA, if_neg (by omega)], by rw [gQ_uP, gQ_uR, gQ_nA, if_neg (by omega)], fun f' _ => by rw [gI_uP, gI_uR, gI_nA], fun f' => by rw [gP_uP, if_neg (by omega), gP_uR, gP_nA]⟩
  · have e : a = 1 := by omega
    subst e
    rw [gR_uP, gR_uR, if_pos (by rw [hN]), if_pos rfl]
theorem IN.mi {S0 S : HS} {o : Nat} (h : IN S0 S o 17) (h0 : ∀ f, gI S0 f o = 0) : MI S o (fun _ => 0, fun a => if a = 0 then gR S o else if a = 1 then cosP 92 else fun _ => 0) := by
  refine ⟨⟨h.2.1, fun q hm => h.2.2.1 q hm⟩, fun j _ => (h.2.2.2.1 _ _).trans (h0 _), fun a ha => ?_⟩
  by_cases e : a = 0
  · subst e; rfl
  · rw [h.2.2.2.2.2 a (by omega) (by omega)]
    show _ = if a = 0 then _ else _
    rw [if_neg e]
def ngo (g0 : Int32) : Nat → Nat → Int32 → Int32
  | 0, _, n => n
  | m + 1, j, n => (if nI j = 6 then (if g0 < nI j then ngo g0 m (j + 1) (n) else ngo g0 m (j + 1) (nI j)) else (if nI j = 8 then (if g0 < nI j then ngo g0 m (j + 1) (n) else ngo g0 m (j + 1) (nI j)) else (if nI j = 9 then (if g0 < nI j then ngo g0 m (j + 1) (n) else ngo g0 m (j + 1) (nI j)) else (if nI j = 10 then (if g0 < nI j then ngo g0 m (j + 1) (n) else ngo g0 m (j + 1) (nI j)) else (if nI j = 12 then (if g0 < nI j then ngo g0 m (j + 1) (n) else ngo g0 m (j + 1) (nI j)) else (if nI j = 15 then (if g0 < nI j then ngo g0 m (j + 1) (n) else ngo g0 m (j + 1) (nI j)) else (if nI j = 18 then (if g0 < nI j then ngo g0 m (j + 1) (n) else ngo g0 m (j + 1) (nI j)) else (if nI j = 20 then (if g0 < nI j then ngo g0 m (j + 1) (n) else ngo g0 m (j + 1) (nI j)) else (if nI j = 24 then (if g0 < nI j then ngo g0 m (j + 1) (n) else ngo g0 m (j + 1) (nI j)) else ngo g0 m (j + 1) (n))))))))))
set_option maxRecDepth 100000 in
theorem l_ngo {k : KT} {Z : ZT} {S : HS} {o cells slots : Nat} {g0 : Int32} : ∀ (m j : Nat) (n : Int32), j + m = 25 → X k (mt_X7_init (rm 1 17 4252)) Z 861 [(0, .ref o), (1, .int g0), (2, .int (ngo g0 m j n))] [] S cells slots → X k (mt_X7_init (rm 1 17 4252)) Z 776 [(0, .ref (o)), (1, .int (g0)), (2, .int (n)), (3, .int (nI j))] [] S cells slots := by
  intro m
  induction m with
  | zero =>
    intro j n hj kk
    refine x_iload_n 3 dX7_init_776 rfl ?_
    refine x_bipush 24 dX7_init_777 (by decide) ?_
    refine x_icmp_gt 861 dX7_init_779 (by decide) (fun c1 => ?_) (fun c1 => ?_)
    · refine x_lv [(0, .ref (o)), (1, .int (g0)), (2, .int (n))] [0, 1, 2] rfl ?_
      exact kk
    · exact absurd (show nI 24 < nI j from nI_lt (by omega) (by omega)) c1
  | succ m ih =>
    intro j n hj kk
    refine x_iload_n 3 dX7_init_776 rfl ?_
    refine x_bipush 24 dX7_init_777 (by decide) ?_
    refine x_icmp_gt 861 dX7_init_779 (by decide) (fun c1 => ?_) (fun c1 => ?_)
    · exact absurd c1 (show ¬ nI 24 < nI j from nI_nlt (by omega) (by omega))
    · refine x_iload_n 3 dX7_init_782 rfl ?_
      refine x_bipush 6 dX7_init_783 (by decide) ?_
      refine x_icmp_eq 836 dX7_init_785 (by decide) (fun c2 => ?_) (fun c2 => ?_)
      · refine x_iconst 1 dX7_init_836 (by decide) ?_
        refine x_goto 841 dX7_init_837 (by decide) ?_
        refine x_istore [(4, .int (1)), (0, .ref (o)), (1, .int (g0)), (2, .int (n)), (3, .int (nI j))] dX7_init_841 (Nat.le_of_ble_eq_true rfl) rfl ?_
        refine x_iload 0 dX7_init_843 rfl ?_
        refine x_if_eq 855 dX7_init_845 (by decide) (fun c3 => ?_) (fun c3 => ?_)
        · exact absurd c3 (by decide)
        · refine x_iload_n 4 dX7_init_848 rfl ?_
          refine x_iload_n 2 dX7_init_849 rfl ?_
          refine x_icmp_gt 855 dX7_init_850 (by decide) (fun c4 => ?_) (fun c4 => ?_)
          · refine x_iinc 4 (nI j + 1) [(3, .int ((nI j + 1))), (4, .int (1)), (0, .ref (o)), (1, .int (g0)), (2, .int (n))] dX7_init_855 rfl rfl (Nat.le_of_ble_eq_true rfl) rfl ?_
            refine x_goto 776 dX7_init_858 (by decide) ?_
            refine x_lv [(0, .ref (o)), (1, .int (g0)), (2, .int (n)), (3, .int (nI (j + 1)))] [2, 3, 4, 0] (by rw [← nI_1 j]; rfl) ?_
            exact ih (j + 1) (n) (by omega) (by rw [ngo, if_pos c2, if_pos c4] at kk; exact kk)
          · refine x_iload_n 4 dX7_init_853 rfl ?_
            refine x_istore_n [(2, .int (nI j)), (4, .int (1)), (0, .ref (o)), (1, .int (g0)), (3, .int (nI j))] dX7_init_854 (Nat.le_of_ble_eq_true rfl) rfl ?_
            refine x_iinc 4 (nI j + 1) [(3, .int ((nI j + 1))), (2, .int (nI j)), (4, .int (1)), (0, .ref (o)), (1, .int (g0))] dX7_init_855 rfl rfl (Nat.le_of_ble_eq_true rfl) rfl ?_
            refine x_goto 776 dX7_init_858 (by decide) ?_
            refine x_lv [(0, .ref (o)), (1, .int (g0)), (2, .int (nI j)), (3, .int (nI (j + 1)))] [3, 4, 1, 0] (by rw [← nI_1 j]; rfl) ?_
            exact ih (j + 1) (nI j) (by omega) (by rw [ngo, if_pos c2, if_neg c4] at kk; exact kk)
      · refine x_iload_n 3 dX7_init_788 rfl ?_
        refine x_bipush 8 dX7_init_789 (by decide) ?_
        refine x_icmp_eq 836 dX7_init_791 (by decide) (fun c5 => ?_) (fun c5 => ?_)
        · refine x_iconst 1 dX7_init_836 (by decide) ?_
          refine x_goto 841 dX7_init_837 (by decide) ?_
          refine x_istore [(4, .int (1)), (0, .ref (o)), (1, .int (g0)), (2, .int (n)), (3, .int (nI j))] dX7_init_841 (Nat.le_of_ble_eq_true rfl) rfl ?_
          refine x_iload 0 dX7_init_843 rfl ?_
          refine x_if_eq 855 dX7_init_845 (by decide) (fun c6 => ?_) (fun c6 => ?_)
          · exact absurd c6 (by decide)
          · refine x_iload_n 4 dX7_init_848 rfl ?_
            refine x_iload_n 2 dX7_init_849 rfl ?_
            refine x_icmp_gt 855 dX7_init_850 (by decide) (fun c7 => ?_) (fun c7 => ?_)
            · refine x_iinc 4 (nI j + 1) [(3, .int ((nI j + 1))), (4, .int (1)), (0, .ref (o)), (1, .int (g0)), (2, .int (n))] dX7_init_855 rfl rfl (Nat.le_of_ble_eq_true rfl) rfl ?_
              refine x_goto 776 dX7_init_858 (by decide) ?_
              refine x_lv [(0, .ref (o)), (1, .int (g0)), (2, .int (n)), (3, .int (nI (j + 1)))] [2, 3, 4, 0] (by rw [← nI_1 j]; rfl) ?_
              exact ih (j + 1) (n) (by omega) (by rw [ngo, if_neg c2, if_pos c5, if_pos c7] at kk; exact kk)
            · refine x_iload_n 4 dX7_init_853 rfl ?_
              refine x_istore_n [(2, .int (nI j)), (4, .int (1)), (0, .ref (o)), (1, .int (g0)), (3, .int (nI j))] dX7_init_854 (Nat.le_of_ble_eq_true rfl) rfl ?_
              refine x_iinc 4 (nI j + 1) [(3, .int ((nI j + 1))), (2, .int (nI j)), (4, .int (1)), (0, .ref (o)), (1, .int (g0))] dX7_init_855 rfl rfl (Nat.le_of_ble_eq_true rfl) rfl ?_
              refine x_goto 776 dX7_init_858 (by decide) ?_
              refine x_lv [(0, .ref (o)), (1, .int (g0)), (2, .int (nI j)), (3, .int (nI (j + 1)))] [3, 4, 1, 0] (by rw [← nI_1 j]; rfl) ?_
              exact ih (j + 1) (nI j) (by omega) (by rw [ngo, if_neg c2, if_pos c5, if_neg c7] at kk; exact kk)
        · refine x_iload_n 3 dX7_init_794 rfl ?_
          refine x_bipush 9 dX7_init_795 (by decide) ?_
          refine x_icmp_eq 836 dX7_init_797 (by decide) (fun c8 => ?_) (fun c8 => ?_)
          · refine x_iconst 1 dX7_init_836 (by decide) ?_
            refine x_goto 841 dX7_init_837 (by decide) ?_
            refine x_istore [(4, .int (1)), (0, .ref (o)), (1, .int (g0)), (2, .int (n)), (3, .int (nI j))] dX7_init_841 (Nat.le_of_ble_eq_true rfl) rfl ?_
            refine x_iload 0 dX7_init_843 rfl ?_
            refine x_if_eq 855 dX7_init_845 (by decide) (fun c9 => ?_) (fun c9 => ?_)
            · exact absurd c9 (by decide)
            · refine x_iload_n 4 dX7_init_848 rfl ?_
              refine x_iload_n 2 dX7_init_849 rfl ?_
              refine x_icmp_gt 855 dX7_init_850 (by decide) (fun c10 => ?_) (fun c10 => ?_)
              · refine x_iinc 4 (nI j + 1) [(3, .int ((nI j + 1))), (4, .int (1)), (0, .ref (o)), (1, .int (g0)), (2, .int (n))] dX7_init_855 rfl rfl (Nat.le_of_ble_eq_true rfl) rfl ?_
                refine x_goto 776 dX7_init_858 (by decide) ?_
                refine x_lv [(0, .ref (o)), (1, .int (g0)), (2, .int (n)), (3, .int (nI (j + 1)))] [2, 3, 4, 0] (by rw [← nI_1 j]; rfl) ?_
                exact ih (j + 1) (n) (by omega) (by rw [ngo, if_neg c2, if_neg c5, if_pos c8, if_pos c10] at kk; exact kk)
              · refine x_iload_n 4 dX7_init_853 rfl ?_
                refine x_istore_n [(2, .int (nI j)), (4, .int (1)), (0, .ref (o)), (1, .int (g0)), (3, .int (nI j))] dX7_init_854 (Nat.le_of_ble_eq_true rfl) rfl ?_
                refine x_iinc 4 (nI j + 1) [(3, .int ((nI j + 1))), (2, .int (nI j)), (4, .int (1)), (0, .ref (o)), (1, .int (g0))] dX7_init_855 rfl rfl (Nat.le_of_ble_eq_true rfl) rfl ?_
                refine x_goto 776 dX7_init_858 (by decide) ?_
                refine x_lv [(0, .ref (o)), (1, .int (g0)), (2, .int (nI j)), (3, .int (nI (j + 1)))] [3, 4, 1, 0] (by rw [← nI_1 j]; rfl) ?_
                exact ih (j + 1) (nI j) (by omega) (by rw [ngo, if_neg c2, if_neg c5, if_pos c8, if_neg c10] at kk; exact kk)
          · refine x_iload_n 3 dX7_init_800 rfl ?_
            refine x_bipush 10 dX7_init_801 (by decide) ?_
            refine x_icmp_eq 836 dX7_init_803 (by decide) (fun c11 => ?_) (fun c11 => ?_)
            · refine x_iconst 1 dX7_init_836 (by decide) ?_
              refine x_goto 841 dX7_init_837 (by decide) ?_
              refine x_istore [(4, .int (1)), (0, .ref (o)), (1, .int (g0)), (2, .int (n)), (3, .int (nI j))] dX7_init_841 (Nat.le_of_ble_eq_true rfl) rfl ?_
              refine x_iload 0 dX7_init_843 rfl ?_
              refine x_if_eq 855 dX7_init_845 (by decide) (fun c12 => ?_) (fun c12 => ?_)
              · exact absurd c12 (by decide)
              · refine x_iload_n 4 dX7_init_848 rfl ?_
                refine x_iload_n 2 dX7_init_849 rfl ?_
                refine x_icmp_gt 855 dX7_init_850 (by decide) (fun c13 => ?_) (fun c13 => ?_)
                · refine x_iinc 4 (nI j + 1) [(3, .int ((nI j + 1))), (4, .int (1)), (0, .ref (o)), (1, .int (g0)), (2, .int (n))] dX7_init_855 rfl rfl (Nat.le_of_ble_eq_true rfl) rfl ?_
                  refine x_goto 776 dX7_init_858 (by decide) ?_
                  refine x_lv [(0, .ref (o)), (1, .int (g0)), (2, .int (n)), (3, .int (nI (j + 1)))] [2, 3, 4, 0] (by rw [← nI_1 j]; rfl) ?_
                  exact ih (j + 1) (n) (by omega) (by rw [ngo, if_neg c2, if_neg c5, if_neg c8, if_pos c11, if_pos c13] at kk; exact kk)
                · refine x_iload_n 4 dX7_init_853 rfl ?_
                  refine x_istore_n [(2, .int (nI j)), (4, .int (1)), (0, .ref (o)), (1, .int (g0)), (3, .int (nI j))] dX7_init_854 (Nat.le_of_ble_eq_true rfl) rfl ?_
                  refine x_iinc 4 (nI j + 1) [(3, .int ((nI j + 1))), (2, .int (nI j)), (4, .int (1)), (0, .ref (o)), (1, .int (g0))] dX7_init_855 rfl rfl (Nat.le_of_ble_eq_true rfl) rfl ?_
                  refine x_goto 776 dX7_init_858 (by decide) ?_
                  refine x_lv [(0, .ref (o)), (1, .int (g0)), (2, .int (nI j)), (3, .int (nI (j + 1)))] [3, 4, 1, 0] (by rw [← nI_1 j]; rfl) ?_
                  exact ih (j + 1) (nI j) (by omega) (by rw [ngo, if_neg c2, if_neg c5, if_neg c8, if_pos c11, if_neg c13] at kk; exact kk)
            · refine x_iload_n 3 dX7_init_806 rfl ?_
              refine x_bipush 12 dX7_init_807 (by decide) ?_
              refine x_icmp_eq 836 dX7_init_809 (by decide) (fun c14 => ?_) (fun c14 => ?_)
              · refine x_iconst 1 dX7_init_836 (by decide) ?_
                refine x_goto 841 dX7_init_837 (by decide) ?_
                refine x_istore [(4, .int (1)), (0, .ref (o)), (1, .int (g0)), (2, .int (n)), (3, .int (nI j))] dX7_init_841 (Nat.le_of_ble_eq_true rfl) rfl ?_
                refine x_iload 0 dX7_init_843 rfl ?_
                refine x_if_eq 855 dX7_init_845 (by decide) (fun c15 => ?_) (fun c15 => ?_)
                · exact absurd c15 (by decide)
                · refine x_iload_n 4 dX7_init_848 rfl ?_
                  refine x_iload_n 2 dX7_init_849 rfl ?_
                  refine x_icmp_gt 855 dX7_init_850 (by decide) (fun c16 => ?_) (fun c16 => ?_)
                  · refine x_iinc 4 (nI j + 1) [(3, .int ((nI j + 1))), (4, .int (1)), (0, .ref (o)), (1, .int (g0)), (2, .int (n))] dX7_init_855 rfl rfl (Nat.le_of_ble_eq_true rfl) rfl ?_
                    refine x_goto 776 dX7_init_858 (by decide) ?_
                    refine x_lv [(0, .ref (o)), (1, .int (g0)), (2, .int (n)), (3, .int (nI (j + 1)))] [2, 3, 4, 0] (by rw [← nI_1 j]; rfl) ?_
                    exact ih (j + 1) (n) (by omega) (by rw [ngo, if_neg c2, if_neg c5, if_neg c8, if_neg c11, if_pos c14, if_pos c16] at kk; exact kk)
                  · refine x_iload_n 4 dX7_init_853 rfl ?_
                    refine x_istore_n [(2, .int (nI j)), (4, .int (1)), (0, .ref (o)), (1, .int (g0)), (3, .int (nI j))] dX7_init_854 (Nat.le_of_ble_eq_true rfl) rfl ?_
                    refine x_iinc 4 (nI j + 1) [(3, .int ((nI j + 1))), (2, .int (nI j)), (4, .int (1)), (0, .ref (o)), (1, .int (g0))] dX7_init_855 rfl rfl (Nat.le_of_ble_eq_true rfl) rfl ?_
                    refine x_goto 776 dX7_init_858 (by decide) ?_
                    refine x_lv [(0, .ref (o)), (1, .int (g0)), (2, .int (nI j)), (3, .int (nI (j + 1)))] [3, 4, 1, 0] (by rw [← nI_1 j]; rfl) ?_
                    exact ih (j + 1) (nI j) (by omega) (by rw [ngo, if_neg c2, if_neg c5, if_neg c8, if_neg c11, if_pos c14, if_neg c16] at kk; exact kk)
              · refine x_iload_n 3 dX7_init_812 rfl ?_
                refine x_bipush 15 dX7_init_813 (by decide) ?_
                refine x_icmp_eq 836 dX7_init_815 (by decide) (fun c17 => ?_) (fun c17 => ?_)
                · refine x_iconst 1 dX7_init_836 (by decide) ?_
                  refine x_goto 841 dX7_init_837 (by decide) ?_
                  refine x_istore [(4, .int (1)), (0, .ref (o)), (1, .int (g0)), (2, .int (n)), (3, .int (nI j))] dX7_init_841 (Nat.le_of_ble_eq_true rfl) rfl ?_
                  refine x_iload 0 dX7_init_843 rfl ?_
                  refine x_if_eq 855 dX7_init_845 (by decide) (fun c18 => ?_) (fun c18 => ?_)
                  · exact absurd c18 (by decide)
                  · refine x_iload_n 4 dX7_init_848 rfl ?_
                    refine x_iload_n 2 dX7_init_849 rfl ?_
                    refine x_icmp_gt 855 dX7_init_850 (by decide) (fun c19 => ?_) (fun c19 => ?_)
                    · refine x_iinc 4 (nI j + 1) [(3, .int ((nI j + 1))), (4, .int (1)), (0, .ref (o)), (1, .int (g0)), (2, .int (n))] dX7_init_855 rfl rfl (Nat.le_of_ble_eq_true rfl) rfl ?_
                      refine x_goto 776 dX7_init_858 (by decide) ?_
                      refine x_lv [(0, .ref (o)), (1, .int (g0)), (2, .int (n)), (3, .int (nI (j + 1)))] [2, 3, 4, 0] (by rw [← nI_1 j]; rfl) ?_
                      exact ih (j + 1) (n) (by omega) (by rw [ngo, if_neg c2, if_neg c5, if_neg c8, if_neg c11, if_neg c14, if_pos c17, if_pos c19] at kk; exact kk)
                    · refine x_iload_n 4 dX7_init_853 rfl ?_
                      refine x_istore_n [(2, .int (nI j)), (4, .int (1)), (0, .ref (o)), (1, .int (g0)), (3, .int (nI j))] dX7_init_854 (Nat.le_of_ble_eq_true rfl) rfl ?_
                      refine x_iinc 4 (nI j + 1) [(3, .int ((nI j + 1))), (2, .int (nI j)), (4, .int (1)), (0, .ref (o)), (1, .int (g0))] dX7_init_855 rfl rfl (Nat.le_of_ble_eq_true rfl) rfl ?_
                      refine x_goto 776 dX7_init_858 (by decide) ?_
                      refine x_lv [(0, .ref (o)), (1, .int (g0)), (2, .int (nI j)), (3, .int (nI (j + 1)))] [3, 4, 1, 0] (by rw [← nI_1 j]; rfl) ?_
                      exact ih (j + 1) (nI j) (by omega) (by rw [ngo, if_neg c2, if_neg c5, if_neg c8, if_neg c11, if_neg c14, if_pos c17, if_neg c19] at kk; exact kk)
                · refine x_iload_n 3 dX7_init_818 rfl ?_
                  refine x_bipush 18 dX7_init_819 (by decide) ?_
                  refine x_icmp_eq 836 dX7_init_821 (by decide) (fun c20 => ?_) (fun c20 => ?_)
                  · refine x_iconst 1 dX7_init_836 (by decide) ?_
                    refine x_goto 841 dX7_init_837 (by decide) ?_
                    refine x_istore [(4, .int (1)), (0, .ref (o)), (1, .int (g0)), (2, .int (n)), (3, .int (nI j))] dX7_init_841 (Nat.le_of_ble_eq_true rfl) rfl ?_
                    refine x_iload 0 dX7_init_843 rfl ?_
                    refine x_if_eq 855 dX7_init_845 (by decide) (fun c21 => ?_) (fun c21 => ?_)
                    · exact absurd c21 (by decide)
                    · refine x_iload_n 4 dX7_init_848 rfl ?_
                      refine x_iload_n 2 dX7_init_849 rfl ?_
                      refine x_icmp_gt 855 dX7_init_850 (by decide) (fun c22 => ?_) (fun c22 => ?_)
                      · refine x_iinc 4 (nI j + 1) [(3, .int ((nI j + 1))), (4, .int (1)), (0, .ref (o)), (1, .int (g0)), (2, .int (n))] dX7_init_855 rfl rfl (Nat.le_of_ble_eq_true rfl) rfl ?_
                        refine x_goto 776 dX7_init_858 (by decide) ?_
                        refine x_lv [(0, .ref (o)), (1, .int (g0)), (2, .int (n)), (3, .int (nI (j + 1)))] [2, 3, 4, 0] (by rw [← nI_1 j]; rfl) ?_
                        exact ih (j + 1) (n) (by omega) (by rw [ngo, if_neg c2, if_neg c5, if_neg c8, if_neg c11, if_neg c14, if_neg c17, if_pos c20, if_pos c22] at kk; exact kk)
                      · refine x_iload_n 4 dX7_init_853 rfl ?_
                        refine x_istore_n [(2, .int (nI j)), (4, .int (1)), (0, .ref (o)), (1, .int (g0)), (3, .int (nI j))] dX7_init_854 (Nat.le_of_ble_eq_true rfl) rfl ?_
                        refine x_iinc 4 (nI j + 1) [(3, .int ((nI j + 1))), (2, .int (nI j)), (4, .int (1)), (0, .ref (o)), (1, .int (g0))] dX7_init_855 rfl rfl (Nat.le_of_ble_eq_true rfl) rfl ?_
                        refine x_goto 776 dX7_init_858 (by decide) ?_
                        refine x_lv [(0, .ref (o)), (1, .int (g0)), (2, .int (nI j)), (3, .int (nI (j + 1)))] [3, 4, 1, 0] (by rw [← nI_1 j]; rfl) ?_
                        exact ih (j + 1) (nI j) (by omega) (by rw [ngo, if_neg c2, if_neg c5, if_neg c8, if_neg c11, if_neg c14, if_neg c17, if_pos c20, if_neg c22] at kk; exact kk)
                  · refine x_iload_n 3 dX7_init_824 rfl ?_
                    refine x_bipush 20 dX7_init_825 (by decide) ?_
                    refine x_icmp_eq 836 dX7_init_827 (by decide) (fun c23 => ?_) (fun c23 => ?_)
                    · refine x_iconst 1 dX7_init_836 (by decide) ?_
                      refine x_goto 841 dX7_init_837 (by decide) ?_
                      refine x_istore [(4, .int (1)), (0, .ref (o)), (1, .int (g0)), (2, .int (n)), (3, .int (nI j))] dX7_init_841 (Nat.le_of_ble_eq_true rfl) rfl ?_
                      refine x_iload 0 dX7_init_843 rfl ?_
                      refine x_if_eq 855 dX7_init_845 (by decide) (fun c24 => ?_) (fun c24 => ?_)
                      · exact absurd c24 (by decide)
                      · refine x_iload_n 4 dX7_init_848 rfl ?_
                        refine x_iload_n 2 dX7_init_849 rfl ?_
                        refine x_icmp_gt 855 dX7_init_850 (by decide) (fun c25 => ?_) (fun c25 => ?_)
                        · refine x_iinc 4 (nI j + 1) [(3, .int ((nI j + 1))), (4, .int (1)), (0, .ref (o)), (1, .int (g0)), (2, .int (n))] dX7_init_855 rfl rfl (Nat.le_of_ble_eq_true rfl) rfl ?_
                          refine x_goto 776 dX7_init_858 (by decide) ?_
                          refine x_lv [(0, .ref (o)), (1, .int (g0)), (2, .int (n)), (3, .int (nI (j + 1)))] [2, 3, 4, 0] (by rw [← nI_1 j]; rfl) ?_
                          exact ih (j + 1) (n) (by omega) (by rw [ngo, if_neg c2, if_neg c5, if_neg c8, if_neg c11, if_neg c14, if_neg c17, if_neg c20, if_pos c23, if_pos c25] at kk; exact kk)
                        · refine x_iload_n 4 dX7_init_853 rfl ?_
                          refine x_istore_n [(2, .int (nI j)), (4, .int (1)), (0, .ref (o)), (1, .int (g0)), (3, .int (nI j))] dX7_init_854 (Nat.le_of_ble_eq_true rfl) rfl ?_
                          refine x_iinc 4 (nI j + 1) [(3, .int ((nI j + 1))), (2, .int (nI j)), (4, .int (1)), (0, .ref (o)), (1, .int (g0))] dX7_init_855 rfl rfl (Nat.le_of_ble_eq_true rfl) rfl ?_
                          refine x_goto 776 dX7_init_858 (by decide) ?_
                          refine x_lv [(0, .ref (o)), (1, .int (g0)), (2, .int (nI j)), (3, .int (nI (j + 1)))] [3, 4, 1, 0] (by rw [← nI_1 j]; rfl) ?_
                          exact ih (j + 1) (nI j) (by omega) (by rw [ngo, if_neg c2, if_neg c5, if_neg c8, if_neg c11, if_neg c14, if_neg c17, if_neg c20, if_pos c23, if_neg c25] at kk; exact kk)
                    · refine x_iload_n 3 dX7_init_830 rfl ?_
                      refine x_bipush 24 dX7_init_831 (by decide) ?_
                      refine x_icmp_ne 840 dX7_init_833 (by decide) (fun c26 => ?_) (fun c26 => ?_)
                      · refine x_iconst 0 dX7_init_840 (by decide) ?_
                        refine x_istore [(4, .int (0)), (0, .ref (o)), (1, .int (g0)), (2, .int (n)), (3, .int (nI j))] dX7_init_841 (Nat.le_of_ble_eq_true rfl) rfl ?_
                        refine x_iload 0 dX7_init_843 rfl ?_
                        refine x_if_eq 855 dX7_init_845 (by decide) (fun c27 => ?_) (fun c27 => ?_)
                        · refine x_iinc 4 (nI j + 1) [(3, .int ((nI j + 1))), (4, .int (0)), (0, .ref (o)), (1, .int (g0)), (2, .int (n))] dX7_init_855 rfl rfl (Nat.le_of_ble_eq_true rfl) rfl ?_
                          refine x_goto 776 dX7_init_858 (by decide) ?_
                          refine x_lv [(0, .ref (o)), (1, .int (g0)), (2, .int (n)), (3, .int (nI (j + 1)))] [2, 3, 4, 0] (by rw [← nI_1 j]; rfl) ?_
                          exact ih (j + 1) (n) (by omega) (by rw [ngo, if_neg c2, if_neg c5, if_neg c8, if_neg c11, if_neg c14, if_neg c17, if_neg c20, if_neg c23, if_neg c26] at kk; exact kk)
                        · exact absurd (by decide) c27
                      · refine x_iconst 1 dX7_init_836 (by decide) ?_
                        refine x_goto 841 dX7_init_837 (by decide) ?_
                        refine x_istore [(4, .int (1)), (0, .ref (o)), (1, .int (g0)), (2, .int (n)), (3, .int (nI j))] dX7_init_841 (Nat.le_of_ble_eq_true rfl) rfl ?_
                        refine x_iload 0 dX7_init_843 rfl ?_
                        refine x_if_eq 855 dX7_init_845 (by decide) (fun c28 => ?_) (fun c28 => ?_)
                        · exact absurd c28 (by decide)
                        · refine x_iload_n 4 dX7_init_848 rfl ?_
                          refine x_iload_n 2 dX7_init_849 rfl ?_
                          refine x_icmp_gt 855 dX7_init_850 (by decide) (fun c29 => ?_) (fun c29 => ?_)
                          · refine x_iinc 4 (nI j + 1) [(3, .int ((nI j + 1))), (4, .int (1)), (0, .ref (o)), (1, .int (g0)), (2, .int (n))] dX7_init_855 rfl rfl (Nat.le_of_ble_eq_true rfl) rfl ?_
                            refine x_goto 776 dX7_init_858 (by decide) ?_
                            refine x_lv [(0, .ref (o)), (1, .int (g0)), (2, .int (n)), (3, .int (nI (j + 1)))] [2, 3, 4, 0] (by rw [← nI_1 j]; rfl) ?_
                            exact ih (j + 1) (n) (by omega) (by rw [ngo, if_neg c2, if_neg c5, if_neg c8, if_neg c11, if_neg c14, if_neg c17, if_neg c20, if_neg c23, if_pos c26, if_pos c29] at kk; exact kk)
                          · refine x_iload_n 4 dX7_init_853 rfl ?_
                            refine x_istore_n [(2, .int (nI j)), (4, .int (1)), (0, .ref (o)), (1, .int (g0)), (3, .int (nI j))] dX7_init_854 (Nat.le_of_ble_eq_true rfl) rfl ?_
                            refine x_iinc 4 (nI j + 1) [(3, .int ((nI j + 1))), (2, .int (nI j)), (4, .int (1)), (0, .ref (o)), (1, .int (g0))] dX7_init_855 rfl rfl (Nat.le_of_ble_eq_true rfl) rfl ?_
                            refine x_goto 776 dX7_init_858 (by decide) ?_
                            refine x_lv [(0, .ref (o)), (1, .int (g0)), (2, .int (nI j)), (3, .int (nI (j + 1)))] [3, 4, 1, 0] (by rw [← nI_1 j]; rfl) ?_
                            exact ih (j + 1) (nI j) (by omega) (by rw [ngo, if_neg c2, if_neg c5, if_neg c8, if_neg c11, if_neg c14, if_neg c17, if_neg c20, if_neg c23, if_pos c26, if_neg c29] at kk; exact kk)
/-- the number of gores, by the numbers that may be -/
def stp (w : Int32) (k : Nat) (n : Int32) : Int32 := if w < nI k then n else nI k
def gnI (w : Int32) : Int32 := stp w 24 (stp w 20 (stp w 18 (stp w 15 (stp w 12 (stp w 10 (stp w 9 (stp w 8 (stp w 6 6))))))))
theorem stp_in {w n : Int32} {k : Nat} (hk : k ∈ [6, 8, 9, 10, 12, 15, 18, 20, 24]) (h : ∃ a : Nat, a ∈ [6, 8, 9, 10, 12, 15, 18, 20, 24] ∧ n = nI a) : ∃ a : Nat, a ∈ [6, 8, 9, 10, 12, 15, 18, 20, 24] ∧ stp w k n = nI a := by
  unfold stp
  by_cases c : w < nI k
  · rw [if_pos c]; exact h
  · rw [if_neg c]; exact ⟨k, hk, rfl⟩
theorem gnI_in (w : Int32) : ∃ a : Nat, a ∈ [6, 8, 9, 10, 12, 15, 18, 20, 24] ∧ gnI w = nI a := by
  unfold gnI
  exact stp_in (by decide) (stp_in (by decide) (stp_in (by decide) (stp_in (by decide) (stp_in (by decide) (stp_in (by decide) (stp_in (by decide) (stp_in (by decide) (stp_in (by decide) ⟨6, by decide, rfl⟩))))))))
theorem ngo_y {g0 n : Int32} {m j : Nat} (hj : j ∈ [6, 8, 9, 10, 12, 15, 18, 20, 24]) : ngo g0 (m + 1) j n = ngo g0 m (j + 1) (stp g0 j n) := by
  have h : nI j = 6 ∨ nI j = 8 ∨ nI j = 9 ∨ nI j = 10 ∨ nI j = 12 ∨ nI j = 15 ∨ nI j = 18 ∨ nI j = 20 ∨ nI j = 24 := by
    simp only [List.mem_cons, List.not_mem_nil, or_false] at hj
    rcases hj with h | h | h | h | h | h | h | h | h <;> subst h <;> decide
  rw [ngo]
  unfold stp
  by_cases c : g0 < nI j
  · simp only [if_pos c, ite_self]
  · simp only [if_neg c]
    repeat' split
    all_goals first | rfl | (exfalso; rcases h with h | h | h | h | h | h | h | h | h <;> exact absurd h ‹_›)
theorem ngo_n {g0 n : Int32} {m j : Nat} (h1 : j < 25) (hj : ¬ j ∈ [6, 8, 9, 10, 12, 15, 18, 20, 24]) : ngo g0 (m + 1) j n = ngo g0 m (j + 1) n := by
  simp only [List.mem_cons, List.not_mem_nil, or_false, not_or] at hj
  obtain ⟨e1, e2, e3, e4, e5, e6, e7, e8, e9⟩ := hj
  have q : ∀ a : Nat, a < 2 ^ 31 → j ≠ a → ¬ nI j = nI a := fun a ha h e => h ((nI_eq (by omega) ha).mp e)
  rw [ngo, if_neg (show ¬ nI j = 6 from q 6 (by decide) e1), if_neg (show ¬ nI j = 8 from q 8 (by decide) e2), if_neg (show ¬ nI j = 9 from q 9 (by decide) e3), if_neg (show ¬ nI j = 10 from q 10 (by decide) e4), if_neg (show ¬ nI j = 12 from q 12 (by decide) e5), if_neg (show ¬ nI j = 15 from q 15 (by decide) e6), if_neg (show ¬ nI j = 18 from q 18 (by decide) e7), if_neg (show ¬ nI j = 20 from q 20 (by decide) e8), if_neg (show ¬ nI j = 24 from q 24 (by decide) e9)]
theorem ngo_all (g0 : Int32) : ngo g0 19 6 6 = gnI g0 := by
  rw [ngo_y (m := 18) (j := 6) (by decide), ngo_n (m := 17) (j := 7) (by decide) (by decide), ngo_y (m := 16) (j := 8) (by decide), ngo_y (m := 15) (j := 9) (by decide), ngo_y (m := 14) (j := 10) (by decide), ngo_n (m := 13) (j := 11) (by decide) (by decide), ngo_y (m := 12) (j := 12) (by decide), ngo_n (m := 11) (j := 13) (by decide) (by decide), ngo_n (m := 10) (j := 14) (by decide) (by decide), ngo_y (m := 9) (j := 15) (by decide), ngo_n (m := 8) (j := 16) (by decide) (by decide), ngo_n (m := 7) (j := 17) (by decide) (by decide), ngo_y (m := 6) (j := 18) (by decide), ngo_n (m := 5) (j := 19) (by decide) (by decide), ngo_y (m := 4) (j := 20) (by decide), ngo_n (m := 3) (j := 21) (by decide) (by decide), ngo_n (m := 2) (j := 22) (by decide) (by decide), ngo_n (m := 1) (j := 23) (by decide) (by decide), ngo_y (m := 0) (j := 24) (by decide)]
  rfl
/-- a state as the constructor leaves it, for n gores -/
def Ini (n : Nat) (σ : MS) : Prop := (σ.1 1 = nI n ∧ σ.1 2 = nI (360 / n)) ∧ (σ.1 3 = 0 ∧ σ.1 6 = 0 ∧ σ.1 10 = 0 ∧ σ.1 11 = 0 ∧ σ.1 12 = 0 ∧ σ.1 21 = 0) ∧ (∀ j, j < n → σ.2 13 j = 1) ∧ ∀ j, j < n → σ.2 14 j = 0
set_option maxRecDepth 100000 in
theorem l_fr {k : KT} {Z : ZT} {S0 : HS} {o P cells slots : Nat} {g0 n : Int32} (hP : P ≤ 24) : ∀ (m j : Nat), j + m = P → ∀ (S : HS) (σ : MS), MI S o σ → FM o S0 S → σ.1 1 = nI P → (∀ (S9 : HS) (σ9 : MS), MI S9 o σ9 → FM o S0 S9 → σ9.1 = σ.1 → (∀ a, a ≠ 13 → σ9.2 a = σ.2 a) → (∀ i, i < 24 → σ9.2 13 i = if j ≤ i ∧ i < P then 1 else σ.2 13 i) → X k (mt_X7_init (rm 1 17 4252)) Z 898 [(0, .ref o), (1, .int g0), (2, .int n)] [] S9 cells slots) → X k (mt_X7_init (rm 1 17 4252)) Z 877 [(0, .ref (o)), (1, .int (g0)), (2, .int (n)), (3, .int (nI j))] [] S cells slots := by
  intro m
  induction m with
  | zero =>
    intro j hj S σ hM hF hg kk
    refine x_iload_n 3 dX7_init_877 rfl ?_
    refine x_aload_n 0 dX7_init_878 rfl ?_
    refine gf_X7_62 rfl dX7_init_879 (mhK hM.1) ?_
    rw [show gI (S) 257 (o) = nI P from ((hM.i 1 (by decide)).trans hg)]
    refine x_icmp_ge 898 dX7_init_882 (by decide) (fun c1 => ?_) (fun c1 => ?_)
    · refine x_lv [(0, .ref (o)), (1, .int (g0)), (2, .int (n))] [0, 1, 2] rfl ?_
      exact kk S σ hM hF rfl (fun _ _ => rfl) (fun i _ => by rw [if_neg (by omega)])
    · exact absurd (nI_le (by omega) (by omega)) c1
  | succ m ih =>
    intro j hj S σ hM hF hg kk
    refine x_iload_n 3 dX7_init_877 rfl ?_
    refine x_aload_n 0 dX7_init_878 rfl ?_
    refine gf_X7_62 rfl dX7_init_879 (mhK hM.1) ?_
    rw [show gI (S) 257 (o) = nI P from ((hM.i 1 (by decide)).trans hg)]
    refine x_icmp_ge 898 dX7_init_882 (by decide) (fun c1 => ?_) (fun c1 => ?_)
    · exact absurd c1 (nI_ge (by omega) (by omega))
    · refine x_aload_n 0 dX7_init_885 rfl ?_
      refine gf_X7_47 rfl dX7_init_886 (mhK hM.1) ?_
      rw [show gP (S) 275 (o) = some (o + 13) from (mhP_isFresh hM.1)]
      refine x_iload_n 3 dX7_init_889 rfl ?_
      refine x_iconst 1 dX7_init_890 (by decide) ?_
      refine x_bastore dX7_init_891 (mhK_isFresh hM.1) (by rw [show gL (S) (o + 13) = 24 from (mhL_isFresh hM.1)]; exact (vp_in_nI (by omega) (by decide))) (by decide) ?_
      rw [show gR (S) (o + 13) = σ.2 13 from (hM.r 13 (by decide))]
      obtain ⟨S2, eS2⟩ : ∃ s9 : HS, s9 = uR (S) (o + 13) (upd (σ.2 13) (nI j).toNatClampNeg (1)) := ⟨_, rfl⟩
      rw [← eS2]
      have hM2 : MI S2 o (fR (σ) 13 (upd (σ.2 13) (nI j).toNatClampNeg (1))) := by rw [eS2]; exact hM.pR 13 _
      have hF2 : FM o S0 S2 := by rw [eS2]; exact hF.pR _ (by omega) (by omega)
      clear eS2
      refine x_iinc 3 (nI j + 1) [(3, .int ((nI j + 1))), (0, .ref (o)), (1, .int (g0)), (2, .int (n))] dX7_init_892 rfl rfl (Nat.le_of_ble_eq_true rfl) rfl ?_
      refine x_goto 877 dX7_init_895 (by decide) ?_
      refine x_lv [(0, .ref (o)), (1, .int (g0)), (2, .int (n)), (3, .int (nI (j + 1)))] [1, 2, 3, 0] (by rw [← nI_1 j]; rfl) ?_
      refine ih (j + 1) (by omega) S2 (fR (σ) 13 (upd (σ.2 13) (nI j).toNatClampNeg (1))) hM2 hF2 hg (fun S9 σ9 a1 a2 a3 a4 a5 => kk S9 σ9 a1 a2 a3 (fun a ha => ?_) (fun i hi => ?_))
      · rw [a4 a ha]; exact if_neg ha
      · rw [a5 i hi]
        show (if _ then _ else (if 13 = 13 then upd (σ.2 13) (nI j).toNatClampNeg 1 else σ.2 13) i) = _
        rw [if_pos rfl, nI_clamp (by omega)]
        by_cases e : i = j
        · subst e; rw [pk_us, if_neg (by omega), if_pos (by omega)]
        · rw [pk_un e]
          by_cases q : j + 1 ≤ i ∧ i < P
          · rw [if_pos q, if_pos (by omega)]
          · rw [if_neg q, if_neg (by omega)]
theorem gor_le {P : Nat} (h : P ∈ [6, 8, 9, 10, 12, 15, 18, 20, 24]) : 6 ≤ P ∧ P ≤ 24 := by
  simp only [List.mem_cons, List.not_mem_nil, or_false] at h
  omega
theorem gor_ne {P : Nat} (h : P ∈ [6, 8, 9, 10, 12, 15, 18, 20, 24]) : ¬ nI P = 0 := nI_ne0 (by have := gor_le h; omega) (by have := gor_le h; omega)
theorem gor_div {P : Nat} (h : P ∈ [6, 8, 9, 10, 12, 15, 18, 20, 24]) : (360 : Int32) / nI P = nI (360 / P) := by
  simp only [List.mem_cons, List.not_mem_nil, or_false] at h
  rcases h with h | h | h | h | h | h | h | h | h <;> subst h <;> decide
theorem ini_fin {S S17 S9 : HS} {o P : Nat} {σ9 : MS} (hP : P ∈ [6, 8, 9, 10, 12, 15, 18, 20, 24]) (h17 : IN S S17 o 17) (a1 : MI S9 o σ9) (a2 : FM o S17 S9) (a3 : σ9.1 = (fI (fI ((fun _ => 0, fun a => if a = 0 then gR S17 o else if a = 1 then cosP 92 else fun _ => 0)) 1 (nI P)) 2 (360 / nI P)).1) (a4 : ∀ a, a ≠ 13 → σ9.2 a = (fI (fI ((fun _ => 0, fun a => if a = 0 then gR S17 o else if a = 1 then cosP 92 else fun _ => 0)) 1 (nI P)) 2 (360 / nI P)).2 a) (a5 : ∀ i, i < 24 → σ9.2 13 i = if 0 ≤ i ∧ i < P then 1 else (fI (fI ((fun _ => 0, fun a => if a = 0 then gR S17 o else if a = 1 then cosP 92 else fun _ => 0)) 1 (nI P)) 2 (360 / nI P)).2 13 i) : MI S9 o σ9 ∧ okS σ9 ∧ Ini P σ9 ∧ NF o S S9 ∧ gN S9 = o + 18 := by
  have hl := gor_le hP
  have z : ∀ j, j ≠ 1 → j ≠ 2 → σ9.1 j = 0 := fun j h1 h2 => by rw [a3]; show (if j = 2 then _ else (if j = 1 then _ else (0 : Int32))) = 0; rw [if_neg h2, if_neg h1]
  have n1 : σ9.1 1 = nI P := by rw [a3]; rfl
  have n2 : σ9.1 2 = nI (360 / P) := by rw [a3]; exact gor_div hP
  have r1 : σ9.2 1 = cosP 92 := a4 1 (by decide)
  have r0 : ∀ a, a ≠ 13 → a ≠ 0 → a ≠ 1 → σ9.2 a = fun _ => 0 := fun a h1 h2 h3 => by
    rw [a4 a h1]; show (if a = 0 then _ else if a = 1 then _ else _) = _; rw [if_neg h2, if_neg h3]
  have f13 : ∀ i, i < 24 → σ9.2 13 i = if i < P then 1 else 0 := fun i hi => by
    rw [a5 i hi]
    by_cases q : i < P
    · rw [if_pos ⟨Nat.zero_le _, q⟩, if_pos q]
    · rw [if_neg (fun e => q e.2), if_neg q]; rfl
  refine ⟨a1, ⟨⟨⟨P, hP, n1, n2⟩, fun j hj => by rw [r1, cosP, if_pos hj]⟩, ⟨⟨0, by decide, z 3 (by decide) (by decide)⟩, ⟨0, by decide, z 6 (by decide) (by decide)⟩, ⟨0, by decide, z 12 (by decide) (by decide)⟩⟩, ⟨by rw [z 10 (by decide) (by decide)]; decide, by rw [z 11 (by decide) (by decide)]; decide⟩, fun j _ => by rw [r0 10 (by decide) (by decide) (by decide)]; exact (by decide : (-5400 : Int32) ≤ 0 ∧ (0 : Int32) ≤ 5400), fun j _ => by rw [r0 7 (by decide) (by decide) (by decide)]; exact Or.inl rfl, fun j hj => ?_, fun j _ => by rw [r0 8 (by decide) (by decide) (by decide)]; exact (by decide : 0 ≤ (0 : Int32).toInt ∧ (0 : Int32).toInt < 24), fun j _ => by rw [r0 2 (by decide) (by decide) (by decide)]; exact (by decide : 0 ≤ (0 : Int32).toInt ∧ (0 : Int32).toInt ≤ 359), fun j _ => by rw [r0 3 (by decide) (by decide) (by decide)]; exact (by decide : -5400 ≤ (0 : Int32).toInt ∧ (0 : Int32).toInt ≤ 5400)⟩, ⟨⟨n1, n2⟩, ⟨z 3 (by decide) (by decide), z 6 (by decide) (by decide), z 10 (by decide) (by decide), z 11 (by decide) (by decide), z 12 (by decide) (by decide), z 21 (by decide) (by decide)⟩, fun j hj => by rw [f13 j (by omega), if_pos hj], fun j _ => by rw [r0 14 (by decide) (by decide) (by decide)]⟩, ?_, ?_⟩
  · rw [f13 j hj]
    by_cases q : j < P
    · rw [if_pos q]; exact Or.inr rfl
    · rw [if_neg q]; exact Or.inl rfl
  · refine ⟨by rw [a2.2.2.2.2.2.2]; exact h17.2.2.2.2.1.1, fun a ha => ?_⟩
    obtain ⟨b1, b2, b3, b4, b5, b6⟩ := h17.2.2.2.2.1.2 a ha
    exact ⟨(a2.1 a).trans b1, (a2.2.2.2.1 a).trans b2, (a2.2.2.2.2.1 a (by omega)).trans b3, (a2.2.2.2.2.2.1 a).trans b4, fun f hf => (a2.2.1 f a hf).trans (b5 f hf), fun f => (a2.2.2.1 f a).trans (b6 f)⟩
  · rw [a2.2.2.2.2.2.2, h17.1]
set_option maxRecDepth 100000 in
set_option maxHeartbeats 4000000 in
/-- the reference's constructor -/
theorem c_X7_init {k : KT} {S : HS} {o : Nat} (g0 : Int32) (hN : gN S = o + 1) (hK : gK S o = 9) (h0 : ∀ f, gI S f o = 0) : Ct k (mt_X7_init (rm 1 17 4252)) [.ref o, .int g0] S (fun v T => v = none ∧ ∃ σ : MS, MI T o σ ∧ okS σ ∧ (∃ P : Nat, gnI g0 = nI P ∧ P ∈ [6, 8, 9, 10, 12, 15, 18, 20, 24] ∧ Ini P σ) ∧ NF o S T ∧ gN T = o + 18) := by
  refine Ct.ofF (by decide +kernel) (Nat.le_of_ble_eq_true rfl) ?_
  refine x_lv [(0, .ref (o)), (1, .int (g0))] [0, 1] rfl ?_
  refine x_aload_n 0 dX7_init_0 rfl ?_
  refine ca_X7_1 rfl dX7_init_1 (Nat.le_of_ble_eq_true rfl) (Nat.le_of_ble_eq_true rfl) ?_
  refine x_aload_n 0 dX7_init_4 rfl ?_
  refine x_bipush 92 dX7_init_5 (by decide) ?_
  refine x_newaI 92 dX7_init_7 tk_1 (by decide) rfl (by decide) (Nat.le_of_ble_eq_true rfl) (Nat.le_of_ble_eq_true rfl) ?_
  rw [← uR_id (nA S 20 92) (gN S) (cosP 0) (by rw [gR_nA, if_pos rfl]; funext i; rw [cosP, if_neg (by omega)])]
  have hKc : gK (nA S 20 92) (gN S) = 20 := by rw [gK_nA, if_pos rfl]
  have hLc : gL (nA S 20 92) (gN S) = 92 := by rw [gL_nA, if_pos rfl]
  refine x_dup dX7_init_9 rfl ?_
  refine x_iconst 0 dX7_init_10 (by decide) ?_
  refine x_sipush 1000 dX7_init_11 (by decide) ?_
  refine x_cosS 0 dX7_init_14 hKc hLc rfl (by decide) (by decide +kernel) ?_
  refine x_dup dX7_init_15 rfl ?_
  refine x_iconst 1 dX7_init_16 (by decide) ?_
  refine x_sipush 1000 dX7_init_17 (by decide) ?_
  refine x_cosS 1 dX7_init_20 hKc hLc rfl (by decide) (by decide +kernel) ?_
  refine x_dup dX7_init_21 rfl ?_
  refine x_iconst 2 dX7_init_22 (by decide) ?_
  refine x_sipush 999 dX7_init_23 (by decide) ?_
  refine x_cosS 2 dX7_init_26 hKc hLc rfl (by decide) (by decide +kernel) ?_
  refine x_at 27 rfl ?_
  refine x_dup dX7_init_27 rfl ?_
  refine x_iconst 3 dX7_init_28 (by decide) ?_
  refine x_sipush 999 dX7_init_29 (by decide) ?_
  refine x_cosS 3 dX7_init_32 hKc hLc rfl (by decide) (by decide +kernel) ?_
  refine x_dup dX7_init_33 rfl ?_
  refine x_iconst 4 dX7_init_34 (by decide) ?_
  refine x_sipush 998 dX7_init_35 (by decide) ?_
  refine x_cosS 4 dX7_init_38 hKc hLc rfl (by decide) (by decide +kernel) ?_
  refine x_dup dX7_init_39 rfl ?_
  refine x_iconst 5 dX7_init_40 (by decide) ?_
  refine x_sipush 996 dX7_init_41 (by decide) ?_
  refine x_cosS 5 dX7_init_44 hKc hLc rfl (by decide) (by decide +kernel) ?_
  refine x_at 45 rfl ?_
  refine x_dup dX7_init_45 rfl ?_
  refine x_bipush 6 dX7_init_46 (by decide) ?_
  refine x_sipush 995 dX7_init_48 (by decide) ?_
  refine x_cosS 6 dX7_init_51 hKc hLc rfl (by decide) (by decide +kernel) ?_
  refine x_dup dX7_init_52 rfl ?_
  refine x_bipush 7 dX7_init_53 (by decide) ?_
  refine x_sipush 993 dX7_init_55 (by decide) ?_
  refine x_cosS 7 dX7_init_58 hKc hLc rfl (by decide) (by decide +kernel) ?_
  refine x_dup dX7_init_59 rfl ?_
  refine x_bipush 8 dX7_init_60 (by decide) ?_
  refine x_sipush 990 dX7_init_62 (by decide) ?_
  refine x_cosS 8 dX7_init_65 hKc hLc rfl (by decide) (by decide +kernel) ?_
  refine x_at 66 rfl ?_
  refine x_dup dX7_init_66 rfl ?_
  refine x_bipush 9 dX7_init_67 (by decide) ?_
  refine x_sipush 988 dX7_init_69 (by decide) ?_
  refine x_cosS 9 dX7_init_72 hKc hLc rfl (by decide) (by decide +kernel) ?_
  refine x_dup dX7_init_73 rfl ?_
  refine x_bipush 10 dX7_init_74 (by decide) ?_
  refine x_sipush 985 dX7_init_76 (by decide) ?_
  refine x_cosS 10 dX7_init_79 hKc hLc rfl (by decide) (by decide +kernel) ?_
  refine x_dup dX7_init_80 rfl ?_
  refine x_bipush 11 dX7_init_81 (by decide) ?_
  refine x_sipush 982 dX7_init_83 (by decide) ?_
  refine x_cosS 11 dX7_init_86 hKc hLc rfl (by decide) (by decide +kernel) ?_
  refine x_at 87 rfl ?_
  refine x_dup dX7_init_87 rfl ?_
  refine x_bipush 12 dX7_init_88 (by decide) ?_
  refine x_sipush 978 dX7_init_90 (by decide) ?_
  refine x_cosS 12 dX7_init_93 hKc hLc rfl (by decide) (by decide +kernel) ?_
  refine x_dup dX7_init_94 rfl ?_
  refine x_bipush 13 dX7_init_95 (by decide) ?_
  refine x_sipush 974 dX7_init_97 (by decide) ?_
  refine x_cosS 13 dX7_init_100 hKc hLc rfl (by decide) (by decide +kernel) ?_
  refine x_dup dX7_init_101 rfl ?_
  refine x_bipush 14 dX7_init_102 (by decide) ?_
  refine x_sipush 970 dX7_init_104 (by decide) ?_
  refine x_cosS 14 dX7_init_107 hKc hLc rfl (by decide) (by decide +kernel) ?_
  refine x_at 108 rfl ?_
  refine x_dup dX7_init_108 rfl ?_
  refine x_bipush 15 dX7_init_109 (by decide) ?_
  refine x_sipush 966 dX7_init_111 (by decide) ?_
  refine x_cosS 15 dX7_init_114 hKc hLc rfl (by decide) (by decide +kernel) ?_
  refine x_dup dX7_init_115 rfl ?_
  refine x_bipush 16 dX7_init_116 (by decide) ?_
  refine x_sipush 961 dX7_init_118 (by decide) ?_
  refine x_cosS 16 dX7_init_121 hKc hLc rfl (by decide) (by decide +kernel) ?_
  refine x_dup dX7_init_122 rfl ?_
  refine x_bipush 17 dX7_init_123 (by decide) ?_
  refine x_sipush 956 dX7_init_125 (by decide) ?_
  refine x_cosS 17 dX7_init_128 hKc hLc rfl (by decide) (by decide +kernel) ?_
  refine x_at 129 rfl ?_
  refine x_dup dX7_init_129 rfl ?_
  refine x_bipush 18 dX7_init_130 (by decide) ?_
  refine x_sipush 951 dX7_init_132 (by decide) ?_
  refine x_cosS 18 dX7_init_135 hKc hLc rfl (by decide) (by decide +kernel) ?_
  refine x_dup dX7_init_136 rfl ?_
  refine x_bipush 19 dX7_init_137 (by decide) ?_
  refine x_sipush 946 dX7_init_139 (by decide) ?_
  refine x_cosS 19 dX7_init_142 hKc hLc rfl (by decide) (by decide +kernel) ?_
  refine x_dup dX7_init_143 rfl ?_
  refine x_bipush 20 dX7_init_144 (by decide) ?_
  refine x_sipush 940 dX7_init_146 (by decide) ?_
  refine x_cosS 20 dX7_init_149 hKc hLc rfl (by decide) (by decide +kernel) ?_
  refine x_at 150 rfl ?_
  refine x_dup dX7_init_150 rfl ?_
  refine x_bipush 21 dX7_init_151 (by decide) ?_
  refine x_sipush 934 dX7_init_153 (by decide) ?_
  refine x_cosS 21 dX7_init_156 hKc hLc rfl (by decide) (by decide +kernel) ?_
  refine x_dup dX7_init_157 rfl ?_
  refine x_bipush 22 dX7_init_158 (by decide) ?_
  refine x_sipush 927 dX7_init_160 (by decide) ?_
  refine x_cosS 22 dX7_init_163 hKc hLc rfl (by decide) (by decide +kernel) ?_
  refine x_dup dX7_init_164 rfl ?_
  refine x_bipush 23 dX7_init_165 (by decide) ?_
  refine x_sipush 921 dX7_init_167 (by decide) ?_
  refine x_cosS 23 dX7_init_170 hKc hLc rfl (by decide) (by decide +kernel) ?_
  refine x_at 171 rfl ?_
  refine x_dup dX7_init_171 rfl ?_
  refine x_bipush 24 dX7_init_172 (by decide) ?_
  refine x_sipush 914 dX7_init_174 (by decide) ?_
  refine x_cosS 24 dX7_init_177 hKc hLc rfl (by decide) (by decide +kernel) ?_
  refine x_dup dX7_init_178 rfl ?_
  refine x_bipush 25 dX7_init_179 (by decide) ?_
  refine x_sipush 906 dX7_init_181 (by decide) ?_
  refine x_cosS 25 dX7_init_184 hKc hLc rfl (by decide) (by decide +kernel) ?_
  refine x_dup dX7_init_185 rfl ?_
  refine x_bipush 26 dX7_init_186 (by decide) ?_
  refine x_sipush 899 dX7_init_188 (by decide) ?_
  refine x_cosS 26 dX7_init_191 hKc hLc rfl (by decide) (by decide +kernel) ?_
  refine x_at 192 rfl ?_
  refine x_dup dX7_init_192 rfl ?_
  refine x_bipush 27 dX7_init_193 (by decide) ?_
  refine x_sipush 891 dX7_init_195 (by decide) ?_
  refine x_cosS 27 dX7_init_198 hKc hLc rfl (by decide) (by decide +kernel) ?_
  refine x_dup dX7_init_199 rfl ?_
  refine x_bipush 28 dX7_init_200 (by decide) ?_
  refine x_sipush 883 dX7_init_202 (by decide) ?_
  refine x_cosS 28 dX7_init_205 hKc hLc rfl (by decide) (by decide +kernel) ?_
  refine x_dup dX7_init_206 rfl ?_
  refine x_bipush 29 dX7_init_207 (by decide) ?_
  refine x_sipush 875 dX7_init_209 (by decide) ?_
  refine x_cosS 29 dX7_init_212 hKc hLc rfl (by decide) (by decide +kernel) ?_
  refine x_at 213 rfl ?_
  refine x_dup dX7_init_213 rfl ?_
  refine x_bipush 30 dX7_init_214 (by decide) ?_
  refine x_sipush 866 dX7_init_216 (by decide) ?_
  refine x_cosS 30 dX7_init_219 hKc hLc rfl (by decide) (by decide +kernel) ?_
  refine x_dup dX7_init_220 rfl ?_
  refine x_bipush 31 dX7_init_221 (by decide) ?_
  refine x_sipush 857 dX7_init_223 (by decide) ?_
  refine x_cosS 31 dX7_init_226 hKc hLc rfl (by decide) (by decide +kernel) ?_
  refine x_dup dX7_init_227 rfl ?_
  refine x_bipush 32 dX7_init_228 (by decide) ?_
  refine x_sipush 848 dX7_init_230 (by decide) ?_
  refine x_cosS 32 dX7_init_233 hKc hLc rfl (by decide) (by decide +kernel) ?_
  refine x_at 234 rfl ?_
  refine x_dup dX7_init_234 rfl ?_
  refine x_bipush 33 dX7_init_235 (by decide) ?_
  refine x_sipush 839 dX7_init_237 (by decide) ?_
  refine x_cosS 33 dX7_init_240 hKc hLc rfl (by decide) (by decide +kernel) ?_
  refine x_dup dX7_init_241 rfl ?_
  refine x_bipush 34 dX7_init_242 (by decide) ?_
  refine x_sipush 829 dX7_init_244 (by decide) ?_
  refine x_cosS 34 dX7_init_247 hKc hLc rfl (by decide) (by decide +kernel) ?_
  refine x_dup dX7_init_248 rfl ?_
  refine x_bipush 35 dX7_init_249 (by decide) ?_
  refine x_sipush 819 dX7_init_251 (by decide) ?_
  refine x_cosS 35 dX7_init_254 hKc hLc rfl (by decide) (by decide +kernel) ?_
  refine x_at 255 rfl ?_
  refine x_dup dX7_init_255 rfl ?_
  refine x_bipush 36 dX7_init_256 (by decide) ?_
  refine x_sipush 809 dX7_init_258 (by decide) ?_
  refine x_cosS 36 dX7_init_261 hKc hLc rfl (by decide) (by decide +kernel) ?_
  refine x_dup dX7_init_262 rfl ?_
  refine x_bipush 37 dX7_init_263 (by decide) ?_
  refine x_sipush 799 dX7_init_265 (by decide) ?_
  refine x_cosS 37 dX7_init_268 hKc hLc rfl (by decide) (by decide +kernel) ?_
  refine x_dup dX7_init_269 rfl ?_
  refine x_bipush 38 dX7_init_270 (by decide) ?_
  refine x_sipush 788 dX7_init_272 (by decide) ?_
  refine x_cosS 38 dX7_init_275 hKc hLc rfl (by decide) (by decide +kernel) ?_
  refine x_at 276 rfl ?_
  refine x_dup dX7_init_276 rfl ?_
  refine x_bipush 39 dX7_init_277 (by decide) ?_
  refine x_sipush 777 dX7_init_279 (by decide) ?_
  refine x_cosS 39 dX7_init_282 hKc hLc rfl (by decide) (by decide +kernel) ?_
  refine x_dup dX7_init_283 rfl ?_
  refine x_bipush 40 dX7_init_284 (by decide) ?_
  refine x_sipush 766 dX7_init_286 (by decide) ?_
  refine x_cosS 40 dX7_init_289 hKc hLc rfl (by decide) (by decide +kernel) ?_
  refine x_dup dX7_init_290 rfl ?_
  refine x_bipush 41 dX7_init_291 (by decide) ?_
  refine x_sipush 755 dX7_init_293 (by decide) ?_
  refine x_cosS 41 dX7_init_296 hKc hLc rfl (by decide) (by decide +kernel) ?_
  refine x_at 297 rfl ?_
  refine x_dup dX7_init_297 rfl ?_
  refine x_bipush 42 dX7_init_298 (by decide) ?_
  refine x_sipush 743 dX7_init_300 (by decide) ?_
  refine x_cosS 42 dX7_init_303 hKc hLc rfl (by decide) (by decide +kernel) ?_
  refine x_dup dX7_init_304 rfl ?_
  refine x_bipush 43 dX7_init_305 (by decide) ?_
  refine x_sipush 731 dX7_init_307 (by decide) ?_
  refine x_cosS 43 dX7_init_310 hKc hLc rfl (by decide) (by decide +kernel) ?_
  refine x_dup dX7_init_311 rfl ?_
  refine x_bipush 44 dX7_init_312 (by decide) ?_
  refine x_sipush 719 dX7_init_314 (by decide) ?_
  refine x_cosS 44 dX7_init_317 hKc hLc rfl (by decide) (by decide +kernel) ?_
  refine x_at 318 rfl ?_
  refine x_dup dX7_init_318 rfl ?_
  refine x_bipush 45 dX7_init_319 (by decide) ?_
  refine x_sipush 707 dX7_init_321 (by decide) ?_
  refine x_cosS 45 dX7_init_324 hKc hLc rfl (by decide) (by decide +kernel) ?_
  refine x_dup dX7_init_325 rfl ?_
  refine x_bipush 46 dX7_init_326 (by decide) ?_
  refine x_sipush 695 dX7_init_328 (by decide) ?_
  refine x_cosS 46 dX7_init_331 hKc hLc rfl (by decide) (by decide +kernel) ?_
  refine x_dup dX7_init_332 rfl ?_
  refine x_bipush 47 dX7_init_333 (by decide) ?_
  refine x_sipush 682 dX7_init_335 (by decide) ?_
  refine x_cosS 47 dX7_init_338 hKc hLc rfl (by decide) (by decide +kernel) ?_
  refine x_at 339 rfl ?_
  refine x_dup dX7_init_339 rfl ?_
  refine x_bipush 48 dX7_init_340 (by decide) ?_
  refine x_sipush 669 dX7_init_342 (by decide) ?_
  refine x_cosS 48 dX7_init_345 hKc hLc rfl (by decide) (by decide +kernel) ?_
  refine x_dup dX7_init_346 rfl ?_
  refine x_bipush 49 dX7_init_347 (by decide) ?_
  refine x_sipush 656 dX7_init_349 (by decide) ?_
  refine x_cosS 49 dX7_init_352 hKc hLc rfl (by decide) (by decide +kernel) ?_
  refine x_dup dX7_init_353 rfl ?_
  refine x_bipush 50 dX7_init_354 (by decide) ?_
  refine x_sipush 643 dX7_init_356 (by decide) ?_
  refine x_cosS 50 dX7_init_359 hKc hLc rfl (by decide) (by decide +kernel) ?_
  refine x_at 360 rfl ?_
  refine x_dup dX7_init_360 rfl ?_
  refine x_bipush 51 dX7_init_361 (by decide) ?_
  refine x_sipush 629 dX7_init_363 (by decide) ?_
  refine x_cosS 51 dX7_init_366 hKc hLc rfl (by decide) (by decide +kernel) ?_
  refine x_dup dX7_init_367 rfl ?_
  refine x_bipush 52 dX7_init_368 (by decide) ?_
  refine x_sipush 616 dX7_init_370 (by decide) ?_
  refine x_cosS 52 dX7_init_373 hKc hLc rfl (by decide) (by decide +kernel) ?_
  refine x_dup dX7_init_374 rfl ?_
  refine x_bipush 53 dX7_init_375 (by decide) ?_
  refine x_sipush 602 dX7_init_377 (by decide) ?_
  refine x_cosS 53 dX7_init_380 hKc hLc rfl (by decide) (by decide +kernel) ?_
  refine x_at 381 rfl ?_
  refine x_dup dX7_init_381 rfl ?_
  refine x_bipush 54 dX7_init_382 (by decide) ?_
  refine x_sipush 588 dX7_init_384 (by decide) ?_
  refine x_cosS 54 dX7_init_387 hKc hLc rfl (by decide) (by decide +kernel) ?_
  refine x_dup dX7_init_388 rfl ?_
  refine x_bipush 55 dX7_init_389 (by decide) ?_
  refine x_sipush 574 dX7_init_391 (by decide) ?_
  refine x_cosS 55 dX7_init_394 hKc hLc rfl (by decide) (by decide +kernel) ?_
  refine x_dup dX7_init_395 rfl ?_
  refine x_bipush 56 dX7_init_396 (by decide) ?_
  refine x_sipush 559 dX7_init_398 (by decide) ?_
  refine x_cosS 56 dX7_init_401 hKc hLc rfl (by decide) (by decide +kernel) ?_
  refine x_at 402 rfl ?_
  refine x_dup dX7_init_402 rfl ?_
  refine x_bipush 57 dX7_init_403 (by decide) ?_
  refine x_sipush 545 dX7_init_405 (by decide) ?_
  refine x_cosS 57 dX7_init_408 hKc hLc rfl (by decide) (by decide +kernel) ?_
  refine x_dup dX7_init_409 rfl ?_
  refine x_bipush 58 dX7_init_410 (by decide) ?_
  refine x_sipush 530 dX7_init_412 (by decide) ?_
  refine x_cosS 58 dX7_init_415 hKc hLc rfl (by decide) (by decide +kernel) ?_
  refine x_dup dX7_init_416 rfl ?_
  refine x_bipush 59 dX7_init_417 (by decide) ?_
  refine x_sipush 515 dX7_init_419 (by decide) ?_
  refine x_cosS 59 dX7_init_422 hKc hLc rfl (by decide) (by decide +kernel) ?_
  refine x_at 423 rfl ?_
  refine x_dup dX7_init_423 rfl ?_
  refine x_bipush 60 dX7_init_424 (by decide) ?_
  refine x_sipush 500 dX7_init_426 (by decide) ?_
  refine x_cosS 60 dX7_init_429 hKc hLc rfl (by decide) (by decide +kernel) ?_
  refine x_dup dX7_init_430 rfl ?_
  refine x_bipush 61 dX7_init_431 (by decide) ?_
  refine x_sipush 485 dX7_init_433 (by decide) ?_
  refine x_cosS 61 dX7_init_436 hKc hLc rfl (by decide) (by decide +kernel) ?_
  refine x_dup dX7_init_437 rfl ?_
  refine x_bipush 62 dX7_init_438 (by decide) ?_
  refine x_sipush 469 dX7_init_440 (by decide) ?_
  refine x_cosS 62 dX7_init_443 hKc hLc rfl (by decide) (by decide +kernel) ?_
  refine x_at 444 rfl ?_
  refine x_dup dX7_init_444 rfl ?_
  refine x_bipush 63 dX7_init_445 (by decide) ?_
  refine x_sipush 454 dX7_init_447 (by decide) ?_
  refine x_cosS 63 dX7_init_450 hKc hLc rfl (by decide) (by decide +kernel) ?_
  refine x_dup dX7_init_451 rfl ?_
  refine x_bipush 64 dX7_init_452 (by decide) ?_
  refine x_sipush 438 dX7_init_454 (by decide) ?_
  refine x_cosS 64 dX7_init_457 hKc hLc rfl (by decide) (by decide +kernel) ?_
  refine x_dup dX7_init_458 rfl ?_
  refine x_bipush 65 dX7_init_459 (by decide) ?_
  refine x_sipush 423 dX7_init_461 (by decide) ?_
  refine x_cosS 65 dX7_init_464 hKc hLc rfl (by decide) (by decide +kernel) ?_
  refine x_at 465 rfl ?_
  refine x_dup dX7_init_465 rfl ?_
  refine x_bipush 66 dX7_init_466 (by decide) ?_
  refine x_sipush 407 dX7_init_468 (by decide) ?_
  refine x_cosS 66 dX7_init_471 hKc hLc rfl (by decide) (by decide +kernel) ?_
  refine x_dup dX7_init_472 rfl ?_
  refine x_bipush 67 dX7_init_473 (by decide) ?_
  refine x_sipush 391 dX7_init_475 (by decide) ?_
  refine x_cosS 67 dX7_init_478 hKc hLc rfl (by decide) (by decide +kernel) ?_
  refine x_dup dX7_init_479 rfl ?_
  refine x_bipush 68 dX7_init_480 (by decide) ?_
  refine x_sipush 375 dX7_init_482 (by decide) ?_
  refine x_cosS 68 dX7_init_485 hKc hLc rfl (by decide) (by decide +kernel) ?_
  refine x_at 486 rfl ?_
  refine x_dup dX7_init_486 rfl ?_
  refine x_bipush 69 dX7_init_487 (by decide) ?_
  refine x_sipush 358 dX7_init_489 (by decide) ?_
  refine x_cosS 69 dX7_init_492 hKc hLc rfl (by decide) (by decide +kernel) ?_
  refine x_dup dX7_init_493 rfl ?_
  refine x_bipush 70 dX7_init_494 (by decide) ?_
  refine x_sipush 342 dX7_init_496 (by decide) ?_
  refine x_cosS 70 dX7_init_499 hKc hLc rfl (by decide) (by decide +kernel) ?_
  refine x_dup dX7_init_500 rfl ?_
  refine x_bipush 71 dX7_init_501 (by decide) ?_
  refine x_sipush 326 dX7_init_503 (by decide) ?_
  refine x_cosS 71 dX7_init_506 hKc hLc rfl (by decide) (by decide +kernel) ?_
  refine x_at 507 rfl ?_
  refine x_dup dX7_init_507 rfl ?_
  refine x_bipush 72 dX7_init_508 (by decide) ?_
  refine x_sipush 309 dX7_init_510 (by decide) ?_
  refine x_cosS 72 dX7_init_513 hKc hLc rfl (by decide) (by decide +kernel) ?_
  refine x_dup dX7_init_514 rfl ?_
  refine x_bipush 73 dX7_init_515 (by decide) ?_
  refine x_sipush 292 dX7_init_517 (by decide) ?_
  refine x_cosS 73 dX7_init_520 hKc hLc rfl (by decide) (by decide +kernel) ?_
  refine x_dup dX7_init_521 rfl ?_
  refine x_bipush 74 dX7_init_522 (by decide) ?_
  refine x_sipush 276 dX7_init_524 (by decide) ?_
  refine x_cosS 74 dX7_init_527 hKc hLc rfl (by decide) (by decide +kernel) ?_
  refine x_at 528 rfl ?_
  refine x_dup dX7_init_528 rfl ?_
  refine x_bipush 75 dX7_init_529 (by decide) ?_
  refine x_sipush 259 dX7_init_531 (by decide) ?_
  refine x_cosS 75 dX7_init_534 hKc hLc rfl (by decide) (by decide +kernel) ?_
  refine x_dup dX7_init_535 rfl ?_
  refine x_bipush 76 dX7_init_536 (by decide) ?_
  refine x_sipush 242 dX7_init_538 (by decide) ?_
  refine x_cosS 76 dX7_init_541 hKc hLc rfl (by decide) (by decide +kernel) ?_
  refine x_dup dX7_init_542 rfl ?_
  refine x_bipush 77 dX7_init_543 (by decide) ?_
  refine x_sipush 225 dX7_init_545 (by decide) ?_
  refine x_cosS 77 dX7_init_548 hKc hLc rfl (by decide) (by decide +kernel) ?_
  refine x_at 549 rfl ?_
  refine x_dup dX7_init_549 rfl ?_
  refine x_bipush 78 dX7_init_550 (by decide) ?_
  refine x_sipush 208 dX7_init_552 (by decide) ?_
  refine x_cosS 78 dX7_init_555 hKc hLc rfl (by decide) (by decide +kernel) ?_
  refine x_dup dX7_init_556 rfl ?_
  refine x_bipush 79 dX7_init_557 (by decide) ?_
  refine x_sipush 191 dX7_init_559 (by decide) ?_
  refine x_cosS 79 dX7_init_562 hKc hLc rfl (by decide) (by decide +kernel) ?_
  refine x_dup dX7_init_563 rfl ?_
  refine x_bipush 80 dX7_init_564 (by decide) ?_
  refine x_sipush 174 dX7_init_566 (by decide) ?_
  refine x_cosS 80 dX7_init_569 hKc hLc rfl (by decide) (by decide +kernel) ?_
  refine x_at 570 rfl ?_
  refine x_dup dX7_init_570 rfl ?_
  refine x_bipush 81 dX7_init_571 (by decide) ?_
  refine x_sipush 156 dX7_init_573 (by decide) ?_
  refine x_cosS 81 dX7_init_576 hKc hLc rfl (by decide) (by decide +kernel) ?_
  refine x_dup dX7_init_577 rfl ?_
  refine x_bipush 82 dX7_init_578 (by decide) ?_
  refine x_sipush 139 dX7_init_580 (by decide) ?_
  refine x_cosS 82 dX7_init_583 hKc hLc rfl (by decide) (by decide +kernel) ?_
  refine x_dup dX7_init_584 rfl ?_
  refine x_bipush 83 dX7_init_585 (by decide) ?_
  refine x_bipush 122 dX7_init_587 (by decide) ?_
  refine x_cosS 83 dX7_init_589 hKc hLc rfl (by decide) (by decide +kernel) ?_
  refine x_at 590 rfl ?_
  refine x_dup dX7_init_590 rfl ?_
  refine x_bipush 84 dX7_init_591 (by decide) ?_
  refine x_bipush 105 dX7_init_593 (by decide) ?_
  refine x_cosS 84 dX7_init_595 hKc hLc rfl (by decide) (by decide +kernel) ?_
  refine x_dup dX7_init_596 rfl ?_
  refine x_bipush 85 dX7_init_597 (by decide) ?_
  refine x_bipush 87 dX7_init_599 (by decide) ?_
  refine x_cosS 85 dX7_init_601 hKc hLc rfl (by decide) (by decide +kernel) ?_
  refine x_dup dX7_init_602 rfl ?_
  refine x_bipush 86 dX7_init_603 (by decide) ?_
  refine x_bipush 70 dX7_init_605 (by decide) ?_
  refine x_cosS 86 dX7_init_607 hKc hLc rfl (by decide) (by decide +kernel) ?_
  refine x_at 608 rfl ?_
  refine x_dup dX7_init_608 rfl ?_
  refine x_bipush 87 dX7_init_609 (by decide) ?_
  refine x_bipush 52 dX7_init_611 (by decide) ?_
  refine x_cosS 87 dX7_init_613 hKc hLc rfl (by decide) (by decide +kernel) ?_
  refine x_dup dX7_init_614 rfl ?_
  refine x_bipush 88 dX7_init_615 (by decide) ?_
  refine x_bipush 35 dX7_init_617 (by decide) ?_
  refine x_cosS 88 dX7_init_619 hKc hLc rfl (by decide) (by decide +kernel) ?_
  refine x_dup dX7_init_620 rfl ?_
  refine x_bipush 89 dX7_init_621 (by decide) ?_
  refine x_bipush 17 dX7_init_623 (by decide) ?_
  refine x_cosS 89 dX7_init_625 hKc hLc rfl (by decide) (by decide +kernel) ?_
  refine x_at 626 rfl ?_
  refine x_dup dX7_init_626 rfl ?_
  refine x_bipush 90 dX7_init_627 (by decide) ?_
  refine x_iconst 0 dX7_init_629 (by decide) ?_
  refine x_cosS 90 dX7_init_630 hKc hLc rfl (by decide) (by decide +kernel) ?_
  refine x_dup dX7_init_631 rfl ?_
  refine x_bipush 91 dX7_init_632 (by decide) ?_
  refine x_iconst 0 dX7_init_634 (by decide) ?_
  refine x_cosS 91 dX7_init_635 hKc hLc rfl (by decide) (by decide +kernel) ?_
  refine pf_X7_7 rfl rfl dX7_init_636 (by rw [gK_uR, gK_nA, if_neg (by omega)]; exact hK) ?_
  obtain ⟨S1, eS1⟩ : ∃ s9 : HS, s9 = uP (uR (nA S 20 92) (gN S) (cosP 92)) 256 o (some (gN S)) := ⟨_, rfl⟩
  rw [← eS1]
  have h1 : IN S S1 o 1 := by rw [eS1]; exact IN.s1 hN hK
  clear eS1
  refine x_aload_n 0 dX7_init_639 rfl ?_
  refine x_bipush 30 dX7_init_640 (by decide) ?_
  refine x_newaI 30 dX7_init_642 tk_1 (by decide) rfl (by decide) (Nat.le_of_ble_eq_true rfl) (Nat.le_of_ble_eq_true rfl) ?_
  refine pf_X7_13 rfl rfl dX7_init_644 (by rw [gK_nA, if_neg (by rw [h1.1]; omega)]; exact h1.2.1) ?_
  refine x_at 647 rfl ?_
  obtain ⟨S2, eS2⟩ : ∃ s9 : HS, s9 = uP (nA S1 20 30) 260 o (some (gN S1)) := ⟨_, rfl⟩
  rw [← eS2]
  have h2 : IN S S2 o 2 := by rw [eS2]; exact h1.st rfl (by decide) (by decide) (by decide)
  clear eS2
  refine x_aload_n 0 dX7_init_647 rfl ?_
  refine x_bipush 30 dX7_init_648 (by decide) ?_
  refine x_newaI 30 dX7_init_650 tk_1 (by decide) rfl (by decide) (Nat.le_of_ble_eq_true rfl) (Nat.le_of_ble_eq_true rfl) ?_
  refine pf_X7_16 rfl rfl dX7_init_652 (by rw [gK_nA, if_neg (by rw [h2.1]; omega)]; exact h2.2.1) ?_
  refine x_at 655 rfl ?_
  obtain ⟨S3, eS3⟩ : ∃ s9 : HS, s9 = uP (nA S2 20 30) 261 o (some (gN S2)) := ⟨_, rfl⟩
  rw [← eS3]
  have h3 : IN S S3 o 3 := by rw [eS3]; exact h2.st rfl (by decide) (by decide) (by decide)
  clear eS3
  refine x_aload_n 0 dX7_init_655 rfl ?_
  refine x_sipush 600 dX7_init_656 (by decide) ?_
  refine x_newaI 600 dX7_init_659 tk_1 (by decide) rfl (by decide) (Nat.le_of_ble_eq_true rfl) (Nat.le_of_ble_eq_true rfl) ?_
  refine pf_X7_19 rfl rfl dX7_init_661 (by rw [gK_nA, if_neg (by rw [h3.1]; omega)]; exact h3.2.1) ?_
  refine x_at 664 rfl ?_
  obtain ⟨S4, eS4⟩ : ∃ s9 : HS, s9 = uP (nA S3 20 600) 263 o (some (gN S3)) := ⟨_, rfl⟩
  rw [← eS4]
  have h4 : IN S S4 o 4 := by rw [eS4]; exact h3.st rfl (by decide) (by decide) (by decide)
  clear eS4
  refine x_aload_n 0 dX7_init_664 rfl ?_
  refine x_sipush 600 dX7_init_665 (by decide) ?_
  refine x_newaI 600 dX7_init_668 tk_1 (by decide) rfl (by decide) (Nat.le_of_ble_eq_true rfl) (Nat.le_of_ble_eq_true rfl) ?_
  refine pf_X7_22 rfl rfl dX7_init_670 (by rw [gK_nA, if_neg (by rw [h4.1]; omega)]; exact h4.2.1) ?_
  refine x_at 673 rfl ?_
  obtain ⟨S5, eS5⟩ : ∃ s9 : HS, s9 = uP (nA S4 20 600) 264 o (some (gN S4)) := ⟨_, rfl⟩
  rw [← eS5]
  have h5 : IN S S5 o 5 := by rw [eS5]; exact h4.st rfl (by decide) (by decide) (by decide)
  clear eS5
  refine x_aload_n 0 dX7_init_673 rfl ?_
  refine x_sipush 2400 dX7_init_674 (by decide) ?_
  refine x_newaI 2400 dX7_init_677 tk_1 (by decide) rfl (by decide) (Nat.le_of_ble_eq_true rfl) (Nat.le_of_ble_eq_true rfl) ?_
  refine pf_X7_25 rfl rfl dX7_init_679 (by rw [gK_nA, if_neg (by rw [h5.1]; omega)]; exact h5.2.1) ?_
  refine x_at 682 rfl ?_
  obtain ⟨S6, eS6⟩ : ∃ s9 : HS, s9 = uP (nA S5 20 2400) 265 o (some (gN S5)) := ⟨_, rfl⟩
  rw [← eS6]
  have h6 : IN S S6 o 6 := by rw [eS6]; exact h5.st rfl (by decide) (by decide) (by decide)
  clear eS6
  refine x_aload_n 0 dX7_init_682 rfl ?_
  refine x_bipush 60 dX7_init_683 (by decide) ?_
  refine x_newaZ 60 dX7_init_685 tk_2 (by decide) rfl (by decide) (Nat.le_of_ble_eq_true rfl) (Nat.le_of_ble_eq_true rfl) ?_
  refine pf_X7_28 rfl rfl dX7_init_687 (by rw [gK_nA, if_neg (by rw [h6.1]; omega)]; exact h6.2.1) ?_
  refine x_at 690 rfl ?_
  obtain ⟨S7, eS7⟩ : ∃ s9 : HS, s9 = uP (nA S6 21 60) 269 o (some (gN S6)) := ⟨_, rfl⟩
  rw [← eS7]
  have h7 : IN S S7 o 7 := by rw [eS7]; exact h6.st rfl (by decide) (by decide) (by decide)
  clear eS7
  refine x_aload_n 0 dX7_init_690 rfl ?_
  refine x_bipush 60 dX7_init_691 (by decide) ?_
  refine x_newaI 60 dX7_init_693 tk_1 (by decide) rfl (by decide) (Nat.le_of_ble_eq_true rfl) (Nat.le_of_ble_eq_true rfl) ?_
  refine pf_X7_32 rfl rfl dX7_init_695 (by rw [gK_nA, if_neg (by rw [h7.1]; omega)]; exact h7.2.1) ?_
  refine x_at 698 rfl ?_
  obtain ⟨S8, eS8⟩ : ∃ s9 : HS, s9 = uP (nA S7 20 60) 270 o (some (gN S7)) := ⟨_, rfl⟩
  rw [← eS8]
  have h8 : IN S S8 o 8 := by rw [eS8]; exact h7.st rfl (by decide) (by decide) (by decide)
  clear eS8
  refine x_aload_n 0 dX7_init_698 rfl ?_
  refine x_bipush 60 dX7_init_699 (by decide) ?_
  refine x_newaI 60 dX7_init_701 tk_1 (by decide) rfl (by decide) (Nat.le_of_ble_eq_true rfl) (Nat.le_of_ble_eq_true rfl) ?_
  refine pf_X7_35 rfl rfl dX7_init_703 (by rw [gK_nA, if_neg (by rw [h8.1]; omega)]; exact h8.2.1) ?_
  refine x_at 706 rfl ?_
  obtain ⟨S9, eS9⟩ : ∃ s9 : HS, s9 = uP (nA S8 20 60) 271 o (some (gN S8)) := ⟨_, rfl⟩
  rw [← eS9]
  have h9 : IN S S9 o 9 := by rw [eS9]; exact h8.st rfl (by decide) (by decide) (by decide)
  clear eS9
  refine x_aload_n 0 dX7_init_706 rfl ?_
  refine x_bipush 60 dX7_init_707 (by decide) ?_
  refine x_newaI 60 dX7_init_709 tk_1 (by decide) rfl (by decide) (Nat.le_of_ble_eq_true rfl) (Nat.le_of_ble_eq_true rfl) ?_
  refine pf_X7_38 rfl rfl dX7_init_711 (by rw [gK_nA, if_neg (by rw [h9.1]; omega)]; exact h9.2.1) ?_
  refine x_at 714 rfl ?_
  obtain ⟨S10, eS10⟩ : ∃ s9 : HS, s9 = uP (nA S9 20 60) 272 o (some (gN S9)) := ⟨_, rfl⟩
  rw [← eS10]
  have h10 : IN S S10 o 10 := by rw [eS10]; exact h9.st rfl (by decide) (by decide) (by decide)
  clear eS10
  refine x_aload_n 0 dX7_init_714 rfl ?_
  refine x_bipush 60 dX7_init_715 (by decide) ?_
  refine x_newaI 60 dX7_init_717 tk_1 (by decide) rfl (by decide) (Nat.le_of_ble_eq_true rfl) (Nat.le_of_ble_eq_true rfl) ?_
  refine pf_X7_41 rfl rfl dX7_init_719 (by rw [gK_nA, if_neg (by rw [h10.1]; omega)]; exact h10.2.1) ?_
  refine x_at 722 rfl ?_
  obtain ⟨S11, eS11⟩ : ∃ s9 : HS, s9 = uP (nA S10 20 60) 273 o (some (gN S10)) := ⟨_, rfl⟩
  rw [← eS11]
  have h11 : IN S S11 o 11 := by rw [eS11]; exact h10.st rfl (by decide) (by decide) (by decide)
  clear eS11
  refine x_aload_n 0 dX7_init_722 rfl ?_
  refine x_bipush 60 dX7_init_723 (by decide) ?_
  refine x_newaI 60 dX7_init_725 tk_1 (by decide) rfl (by decide) (Nat.le_of_ble_eq_true rfl) (Nat.le_of_ble_eq_true rfl) ?_
  refine pf_X7_44 rfl rfl dX7_init_727 (by rw [gK_nA, if_neg (by rw [h11.1]; omega)]; exact h11.2.1) ?_
  refine x_at 730 rfl ?_
  obtain ⟨S12, eS12⟩ : ∃ s9 : HS, s9 = uP (nA S11 20 60) 274 o (some (gN S11)) := ⟨_, rfl⟩
  rw [← eS12]
  have h12 : IN S S12 o 12 := by rw [eS12]; exact h11.st rfl (by decide) (by decide) (by decide)
  clear eS12
  refine x_aload_n 0 dX7_init_730 rfl ?_
  refine x_bipush 24 dX7_init_731 (by decide) ?_
  refine x_newaZ 24 dX7_init_733 tk_2 (by decide) rfl (by decide) (Nat.le_of_ble_eq_true rfl) (Nat.le_of_ble_eq_true rfl) ?_
  refine pf_X7_47 rfl rfl dX7_init_735 (by rw [gK_nA, if_neg (by rw [h12.1]; omega)]; exact h12.2.1) ?_
  refine x_at 738 rfl ?_
  obtain ⟨S13, eS13⟩ : ∃ s9 : HS, s9 = uP (nA S12 21 24) 275 o (some (gN S12)) := ⟨_, rfl⟩
  rw [← eS13]
  have h13 : IN S S13 o 13 := by rw [eS13]; exact h12.st rfl (by decide) (by decide) (by decide)
  clear eS13
  refine x_aload_n 0 dX7_init_738 rfl ?_
  refine x_bipush 24 dX7_init_739 (by decide) ?_
  refine x_newaI 24 dX7_init_741 tk_1 (by decide) rfl (by decide) (Nat.le_of_ble_eq_true rfl) (Nat.le_of_ble_eq_true rfl) ?_
  refine pf_X7_50 rfl rfl dX7_init_743 (by rw [gK_nA, if_neg (by rw [h13.1]; omega)]; exact h13.2.1) ?_
  refine x_at 746 rfl ?_
  obtain ⟨S14, eS14⟩ : ∃ s9 : HS, s9 = uP (nA S13 20 24) 276 o (some (gN S13)) := ⟨_, rfl⟩
  rw [← eS14]
  have h14 : IN S S14 o 14 := by rw [eS14]; exact h13.st rfl (by decide) (by decide) (by decide)
  clear eS14
  refine x_aload_n 0 dX7_init_746 rfl ?_
  refine x_bipush 6 dX7_init_747 (by decide) ?_
  refine x_newaI 6 dX7_init_749 tk_1 (by decide) rfl (by decide) (Nat.le_of_ble_eq_true rfl) (Nat.le_of_ble_eq_true rfl) ?_
  refine pf_X7_53 rfl rfl dX7_init_751 (by rw [gK_nA, if_neg (by rw [h14.1]; omega)]; exact h14.2.1) ?_
  refine x_at 754 rfl ?_
  obtain ⟨S15, eS15⟩ : ∃ s9 : HS, s9 = uP (nA S14 20 6) 278 o (some (gN S14)) := ⟨_, rfl⟩
  rw [← eS15]
  have h15 : IN S S15 o 15 := by rw [eS15]; exact h14.st rfl (by decide) (by decide) (by decide)
  clear eS15
  refine x_aload_n 0 dX7_init_754 rfl ?_
  refine x_bipush 6 dX7_init_755 (by decide) ?_
  refine x_newaI 6 dX7_init_757 tk_1 (by decide) rfl (by decide) (Nat.le_of_ble_eq_true rfl) (Nat.le_of_ble_eq_true rfl) ?_
  refine pf_X7_56 rfl rfl dX7_init_759 (by rw [gK_nA, if_neg (by rw [h15.1]; omega)]; exact h15.2.1) ?_
  refine x_at 762 rfl ?_
  obtain ⟨S16, eS16⟩ : ∃ s9 : HS, s9 = uP (nA S15 20 6) 279 o (some (gN S15)) := ⟨_, rfl⟩
  rw [← eS16]
  have h16 : IN S S16 o 16 := by rw [eS16]; exact h15.st rfl (by decide) (by decide) (by decide)
  clear eS16
  refine x_aload_n 0 dX7_init_762 rfl ?_
  refine x_bipush 6 dX7_init_763 (by decide) ?_
  refine x_newaI 6 dX7_init_765 tk_1 (by decide) rfl (by decide) (Nat.le_of_ble_eq_true rfl) (Nat.le_of_ble_eq_true rfl) ?_
  refine pf_X7_59 rfl rfl dX7_init_767 (by rw [gK_nA, if_neg (by rw [h16.1]; omega)]; exact h16.2.1) ?_
  refine x_at 770 rfl ?_
  obtain ⟨S17, eS17⟩ : ∃ s9 : HS, s9 = uP (nA S16 20 6) 280 o (some (gN S16)) := ⟨_, rfl⟩
  rw [← eS17]
  have h17 : IN S S17 o 17 := by rw [eS17]; exact h16.st rfl (by decide) (by decide) (by decide)
  clear eS17
  refine x_bipush 6 dX7_init_770 (by decide) ?_
  refine x_istore_n [(2, .int (6)), (0, .ref (o)), (1, .int (g0))] dX7_init_772 (Nat.le_of_ble_eq_true rfl) rfl ?_
  refine x_bipush 6 dX7_init_773 (by decide) ?_
  refine x_istore_n [(3, .int (6)), (2, .int (6)), (0, .ref (o)), (1, .int (g0))] dX7_init_775 (Nat.le_of_ble_eq_true rfl) rfl ?_
  refine x_lv [(0, .ref (o)), (1, .int (g0)), (2, .int (6)), (3, .int (nI 6))] [2, 3, 1, 0] rfl ?_
  refine l_ngo 19 6 6 (by omega) ?_
  rw [ngo_all]
  obtain ⟨P, hP, eP⟩ := gnI_in g0
  rw [eP]
  have hM17 := h17.mi h0
  refine x_aload_n 0 dX7_init_861 rfl ?_
  refine x_iload_n 2 dX7_init_862 rfl ?_
  refine pf_X7_62 rfl rfl dX7_init_863 (mhK hM17.1) ?_
  obtain ⟨S1, eS1⟩ : ∃ s9 : HS, s9 = uI (S17) 257 (o) (nI P) := ⟨_, rfl⟩
  rw [← eS1]
  have hM1 : MI S1 o (fI ((fun _ => 0, fun a => if a = 0 then gR S17 o else if a = 1 then cosP 92 else fun _ => 0)) 1 (nI P)) := by rw [eS1]; exact hM17.pI 1 _
  have hF1 : FM o S17 S1 := by rw [eS1]; exact FM.rf.pI _ (by decide)
  clear eS1
  refine x_aload_n 0 dX7_init_866 rfl ?_
  refine x_sipush 360 dX7_init_867 (by decide) ?_
  refine x_iload_n 2 dX7_init_870 rfl ?_
  refine x_idiv dX7_init_871 (gor_ne hP) ?_
  refine pf_X7_66 rfl rfl dX7_init_872 (mhK hM1.1) ?_
  obtain ⟨S2, eS2⟩ : ∃ s9 : HS, s9 = uI (S1) 258 (o) ((360 / nI P)) := ⟨_, rfl⟩
  rw [← eS2]
  have hM2 : MI S2 o (fI (fI ((fun _ => 0, fun a => if a = 0 then gR S17 o else if a = 1 then cosP 92 else fun _ => 0)) 1 (nI P)) 2 ((360 / nI P))) := by rw [eS2]; exact hM1.pI 2 _
  have hF2 : FM o S17 S2 := by rw [eS2]; exact hF1.pI _ (by decide)
  clear eS2
  refine x_iconst 0 dX7_init_875 (by decide) ?_
  refine x_istore_n [(3, .int (0)), (0, .ref (o)), (1, .int (g0)), (2, .int (nI P))] dX7_init_876 (Nat.le_of_ble_eq_true rfl) rfl ?_
  refine x_lv [(0, .ref (o)), (1, .int (g0)), (2, .int (nI P)), (3, .int (nI 0))] [1, 2, 3, 0] rfl ?_
  refine l_fr (P := P) (by have := gor_le hP; omega) P 0 (by omega) S2 (fI (fI ((fun _ => 0, fun a => if a = 0 then gR S17 o else if a = 1 then cosP 92 else fun _ => 0)) 1 (nI P)) 2 ((360 / nI P))) hM2 hF2 rfl (fun S9 σ9 a1 a2 a3 a4 a5 => ?_)
  exact x_return dX7_init_898 rfl (Nat.le_of_ble_eq_true rfl) (Nat.le_of_ble_eq_true rfl) (by have q := ini_fin hP h17 a1 a2 a3 a4 a5; exact ⟨rfl, σ9, q.1, q.2.1, ⟨P, rfl, hP, q.2.2.1⟩, q.2.2.2.1, q.2.2.2.2⟩)
