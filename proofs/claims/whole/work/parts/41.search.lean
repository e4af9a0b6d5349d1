/-! THE SEARCH: prefixes -/
def val (W : Nat → Nat) : Nat → Nat
  | 0 => 0
  | d + 1 => 5 * val W d + W d
theorem val_dig {W : Nat → Nat} : ∀ (d i : Nat), (∀ j, j < d → W j ≤ 4) → i < d → val W d / 5 ^ (d - 1 - i) % 5 = W i := by
  intro d
  induction d with
  | zero => intro i _ h; omega
  | succ d ih =>
    intro i hW h
    have h4 := hW d (by omega)
    by_cases e : i = d
    · subst e
      rw [show i + 1 - 1 - i = 0 by omega, Nat.pow_zero, Nat.div_one, val]; omega
    · rw [show d + 1 - 1 - i = 1 + (d - 1 - i) by omega, Nat.pow_add, Nat.pow_one, ← Nat.div_div_eq_div_mul, val, show (5 * val W d + W d) / 5 = val W d by omega]
      exact ih i (fun j hj => hW j (by omega)) (by omega)
theorem dgt_pre {W : Nat → Nat} {c d t i : Nat} (hd : d ≤ c) (hW : ∀ j, j < d → W j ≤ 4) (ht : t < 5 ^ (c - d)) (hi : i < d) : dgt c (val W d * 5 ^ (c - d) + t) i = W i := by
  unfold dgt
  have hp : 0 < 5 ^ (c - d) := Nat.pow_pos (by decide)
  rw [show c - 1 - i = (c - d) + (d - 1 - i) by omega, Nat.pow_add, ← Nat.div_div_eq_div_mul, Nat.add_comm, Nat.add_mul_div_right _ _ hp, Nat.div_eq_of_lt ht, Nat.zero_add]
  exact val_dig d i hW hi
section
variable {ok : Nat → Nat → Bool} {ap : Nat → Nat → Nat → Nat → Bool} {cst : Nat → Nat → Nat} {c : Nat}
theorem sCo_cg {V W : Nat → Nat} : ∀ d, (∀ i, i < d → V i = W i) → sCo cst V d = sCo cst W d := by
  intro d
  induction d with
  | zero => intro _; rfl
  | succ d ih => intro h; rw [sCo, sCo, ih (fun i hi => h i (by omega)), h d (by omega)]
theorem sCo_mono {V : Nat → Nat} {d : Nat} : ∀ e, sCo cst V d ≤ sCo cst V (d + e) := by
  intro e
  induction e with
  | zero => exact Nat.le_refl _
  | succ e ih => rw [show d + (e + 1) = d + e + 1 by omega, sCo]; omega
theorem sGd_iff {V : Nat → Nat} {n : Nat} : sGd ok ap V n = true ↔ ∀ i, i < n → ok i (V i) = true ∧ ∀ j, j < i → ap i (V i) j (V j) = true := by
  unfold sGd
  rw [List.all_eq_true]
  constructor
  · intro h i hi
    have := h i (List.mem_range.mpr hi)
    rw [Bool.and_eq_true, List.all_eq_true] at this
    exact ⟨this.1, fun j hj => this.2 j (List.mem_range.mpr hj)⟩
  · intro h i hi
    rw [Bool.and_eq_true, List.all_eq_true]
    have := h i (List.mem_range.mp hi)
    exact ⟨this.1, fun j hj => this.2 j (List.mem_range.mp hj)⟩
theorem sRn_no : ∀ (m s : Nat) (a : Nat × (Nat → Nat)), (∀ t, t < m → sSt ok ap cst c a (s + t) = a) → sRn ok ap cst c m s a = a := by
  intro m
  induction m with
  | zero => intro s a _; rfl
  | succ m ih =>
    intro s a h
    have h0 : sSt ok ap cst c a s = a := h 0 (by omega)
    rw [sRn, h0]
    exact ih (s + 1) a (fun t ht => by have := h (t + 1) (by omega); rw [show s + (t + 1) = s + 1 + t by omega] at this; exact this)
theorem sRn_add : ∀ (m m2 s : Nat) (a : Nat × (Nat → Nat)), sRn ok ap cst c (m + m2) s a = sRn ok ap cst c m2 (s + m) (sRn ok ap cst c m s a) := by
  intro m
  induction m with
  | zero => intro m2 s a; rw [Nat.zero_add]; rfl
  | succ m ih =>
    intro m2 s a
    rw [show m + 1 + m2 = (m + m2) + 1 by omega, sRn, ih, sRn, show s + 1 + m = s + (m + 1) by omega]
theorem sSt_le (a : Nat × (Nat → Nat)) (s : Nat) : (sSt ok ap cst c a s).1 ≤ a.1 := by
  unfold sSt
  by_cases h : sGd ok ap (dgt c s) c = true ∧ sCo cst (dgt c s) c < a.1
  · rw [if_pos h]; exact Nat.le_of_lt h.2
  · rw [if_neg h]; exact Nat.le_refl _
theorem sRn_le : ∀ (m s : Nat) (a : Nat × (Nat → Nat)), (sRn ok ap cst c m s a).1 ≤ a.1 := by
  intro m
  induction m with
  | zero => intro s a; exact Nat.le_refl _
  | succ m ih => intro s a; rw [sRn]; exact Nat.le_trans (ih _ _) (sSt_le a s)
theorem sRn_hit : ∀ (m s t : Nat) (a : Nat × (Nat → Nat)), t < m → sGd ok ap (dgt c (s + t)) c = true → (sRn ok ap cst c m s a).1 ≤ sCo cst (dgt c (s + t)) c := by
  intro m
  induction m with
  | zero => intro s t a h; omega
  | succ m ih =>
    intro s t a h hg
    rw [sRn]
    by_cases e : t = 0
    · subst e
      refine Nat.le_trans (sRn_le m _ _) ?_
      unfold sSt
      rw [Nat.add_zero] at hg ⊢
      by_cases h2 : sCo cst (dgt c s) c < a.1
      · rw [if_pos ⟨hg, h2⟩]; exact Nat.le_refl _
      · rw [if_neg (fun z => h2 z.2)]; omega
    · have := ih (s + 1) (t - 1) (sSt ok ap cst c a s) (by omega) (by rw [show s + 1 + (t - 1) = s + t by omega]; exact hg)
      rw [show s + 1 + (t - 1) = s + t by omega] at this
      exact this
/-- too dear: the range under the prefix changes nothing -/
theorem sR_dear {W : Nat → Nat} {d : Nat} {a : Nat × (Nat → Nat)} (hd : d ≤ c) (hW : ∀ j, j < d → W j ≤ 4) (h : a.1 ≤ sCo cst W d) : sRn ok ap cst c (5 ^ (c - d)) (val W d * 5 ^ (c - d)) a = a := by
  refine sRn_no _ _ _ (fun t ht => ?_)
  unfold sSt
  rw [if_neg]
  intro z
  have e := sCo_cg (cst := cst) (V := dgt c (val W d * 5 ^ (c - d) + t)) (W := W) d (fun i hi => dgt_pre hd hW ht hi)
  have m := sCo_mono (cst := cst) (V := dgt c (val W d * 5 ^ (c - d) + t)) (d := d) (c - d)
  rw [show d + (c - d) = c by omega] at m
  omega
/-- a bad last way: the range under the prefix changes nothing -/
theorem sR_bad {W : Nat → Nat} {d : Nat} {a : Nat × (Nat → Nat)} (hd : d + 1 ≤ c) (hW : ∀ j, j < d + 1 → W j ≤ 4) (h : ¬ (ok d (W d) = true ∧ ∀ j, j < d → ap d (W d) j (W j) = true)) : sRn ok ap cst c (5 ^ (c - (d + 1))) (val W (d + 1) * 5 ^ (c - (d + 1))) a = a := by
  refine sRn_no _ _ _ (fun t ht => ?_)
  unfold sSt
  rw [if_neg]
  intro z
  apply h
  have e : ∀ i, i < d + 1 → dgt c (val W (d + 1) * 5 ^ (c - (d + 1)) + t) i = W i := fun i hi => dgt_pre hd hW ht hi
  have g := sGd_iff.mp z.1 d (by omega)
  rw [e d (by omega)] at g
  exact ⟨g.1, fun j hj => by have := g.2 j hj; rw [e j (by omega)] at this; exact this⟩
/-- a leaf -/
theorem sR_leaf {W : Nat → Nat} {a : Nat × (Nat → Nat)} (hW : ∀ j, j < c → W j ≤ 4) (hg : ∀ i, i < c → ok i (W i) = true ∧ ∀ j, j < i → ap i (W i) j (W j) = true) (h : sCo cst W c < a.1) : (sRn ok ap cst c (5 ^ (c - c)) (val W c * 5 ^ (c - c)) a).1 = sCo cst W c ∧ ∀ i, i < c → (sRn ok ap cst c (5 ^ (c - c)) (val W c * 5 ^ (c - c)) a).2 i = W i := by
  have e : ∀ i, i < c → dgt c (val W c * 5 ^ (c - c)) i = W i := fun i hi => by
    have := dgt_pre (t := 0) (Nat.le_refl c) hW (Nat.pow_pos (by decide)) hi
    rw [Nat.add_zero] at this; exact this
  have ec := sCo_cg (cst := cst) c e
  have g : sGd ok ap (dgt c (val W c * 5 ^ (c - c))) c = true := sGd_iff.mpr (fun i hi => by
    rw [e i hi]
    exact ⟨(hg i hi).1, fun j hj => by rw [e j (by omega)]; exact (hg i hi).2 j hj⟩)
  have e1 : sRn ok ap cst c (5 ^ (c - c)) (val W c * 5 ^ (c - c)) a = sSt ok ap cst c a (val W c * 5 ^ (c - c)) := by
    conv => lhs; rw [show 5 ^ (c - c) = 0 + 1 by rw [Nat.sub_self]]
    conv => lhs; arg 6; rw [show 0 + 1 = 5 ^ (c - c) by rw [Nat.sub_self]]
    rfl
  rw [e1]
  unfold sSt
  rw [if_pos ⟨g, by rw [ec]; exact h⟩]
  exact ⟨ec, e⟩
end
theorem val_up {W : Nat → Nat} {d w : Nat} : val (va_up W d w) d = val W d := by
  have : ∀ e, e ≤ d → val (va_up W d w) e = val W e := by
    intro e
    induction e with
    | zero => intro _; rfl
    | succ e ih => intro h; rw [val, val, ih (by omega), up_ne (by omega)]
  exact this d (Nat.le_refl _)
/-- left out everywhere: the last number of all -/
theorem val_4 : ∀ c, val (fun _ => 4) c + 1 = 5 ^ c := by
  intro c
  induction c with
  | zero => rfl
  | succ c ih => rw [val, Nat.pow_succ, ← ih]; omega
theorem canBe4 (a : Int32) (b c d e : Nat → Int32) (f : Int32) : f_X7_canBe a b c d e f (nI 4) = 1 := if_pos rfl
theorem apart4 (b c d e : Nat → Int32) (f g v : Int32) : f_X7_areApart b c d e f (nI 4) g v = 1 := if_pos rfl
theorem sCo_b {cst : Nat → Nat → Nat} {W : Nat → Nat} : ∀ n, (∀ i, i < n → cst i (W i) ≤ 99) → sCo cst W n ≤ 99 * n := by
  intro n
  induction n with
  | zero => intro _; exact Nat.le_refl _
  | succ n ih => intro h; rw [sCo]; have := ih (fun i hi => h i (by omega)); have := h n (by omega); omega
theorem bst_lt {σ : MS} {H : List Nat} (h6 : H.length ≤ 6) (hp : ∀ h ∈ H, (σ.2 12 h).toNatClampNeg ≤ 99) : (bstH σ H).1 ≤ 594 := by
  have hv := val_4 H.length
  have hd : ∀ i, i < H.length → dgt H.length (0 + (5 ^ H.length - 1)) i = 4 := fun i hi => by
    have := dgt_pre (W := fun _ => 4) (t := 0) (Nat.le_refl H.length) (fun _ _ => Nat.le_refl 4) (Nat.pow_pos (by decide)) hi
    rw [Nat.sub_self, Nat.pow_zero, Nat.mul_one, Nat.add_zero, show val (fun _ => 4) H.length = 0 + (5 ^ H.length - 1) by omega] at this
    exact this
  have hh := sRn_hit (ok := bOk σ H) (ap := bAp σ H) (cst := bCs σ H) (c := H.length) (5 ^ H.length) 0 (5 ^ H.length - 1) (595, fun _ => 0) (by omega) (sGd_iff.mpr (fun i hi => by
    rw [hd i hi]
    refine ⟨?_, fun j hj => ?_⟩
    · show decide (¬ f_X7_canBe _ _ _ _ _ _ (nI 4) = 0) = true
      rw [canBe4]; decide
    · show decide (¬ f_X7_areApart _ _ _ _ _ (nI 4) _ _ = 0) = true
      rw [apart4]; decide))
  refine Nat.le_trans hh ?_
  refine Nat.le_trans (sCo_b H.length (fun i hi => ?_)) (by omega)
  rw [hd i hi]
  show (if 4 = 4 then (σ.2 12 (H.getD i 0)).toNatClampNeg else 4) ≤ 99
  rw [if_pos rfl]
  refine hp _ ?_
  rw [List.getD_eq_getElem?_getD, List.getElem?_eq_getElem hi]
  exact List.getElem_mem hi
/-! the reference's search is this one -/
section
variable {σ : MS} {H : List Nat} {he : Nat → Int32}
theorem dgt_s {t s k : Nat} (h : k < t) : dgt (t + 1) s k = dgt t (s / 5) k := by
  unfold dgt
  rw [show t + 1 - 1 - k = 1 + (t - 1 - k) by omega, Nat.pow_add, Nat.pow_one, Nat.div_div_eq_div_mul]
theorem dgt_t {t s : Nat} : dgt (t + 1) s t = s % 5 := by
  unfold dgt
  rw [show t + 1 - 1 - t = 0 by omega, Nat.pow_zero, Nat.div_one]
theorem nI_div5 {s : Nat} (h : s < 2 ^ 31) : nI s / 5 = nI (s / 5) := by
  apply t_ext
  rw [t_divp (by rw [nI_toInt h]; omega) (by decide), nI_toInt h, nI_toInt (by omega)]
  show (s : Int) / 5 = ((s / 5 : Nat) : Int)
  omega
theorem nI_mod5 {s : Nat} (h : s < 2 ^ 31) : nI s - nI s / 5 * 5 = nI (s % 5) := by
  apply t_ext
  rw [t_remp (by rw [nI_toInt h]; omega) (by decide), nI_toInt h, nI_toInt (by omega)]
  show (s : Int) % 5 = ((s % 5 : Nat) : Int)
  omega
theorem st3a_eq (hH : ∀ i, i < H.length → he i = nI (H.getD i 0) ∧ H.getD i 0 < 2 ^ 31) (hp : ∀ h, h ∈ H → ∃ v : Nat, σ.2 12 h = nI v ∧ v < 2 ^ 31) : ∀ (t s q : Nat) (w : Nat → Int32), t ≤ H.length → t ≤ 6 → s < 2 ^ 31 → (st3a σ he t (nI s) (nI q) w).1 = nI (q + sCo (bCs σ H) (dgt t s) t) ∧ (∀ i, i < t → (st3a σ he t (nI s) (nI q) w).2 i = nI (dgt t s i)) ∧ ∀ i, t ≤ i → (st3a σ he t (nI s) (nI q) w).2 i = w i := by
  intro t
  induction t with
  | zero => intro s q w _ _ _; exact ⟨rfl, fun i hi => absurd hi (Nat.not_lt_zero _), fun i _ => rfl⟩
  | succ t ih =>
    intro s q w ht h6 hs
    have hm : H.getD t 0 ∈ H := by rw [List.getD_eq_getElem?_getD, List.getElem?_eq_getElem (by omega)]; exact List.getElem_mem _
    obtain ⟨v, hv, hv2⟩ := hp _ hm
    have hcs : bCs σ H t (s % 5) = if s % 5 = 4 then v else s % 5 := by
      unfold bCs; rw [hv, nI_clamp hv2]
    have e1 : sCo (bCs σ H) (dgt (t + 1) s) (t + 1) = sCo (bCs σ H) (dgt t (s / 5)) t + (if s % 5 = 4 then v else s % 5) := by
      rw [sCo, dgt_t, hcs, sCo_cg t (fun i hi => dgt_s hi)]
    have key : ∀ q2 : Nat, q2 = q + (if s % 5 = 4 then v else s % 5) → st3a σ he (t + 1) (nI s) (nI q) w = st3a σ he t (nI (s / 5)) (nI q2) (upd w t (nI (s % 5))) := by
      intro q2 hq2
      rw [st3a, nI_clamp (by omega), nI_mod5 hs, nI_div5 hs, pk_us]
      by_cases c : s % 5 = 4
      · rw [if_pos c] at hq2
        rw [if_pos (by rw [c]; rfl), (hH t (by omega)).1, nI_clamp (hH t (by omega)).2, hv, nI_add, ← hq2]
      · rw [if_neg c] at hq2
        rw [if_neg (show ¬ nI (s % 5) = 4 from fun z => c ((nI_eq (by omega) (by decide)).mp (z : nI (s % 5) = nI 4))), nI_add, ← hq2]
    rw [key _ rfl, e1]
    obtain ⟨a1, a2, a3⟩ := ih (s / 5) (q + (if s % 5 = 4 then v else s % 5)) (upd w t (nI (s % 5))) (by omega) (by omega) (by omega)
    refine ⟨by rw [a1]; congr 1; omega, fun i hi => ?_, fun i hi => ?_⟩
    · by_cases e : i = t
      · subst e; rw [a3 i (Nat.le_refl _), pk_us, dgt_t]
      · rw [a2 i (by omega), dgt_s (by omega)]
    · rw [a3 i (by omega), pk_un (by omega)]
theorem igI_eq {wa : Nat → Int32} {W : Nat → Nat} {n : Nat} (hH : ∀ i, i < H.length → he i = nI (H.getD i 0) ∧ H.getD i 0 < 2 ^ 31) (hw : ∀ i, i < H.length → wa i = nI (W i)) (hn : n < H.length) (h6 : H.length ≤ 6) : ∀ (m j : Nat), j + m = n → (¬ igI σ he wa n m j = 0 ↔ ∀ i, j ≤ i → i < n → bAp σ H n (W n) i (W i) = true) := by
  intro m
  induction m with
  | zero => intro j hj; rw [igI]; exact ⟨fun _ i h1 h2 => by omega, fun _ => by decide⟩
  | succ m ih =>
    intro j hj
    rw [igI, nI_clamp (by omega), nI_clamp (by omega), (hH n hn).1, hw n hn, (hH j (by omega)).1, hw j (by omega)]
    by_cases c : f_X7_areApart (σ.2 1) (σ.2 9) (σ.2 10) (σ.2 11) (nI (H.getD n 0)) (nI (W n)) (nI (H.getD j 0)) (nI (W j)) = 0
    · rw [if_pos c]
      refine ⟨fun z => absurd rfl z, fun z => ?_⟩
      have := of_decide_eq_true (z j (Nat.le_refl _) (by omega))
      exact absurd c this
    · rw [if_neg c, ih (j + 1) (by omega)]
      refine ⟨fun z i h1 h2 => ?_, fun z i h1 h2 => z i (by omega) h2⟩
      by_cases e : i = j
      · subst e; exact decide_eq_true c
      · exact z i (by omega) h2
theorem igO_eq {wa : Nat → Int32} {W : Nat → Nat} (hH : ∀ i, i < H.length → he i = nI (H.getD i 0) ∧ H.getD i 0 < 2 ^ 31) (hw : ∀ i, i < H.length → wa i = nI (W i)) (h6 : H.length ≤ 6) : ∀ (m j : Nat), j + m = H.length → (¬ igO σ he wa m j = 0 ↔ ∀ i, j ≤ i → i < H.length → bOk σ H i (W i) = true ∧ ∀ t, t < i → bAp σ H i (W i) t (W t) = true) := by
  intro m
  induction m with
  | zero => intro j hj; rw [igO]; exact ⟨fun _ i h1 h2 => by omega, fun _ => by decide⟩
  | succ m ih =>
    intro j hj
    rw [igO, nI_clamp (by omega), (hH j (by omega)).1, hw j (by omega)]
    by_cases c : f_X7_canBe (σ.1 2) (σ.2 1) (σ.2 9) (σ.2 10) (σ.2 11) (nI (H.getD j 0)) (nI (W j)) = 0
    · rw [if_pos c]
      refine ⟨fun z => absurd rfl z, fun z => ?_⟩
      exact absurd c (of_decide_eq_true (z j (Nat.le_refl _) (by omega)).1)
    · rw [if_neg c]
      have hi := igI_eq (σ := σ) hH hw (show j < H.length by omega) h6 j 0 (by omega)
      by_cases d : igI σ he wa j j 0 = 0
      · rw [if_pos d]
        refine ⟨fun z => absurd rfl z, fun z => ?_⟩
        exact absurd d (hi.mpr (fun i _ h2 => (z j (Nat.le_refl _) (by omega)).2 i h2))
      · rw [if_neg d, ih (j + 1) (by omega)]
        refine ⟨fun z i h1 h2 => ?_, fun z i h1 h2 => z i (by omega) h2⟩
        by_cases e : i = j
        · subst e; exact ⟨decide_eq_true c, fun t ht => hi.mp d t (Nat.zero_le _) ht⟩
        · exact z i (by omega) h2
theorem st3b_eq {wa : Nat → Int32} : ∀ (m j : Nat) (b : Nat → Int32), j + m < 2 ^ 31 → ∀ i, st3b wa m j b i = if j ≤ i ∧ i < j + m then wa i else b i := by
  intro m
  induction m with
  | zero => intro j b _ i; rw [st3b, if_neg (by omega)]
  | succ m ih =>
    intro j b h i
    rw [st3b, ih (j + 1) _ (by omega), nI_clamp (by omega)]
    by_cases c : i = j
    · subst c; rw [if_neg (by omega), pk_us, if_pos (by omega)]
    · by_cases d : j + 1 ≤ i ∧ i < j + 1 + m
      · rw [if_pos d, if_pos (by omega)]
      · rw [if_neg d, pk_un c, if_neg (by omega)]
/-- the pair of best cost and ways, in the reference's words -/
def Rep (c : Nat) (a : Nat × (Nat → Nat)) (b : Nat → Int32) (q : Int32) : Prop := q = (if a.1 = 595 then -1 else nI a.1) ∧ a.1 ≤ 595 ∧ (a.1 ≠ 595 → ∀ i, i < c → b i = nI (a.2 i))
theorem st3_eq (hH : ∀ i, i < H.length → he i = nI (H.getD i 0) ∧ H.getD i 0 < 2 ^ 31) (hp : ∀ h, h ∈ H → ∃ v : Nat, σ.2 12 h = nI v ∧ v ≤ 99) (h6 : H.length ≤ 6) : ∀ (m s : Nat) (w b : Nat → Int32) (q : Int32) (a : Nat × (Nat → Nat)), s + m < 2 ^ 31 → Rep H.length a b q → Rep H.length (sRn (bOk σ H) (bAp σ H) (bCs σ H) H.length m s a) (st3 σ he H.length m s w b q).2.1 (st3 σ he H.length m s w b q).2.2 := by
  intro m
  induction m with
  | zero => intro s w b q a _ hR; exact hR
  | succ m ih =>
    intro s w b q a hs hR
    obtain ⟨c1, c2, c3⟩ := st3a_eq (σ := σ) hH (fun h hh => by obtain ⟨v, h1, h2⟩ := hp h hh; exact ⟨v, h1, by omega⟩) H.length s 0 w (Nat.le_refl _) h6 (by omega)
    have hg := igO_eq (σ := σ) (W := dgt H.length s) hH c2 h6 H.length 0 (by omega)
    have hcb : sCo (bCs σ H) (dgt H.length s) H.length ≤ 99 * H.length := sCo_b _ (fun i hi => by
      have hm : H.getD i 0 ∈ H := by rw [List.getD_eq_getElem?_getD, List.getElem?_eq_getElem hi]; exact List.getElem_mem _
      obtain ⟨v, h1, h2⟩ := hp _ hm
      unfold bCs
      rw [h1, nI_clamp (by omega)]
      have : dgt H.length s i < 5 := Nat.mod_lt _ (by decide)
      by_cases e : dgt H.length s i = 4
      · rw [if_pos e]; exact h2
      · rw [if_neg e]; omega)
    rw [show (0 : Int32) = nI 0 from rfl] at *
    rw [Nat.zero_add] at c1
    rw [st3, sRn]
    rw [show (0 : Int32) = nI 0 from rfl]
    have hgood : (¬ igO σ he (st3a σ he H.length (nI s) (nI 0) w).2 H.length 0 = nI 0) ↔ sGd (bOk σ H) (bAp σ H) (dgt H.length s) H.length = true := by
      rw [sGd_iff]
      exact hg.trans ⟨fun z i hi => z i (Nat.zero_le _) hi, fun z i _ hi => z i hi⟩
    have hkeep : Rep H.length (sCo (bCs σ H) (dgt H.length s) H.length, dgt H.length s) (st3b (st3a σ he H.length (nI s) (nI 0) w).2 H.length 0 b) (st3a σ he H.length (nI s) (nI 0) w).1 := by
      refine ⟨by rw [c1, if_neg (by show ¬ sCo _ _ _ = 595; omega)], by show sCo _ _ _ ≤ 595; omega, fun _ i hi => ?_⟩
      rw [st3b_eq _ _ _ (by omega), if_pos (by omega)]; exact c2 i hi
    obtain ⟨r1, r2, r3⟩ := hR
    by_cases e5 : a.1 = 595
    · rw [if_pos e5] at r1
      rw [if_pos r1]
      by_cases g : igO σ he (st3a σ he H.length (nI s) (nI 0) w).2 H.length 0 = nI 0
      · rw [if_pos g, show sSt (bOk σ H) (bAp σ H) (bCs σ H) H.length a s = a from if_neg (fun z => (hgood.mpr z.1) g)]
        exact ih (s + 1) _ b q a (by omega) ⟨by rw [if_pos e5]; exact r1, r2, r3⟩
      · rw [if_neg g, show sSt (bOk σ H) (bAp σ H) (bCs σ H) H.length a s = (sCo (bCs σ H) (dgt H.length s) H.length, dgt H.length s) from if_pos ⟨hgood.mp g, by omega⟩]
        exact ih (s + 1) _ _ _ _ (by omega) hkeep
    · rw [if_neg e5] at r1
      have hq1 : ¬ q = -1 := fun z => by
        rw [r1] at z
        have := congrArg Int32.toInt z
        rw [nI_toInt (by omega)] at this
        have h3 : ((-1 : Int32)).toInt = -1 := rfl
        omega
      rw [if_neg hq1]
      by_cases g2 : a.1 ≤ sCo (bCs σ H) (dgt H.length s) H.length
      · rw [if_pos (by rw [r1, c1]; exact nI_le g2 (by omega)), show sSt (bOk σ H) (bAp σ H) (bCs σ H) H.length a s = a from if_neg (fun z => by omega)]
        exact ih (s + 1) _ b q a (by omega) ⟨by rw [if_neg e5]; exact r1, r2, r3⟩
      · rw [if_neg (by rw [r1, c1]; exact nI_ge (by omega) (by omega))]
        by_cases g : igO σ he (st3a σ he H.length (nI s) (nI 0) w).2 H.length 0 = nI 0
        · rw [if_pos g, show sSt (bOk σ H) (bAp σ H) (bCs σ H) H.length a s = a from if_neg (fun z => (hgood.mpr z.1) g)]
          exact ih (s + 1) _ b q a (by omega) ⟨by rw [if_neg e5]; exact r1, r2, r3⟩
        · rw [if_neg g, show sSt (bOk σ H) (bAp σ H) (bCs σ H) H.length a s = (sCo (bCs σ H) (dgt H.length s) H.length, dgt H.length s) from if_pos ⟨hgood.mp g, by omega⟩]
          exact ih (s + 1) _ _ _ _ (by omega) hkeep
end
