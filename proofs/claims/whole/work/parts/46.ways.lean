/-! THE WAYS of a name, as bits -/
def wyB (wd nx le nh : Int32) (w : Nat) : Bool := decide (¬ f_X6_isWithinEdges wd nx le (nI w) (f_X2_bottom nh (nI w)) = 0 ∧ ¬ f_X6_isWithinEdges wd nx le (nI w) (f_X2_bottom nh (nI w) + 80) = 0)
def wyS (b : Nat → Bool) : Nat → Int32
  | 0 => 16
  | j + 1 => if b j = true then wyS b j ||| (1 <<< (nI j &&& 31)) else wyS b j
theorem wy_dec : ∀ b0 b1 b2 b3 : Bool, (f_X2_allows (wyS (fun j => match j with | 0 => b0 | 1 => b1 | 2 => b2 | _ => b3) 4) 0 = 0 ↔ b0 = false) ∧ (f_X2_allows (wyS (fun j => match j with | 0 => b0 | 1 => b1 | 2 => b2 | _ => b3) 4) 1 = 0 ↔ b1 = false) ∧ (f_X2_allows (wyS (fun j => match j with | 0 => b0 | 1 => b1 | 2 => b2 | _ => b3) 4) 2 = 0 ↔ b2 = false) ∧ (f_X2_allows (wyS (fun j => match j with | 0 => b0 | 1 => b1 | 2 => b2 | _ => b3) 4) 3 = 0 ↔ b3 = false) ∧ ¬ f_X2_allows (wyS (fun j => match j with | 0 => b0 | 1 => b1 | 2 => b2 | _ => b3) 4) 4 = 0 := by decide +kernel
theorem wyS_cg {b c : Nat → Bool} : ∀ n, (∀ i, i < n → b i = c i) → wyS b n = wyS c n := by
  intro n
  induction n with
  | zero => intro _; rfl
  | succ n ih => intro h; rw [wyS, wyS, ih (fun i hi => h i (by omega)), h n (by omega)]
theorem wy_bit {b : Nat → Bool} {w : Nat} (hw : w < 4) : f_X2_allows (wyS b 4) (nI w) = 0 ↔ b w = false := by
  have e : wyS b 4 = wyS (fun j => match j with | 0 => b 0 | 1 => b 1 | 2 => b 2 | _ => b 3) 4 := wyS_cg 4 (fun i hi => by
    have h : i = 0 ∨ i = 1 ∨ i = 2 ∨ i = 3 := by omega
    rcases h with h | h | h | h <;> subst h <;> rfl)
  have hd := wy_dec (b 0) (b 1) (b 2) (b 3)
  rw [e]
  have h : w = 0 ∨ w = 1 ∨ w = 2 ∨ w = 3 := by omega
  rcases h with h | h | h | h <;> subst h
  · exact hd.1
  · exact hd.2.1
  · exact hd.2.2.1
  · exact hd.2.2.2.1
theorem wy_4 {b : Nat → Bool} : ¬ f_X2_allows (wyS b 4) (nI 4) = 0 := by
  have e : wyS b 4 = wyS (fun j => match j with | 0 => b 0 | 1 => b 1 | 2 => b 2 | _ => b 3) 4 := wyS_cg 4 (fun i hi => by
    have h : i = 0 ∨ i = 1 ∨ i = 2 ∨ i = 3 := by omega
    rcases h with h | h | h | h <;> subst h <;> rfl)
  rw [e]
  exact (wy_dec (b 0) (b 1) (b 2) (b 3)).2.2.2.2
theorem in_zero {v lo hi : Int32} : f_X7_in v lo hi = 0 ↔ (v < lo ∨ hi < v) := by
  unfold f_X7_in
  by_cases c : v < lo
  · simp [c]
  · by_cases d : hi < v
    · simp [c, d]
    · simp [c, d]
theorem with_eq {r : Nat → Int32} (hr : cosOk r) {wd nx le w h : Int32} (hlr : (f_X2_left nx le w).toInt ≤ (f_X2_left nx le w + 40 * le).toInt) : f_X6_isWithinEdges wd nx le w h = 0 ↔ (f_X7_isWithin wd r (f_X2_left nx le w) h = 0 ∨ f_X7_isWithin wd r (f_X2_left nx le w + 40 * le) h = 0) := by
  unfold f_X6_isWithinEdges f_X7_isWithin f_X2_right
  rw [height_eq]
  by_cases c : f_X7_in h (-5400) 5400 = 0
  · rw [if_pos c, if_pos c, if_pos c]; simp
  · rw [if_neg c, if_neg c, if_neg c]
    have hh := x_in_ok c
    rw [xOf_eq hr hh.1 hh.2, in_zero, in_zero]
    generalize f_X7_acrossOf r wd h = E at *
    generalize f_X2_left nx le w + 40 * le = R at *
    generalize f_X2_left nx le w = L at *
    simp only [t_lt]
    generalize (-E).toInt = F at *
    by_cases c1 : L.toInt < F
    · simp [c1]
    · rw [if_neg c1]
      by_cases c2 : E.toInt < R.toInt
      · simp [c2]
      · rw [if_neg c2]
        constructor
        · intro z; exact absurd z (by decide)
        · intro z; omega
theorem can_eq {cr si hi le : Nat → Int32} (hr : cosOk cr) {wd : Int32} {a w : Nat} (ha : a < 2 ^ 31) (hw : w < 4) (xa : -1800 ≤ (f_X7_acrossOf cr (si a) (hi a)).toInt ∧ (f_X7_acrossOf cr (si a) (hi a)).toInt ≤ 1800) (la : 1 ≤ (le a).toInt ∧ (le a).toInt ≤ 20) : wyB wd (f_X7_acrossOf cr (si a) (hi a)) (le a) (hi a) w = false ↔ f_X7_canBe wd cr si hi le (nI a) (nI w) = 0 := by
  have hL := left_rng (w := nI w) xa la
  have hlr : (f_X2_left (f_X7_acrossOf cr (si a) (hi a)) (le a) (nI w)).toInt ≤ (f_X2_left (f_X7_acrossOf cr (si a) (hi a)) (le a) (nI w) + 40 * le a).toInt := by
    rw [t_add (by rw [hL.1]; omega) (by rw [hL.1]; omega), hL.1]; omega
  unfold wyB f_X7_canBe
  rw [left_eq ha hw, low_eq ha hw, nI_clamp ha, if_neg (show ¬ nI w = 4 from fun z => Nat.ne_of_lt hw ((nI_eq (b := 4) (by omega) (by decide)).mp z)), decide_eq_false_iff_not, with_eq hr hlr, with_eq hr hlr]
  by_cases c1 : f_X7_isWithin wd cr (f_X2_left (f_X7_acrossOf cr (si a) (hi a)) (le a) (nI w)) (f_X2_bottom (hi a) (nI w)) = 0
  · simp [c1]
  · rw [if_neg c1]
    by_cases c2 : f_X7_isWithin wd cr (f_X2_left (f_X7_acrossOf cr (si a) (hi a)) (le a) (nI w) + 40 * le a) (f_X2_bottom (hi a) (nI w)) = 0
    · simp [c2]
    · rw [if_neg c2]
      by_cases c3 : f_X7_isWithin wd cr (f_X2_left (f_X7_acrossOf cr (si a) (hi a)) (le a) (nI w)) (f_X2_bottom (hi a) (nI w) + 80) = 0
      · simp [c3]
      · rw [if_neg c3]
        by_cases c4 : f_X7_isWithin wd cr (f_X2_left (f_X7_acrossOf cr (si a) (hi a)) (le a) (nI w) + 40 * le a) (f_X2_bottom (hi a) (nI w) + 80) = 0
        · simp [c4]
        · rw [if_neg c4]; simp [c1, c2, c3, c4]
theorem can_cg {wd : Int32} {cr si hi le si2 hi2 le2 : Nat → Int32} {a : Nat} {w : Int32} (ha : a < 2 ^ 31) (h1 : si2 a = si a) (h2 : hi2 a = hi a) (h3 : le2 a = le a) : f_X7_canBe wd cr si2 hi2 le2 (nI a) w = f_X7_canBe wd cr si hi le (nI a) w := by
  unfold f_X7_canBe f_X7_left f_X7_low
  rw [nI_clamp ha, h1, h2, h3]
theorem ap_cg {cr si hi le si2 hi2 le2 : Nat → Int32} {a b : Nat} {w v : Int32} (ha : a < 2 ^ 31) (hb : b < 2 ^ 31) (h1 : si2 a = si a) (h2 : hi2 a = hi a) (h3 : le2 a = le a) (g1 : si2 b = si b) (g2 : hi2 b = hi b) (g3 : le2 b = le b) : f_X7_areApart cr si2 hi2 le2 (nI a) w (nI b) v = f_X7_areApart cr si hi le (nI a) w (nI b) v := by
  unfold f_X7_areApart f_X7_left f_X7_low
  rw [nI_clamp ha, nI_clamp hb, h1, h2, h3, g1, g2, g3]
section
variable {ok ok2 : Nat → Nat → Bool} {ap ap2 : Nat → Nat → Nat → Nat → Bool} {cst cst2 : Nat → Nat → Nat} {c : Nat}
theorem sCo_cg2 {W : Nat → Nat} : ∀ d, (∀ i w, i < d → cst2 i w = cst i w) → sCo cst2 W d = sCo cst W d := by
  intro d
  induction d with
  | zero => intro _; rfl
  | succ d ih => intro h; rw [sCo, sCo, ih (fun i w hi => h i w (by omega)), h d _ (by omega)]
theorem sRn_cg (h1 : ∀ i w, i < c → ok2 i w = ok i w) (h2 : ∀ i w j v, i < c → j < c → ap2 i w j v = ap i w j v) (h3 : ∀ i w, i < c → cst2 i w = cst i w) : ∀ (m s : Nat) (a : Nat × (Nat → Nat)), sRn ok2 ap2 cst2 c m s a = sRn ok ap cst c m s a := by
  have hg : ∀ W : Nat → Nat, sGd ok2 ap2 W c = sGd ok ap W c := fun W => by
    rw [Bool.eq_iff_iff, sGd_iff, sGd_iff]
    constructor
    · intro z i hi; have := z i hi; rw [h1 i _ hi] at this; exact ⟨this.1, fun j hj => by have q := this.2 j hj; rw [h2 i _ j _ hi (by omega)] at q; exact q⟩
    · intro z i hi; have := z i hi; rw [h1 i _ hi]; exact ⟨this.1, fun j hj => by rw [h2 i _ j _ hi (by omega)]; exact this.2 j hj⟩
  intro m
  induction m with
  | zero => intro s a; rfl
  | succ m ih =>
    intro s a
    rw [sRn, sRn, ih]
    congr 1
    unfold sSt
    rw [hg, sCo_cg2 c h3]
end
/-- the state's numbers with a name more -/
def nmA (σ : MS) (p : Nat) (gg sd ht le pr : Int32) : MS := fI (fR (fR (fR (fR (fR (fR σ 7 (upd (σ.2 7) p 1)) 8 (upd (σ.2 8) p gg)) 9 (upd (σ.2 9) p sd)) 10 (upd (σ.2 10) p ht)) 11 (upd (σ.2 11) p le)) 12 (upd (σ.2 12) p pr)) 12 (nI p + 1)
theorem hl_nm {σ : MS} {p g g2 : Nat} {sd ht le pr : Int32} (h1 : g < 2 ^ 31) (h2 : g2 < 2 ^ 31) : hl (nmA σ p (nI g) sd ht le pr) (p + 1) g2 = hl σ p g2 ++ if g2 = g then [p] else [] := by
  unfold hl
  rw [List.range_succ, List.filter_append]
  congr 1
  · refine List.filter_congr (fun j hj => ?_)
    have := List.mem_range.mp hj
    show decide (¬ upd (σ.2 7) p 1 j = 0 ∧ upd (σ.2 8) p (nI g) j = nI g2) = _
    rw [pk_un (by omega), pk_un (by omega)]
  · show List.filter (fun j => decide (¬ upd (σ.2 7) p 1 j = 0 ∧ upd (σ.2 8) p (nI g) j = nI g2)) [p] = _
    by_cases e : g2 = g
    · subst e; simp [pk_us]
    · have e2 : ¬ nI g = nI g2 := fun z => e ((nI_eq h1 h2).mp z).symm
      simp [pk_us, e, e2]
theorem bstH_nm {σ : MS} {p : Nat} {gg sd ht le pr : Int32} {H : List Nat} (hp : p < 60) (hH : ∀ i, i < H.length → H.getD i 0 < p) : bstH (nmA σ p gg sd ht le pr) H = bstH σ H := by
  unfold bstH
  refine sRn_cg (fun i w hi => ?_) (fun i w j v hi hj => ?_) (fun i w hi => ?_) _ _ _
  · have := hH i hi
    show decide (¬ f_X7_canBe (σ.1 2) (σ.2 1) (upd (σ.2 9) p sd) (upd (σ.2 10) p ht) (upd (σ.2 11) p le) (nI (H.getD i 0)) (nI w) = 0) = decide _
    rw [can_cg (by omega) (pk_un (by omega)) (pk_un (by omega)) (pk_un (by omega))]
  · have := hH i hi
    have := hH j hj
    show decide (¬ f_X7_areApart (σ.2 1) (upd (σ.2 9) p sd) (upd (σ.2 10) p ht) (upd (σ.2 11) p le) (nI (H.getD i 0)) (nI w) (nI (H.getD j 0)) (nI v) = 0) = decide _
    rw [ap_cg (by omega) (by omega) (pk_un (by omega)) (pk_un (by omega)) (pk_un (by omega)) (pk_un (by omega)) (pk_un (by omega)) (pk_un (by omega))]
  · have := hH i hi
    show (if w = 4 then (upd (σ.2 12) p pr (H.getD i 0)).toNatClampNeg else w) = if w = 4 then (σ.2 12 (H.getD i 0)).toNatClampNeg else w
    rw [pk_un (by omega)]
section
variable {k : KT} {S T1 T : HS} {x n c q p : Nat} {ca pa na : Nat → Nat} {σ : MS}
/-- the new name itself -/
def NM0 (S : HS) (a : Nat) (σ : MS) (g : Nat) (sd ht le pr : Int32) : Prop := gK S a = 4 ∧ (gI S 96 a = nI g ∧ gI S 97 a = sd ∧ gI S 98 a = ht ∧ gI S 99 a = f_X7_acrossOf (σ.2 1) sd ht ∧ gI S 100 a = le ∧ gI S 101 a = pr) ∧ gI S 102 a = wyS (wyB (σ.1 2) (f_X7_acrossOf (σ.2 1) sd ht) le ht) 4 ∧ gI S 104 a = 0
theorem NM0.lf {a g b : Nat} {sd ht le pr : Int32} (h : NM0 S a σ g sd ht le pr) (hW : LW k S) (hF : LF b S T) : NM0 T a σ g sd ht le pr := by
  have e : ∀ f, f ≠ 0 ∧ f ≠ 2 → gI T f a = gI S f a := fun f hf => hF.2.2.2.1 f a (Or.inl hf)
  have ha := hW.2.1 a (by have := h.1; omega)
  unfold NM0
  rw [(hF.2.1 a ha).1, e 96 (by decide), e 97 (by decide), e 98 (by decide), e 99 (by decide), e 100 (by decide), e 101 (by decide), e 102 (by decide), e 104 (by decide)]; exact h
theorem CX.name {a g : Nat} {sd ht le pr : Int32} (h : CX k S x n c q p ca pa na σ) (hp : p < 60) (hg : g < n) (hlen : (hl σ p g).length < 6) (hc : cosOk (σ.2 1)) (hN : NM0 S a σ g sd ht le pr) (hfr : ∀ i, i < p → na i ≠ a) (hht : (-5400) ≤ ht ∧ ht ≤ 5400) (hle : 1 ≤ le.toInt ∧ le.toInt ≤ 20) (hpr : 1 ≤ pr.toInt ∧ pr.toInt ≤ 99) (hsd : -60 ≤ sd.toInt ∧ sd.toInt ≤ 60)
    (hA1 : AL k T1 (x + 2) ((List.range p).map na ++ [a])) (hW1 : LW k T1) (hF1 : LF (x + 2) S T1) (hA : AL k T (x + 9 + 3 * g) ((hl σ p g).map na ++ [a])) (hW : LW k T) (hF : LF (x + 9 + 3 * g) T1 T) : CX0 k T x n c q (p + 1) ca pa (va_up na p a) (nmA σ p (nI g) sd ht le pr) ∧ ∀ g2, g2 < n → g2 ≠ g → CBg T x (p + 1) (va_up na p a) (nmA σ p (nI g) sd ht le pr) g2 := by
  have hn := h.nb
  have hb1 : gK S (x + 2) = 1 := h.w.1.1
  have hb2 : gK T1 (x + 9 + 3 * g) = 1 := by rw [(hF1.2.1 _ (h.lw.2.1 _ (by rw [(h.w.2.2.2 g hg).1.1]; decide))).1]; exact (h.w.2.2.2 g hg).1.1
  have keep2 : ∀ b l, b ≠ x + 2 → b ≠ x + 9 + 3 * g → AL k S b l → AL k T b l := fun b l n1 n2 ha => (ha.keep h.lw hb1 hF1 n1).keep hW1 hb2 hF n2
  have hsm : ∀ g2, g2 < n → ∀ i, i < (hl σ p g2).length → (hl σ p g2).getD i 0 < p := fun g2 _ i hi => (hl_mem.mp (getD_mem hi)).1
  have hrow : ∀ (r : Nat → Int32) (v : Int32) (i : Nat), i < p → upd r p v i = r i := fun r v i hi => pk_un (by omega)
  have eI : ∀ f b, f ≠ 0 ∧ f ≠ 2 → gI T f b = gI S f b := fun f b hf => (hF.2.2.2.1 f b (Or.inl hf)).trans (hF1.2.2.2.1 f b (Or.inl hf))
  have hNT : NM0 T a σ g sd ht le pr := (hN.lf h.lw hF1).lf hW1 hF
  refine ⟨⟨⟨h.1.1, h.1.2.1, h.1.2.2.1, by omega, nI_1 p⟩, hW, (h.l.lf h.lw hF1).lf hW1 hF, (h.m.lf hF1).lf hF, CP.cg (σ := σ) rfl rfl ⟨keep2 _ _ (by omega) (by omega) h.cp.1, h.cp.2.1, CPe.lf (S := T1) (CPe.lf (S := S) h.cp.2.2 h.lw hF1) hW1 hF⟩, CQ.cg (σ := σ) rfl rfl rfl ⟨fun j hj => ((h.qq.1 j hj).lf h.lw hF1).lf hW1 hF, fun g2 h2 => keep2 _ _ (by omega) (by omega) (h.qq.2 g2 h2)⟩, ⟨by rw [rng_up]; exact hA1.keep hW1 hb2 hF (by omega), fun i j hi hj e => ?_, fun i hi => ?_, fun g2 h2 => ?_⟩⟩, fun g2 h2 ne => ?_⟩
  · by_cases ei : i = p
    · by_cases ej : j = p
      · omega
      · rw [ei, up_eq, up_ne ej] at e; exact absurd e.symm (hfr j (by omega))
    · by_cases ej : j = p
      · rw [ej, up_eq, up_ne ei] at e; exact absurd e (hfr i (by omega))
      · rw [up_ne ei, up_ne ej] at e; exact h.w.2.1 i j (by omega) (by omega) e
  · show gK T (va_up na p a i) = 4 ∧ (gI T 96 (va_up na p a i) = upd (σ.2 8) p (nI g) i ∧ gI T 97 (va_up na p a i) = upd (σ.2 9) p sd i ∧ gI T 98 (va_up na p a i) = upd (σ.2 10) p ht i ∧ gI T 99 (va_up na p a i) = f_X7_acrossOf (σ.2 1) (upd (σ.2 9) p sd i) (upd (σ.2 10) p ht i) ∧ gI T 100 (va_up na p a i) = upd (σ.2 11) p le i ∧ gI T 101 (va_up na p a i) = upd (σ.2 12) p pr i) ∧ (∀ w, w ≤ 4 → (f_X2_allows (gI T 102 (va_up na p a i)) (nI w) = 0 ↔ f_X7_canBe (σ.1 2) (σ.2 1) (upd (σ.2 9) p sd) (upd (σ.2 10) p ht) (upd (σ.2 11) p le) (nI i) (nI w) = 0)) ∧ gI T 104 (va_up na p a i) = (if upd (σ.2 7) p 1 i = 0 then 1 else 0) ∧ (∃ g3, g3 < n ∧ upd (σ.2 8) p (nI g) i = nI g3) ∧ (1 ≤ (upd (σ.2 11) p le i).toInt ∧ (upd (σ.2 11) p le i).toInt ≤ 20) ∧ (1 ≤ (upd (σ.2 12) p pr i).toInt ∧ (upd (σ.2 12) p pr i).toInt ≤ 99) ∧ (-60 ≤ (upd (σ.2 9) p sd i).toInt ∧ (upd (σ.2 9) p sd i).toInt ≤ 60)
    by_cases e : i = p
    · subst e
      simp only [up_eq, pk_us]
      obtain ⟨z1, z2, z3, z4⟩ := hNT
      refine ⟨z1, z2, fun w hw => ?_, z4, ⟨g, hg, rfl⟩, hle, hpr, hsd⟩
      rw [z3]
      by_cases e4 : w = 4
      · subst e4; rw [canBe4]; exact ⟨fun z => absurd z wy_4, fun z => absurd z (by decide)⟩
      · rw [wy_bit (by omega)]
        have hx := acr_rng hc hht.1 hht.2 hsd.1 hsd.2
        have hce := can_eq (cr := σ.2 1) (si := upd (σ.2 9) i sd) (hi := upd (σ.2 10) i ht) (le := upd (σ.2 11) i le) hc (wd := σ.1 2) (a := i) (w := w) (by omega) (by omega) (by rw [pk_us, pk_us]; exact hx) (by rw [pk_us]; exact hle)
        rw [pk_us, pk_us, pk_us] at hce
        exact hce
    · have hi2 : i < p := by omega
      have hNi := ((h.w.2.2.1 i hi2).lf h.lw hF1).lf hW1 hF
      obtain ⟨z1, z2, z3, z4⟩ := hNi
      rw [up_ne e]
      simp only [hrow _ _ i hi2]
      refine ⟨z1, z2, fun w hw => ?_, z4⟩
      rw [z3 w hw, can_cg (by omega) (hrow _ _ i hi2) (hrow _ _ i hi2) (hrow _ _ i hi2)]
  · rw [hl_nm (by omega) (by omega)]
    by_cases eg : g2 = g
    · subst eg
      rw [if_pos rfl, List.map_append, List.length_append]
      refine ⟨?_, by show _ + 1 ≤ 6; omega⟩
      rw [show List.map (va_up na p a) (hl σ p g2) = List.map na (hl σ p g2) from List.map_congr_left (fun i hi => up_ne (by have := (hl_mem.mp hi).1; omega))]
      show AL k T _ (_ ++ [va_up na p a p])
      rw [up_eq]; exact hA
    · rw [if_neg eg, List.append_nil, show List.map (va_up na p a) (hl σ p g2) = List.map na (hl σ p g2) from List.map_congr_left (fun i hi => up_ne (by have := (hl_mem.mp hi).1; omega))]
      exact ⟨keep2 _ _ (by omega) (by omega) (h.w.2.2.2 g2 h2).1, (h.w.2.2.2 g2 h2).2⟩
  · have hh : hl (nmA σ p (nI g) sd ht le pr) (p + 1) g2 = hl σ p g2 := by rw [hl_nm (by omega) (by omega), if_neg ne, List.append_nil]
    have hbst : bst (nmA σ p (nI g) sd ht le pr) (p + 1) g2 = bst σ p g2 := by
      unfold bst
      rw [hh]
      exact bstH_nm hp (hsm g2 h2)
    have hB := h.b g2 h2
    unfold CBg
    rw [hbst, hh]
    refine ⟨by rw [eI 66 _ (by decide)]; exact hB.1, fun j hj => ?_⟩
    have := hsm g2 h2 j hj
    rw [up_ne (by omega), eI 103 _ (by decide)]; exact hB.2 j hj
end
theorem cnt_names {σ : MS} {g : Nat} : ∀ (m j : Nat) (n : Int32), j + m < 2 ^ 31 → lp_X7_namesIn σ (nI g) m j n = n + nI ((List.range' j m).filter (fun i => decide (¬ σ.2 7 i = 0 ∧ σ.2 8 i = nI g))).length := by
  intro m
  induction m with
  | zero => intro j n _; rw [lp_X7_namesIn]; simp [nI_0]
  | succ m ih =>
    intro j n h
    rw [lp_X7_namesIn, List.range'_succ, List.filter_cons, nI_clamp (by omega)]
    by_cases c : σ.2 7 j = 0
    · rw [if_pos c, ih (j + 1) _ (by omega), if_neg (by simp [c]), Int32.add_zero]
    · rw [if_neg c]
      by_cases d : σ.2 8 j = nI g
      · rw [if_pos d, ih (j + 1) _ (by omega), if_pos (by simp [c, d]), List.length_cons, ← nI_1, Int32.add_assoc, Int32.add_comm 1]
      · rw [if_neg d, ih (j + 1) _ (by omega), if_neg (by simp [d]), Int32.add_zero]
theorem namesIn_eq {σ : MS} {p g : Nat} (hp : p ≤ 60) (h12 : σ.1 12 = nI p) : h_X7_namesIn σ (nI g) = nI (hl σ p g).length := by
  rw [h_X7_namesIn, h12, nI_clamp (by omega), cnt_names _ _ _ (by omega), hl, List.range_eq_range', Int32.zero_add]
set_option maxRecDepth 100000 in
theorem l_ways {k : KT} {S : HS} {x y : Nat} {wd nx le nh : Int32} (h0 : gK S x = 8) (h1 : gI S 224 x = wd) (h2 : gK S y = 4) (h3 : gI S 98 y = nh) (h4 : gI S 99 y = nx) (h5 : gI S 100 y = le) : ∀ (m j : Nat), j + m = 4 → X k (mt_X6_waysWithinEdges (rm 5 0 0)) (Zm k (mt_X6_waysWithinEdges (rm 5 0 0)) (Pu (wyS (wyB wd nx le nh) 4) S)) 5 [(0, .ref (x)), (1, .ref (y)), (2, .int (wyS (wyB wd nx le nh) (j))), (3, .int (nI (j)))] [] S 0 0 := by
  intro m
  induction m with
  | zero =>
    intro j hj
    refine x_iload_n 3 dX6_waysWithinEdges_5 rfl ?_
    refine x_iconst 4 dX6_waysWithinEdges_6 (by decide) ?_
    refine x_icmp_ge 54 dX6_waysWithinEdges_7 (by decide) (fun c1 => ?_) (fun c1 => ?_)
    · refine x_iload_n 2 dX6_waysWithinEdges_54 rfl ?_
      exact x_ireturn dX6_waysWithinEdges_55 rfl (Nat.le_of_ble_eq_true rfl) (Nat.le_of_ble_eq_true rfl) ⟨by rw [show j = 4 by omega], rfl⟩
    · exact absurd (show nI 4 ≤ nI j from nI_le (by omega) (by omega)) c1
  | succ m ih =>
    intro j hj
    refine x_iload_n 3 dX6_waysWithinEdges_5 rfl ?_
    refine x_iconst 4 dX6_waysWithinEdges_6 (by decide) ?_
    refine x_icmp_ge 54 dX6_waysWithinEdges_7 (by decide) (fun c1 => ?_) (fun c1 => ?_)
    · exact absurd c1 (show ¬ nI 4 ≤ nI j from nI_ge (by omega) (by decide))
    · refine x_aload_n 1 dX6_waysWithinEdges_10 rfl ?_
      refine x_iload_n 3 dX6_waysWithinEdges_11 rfl ?_
      refine ca_X6_283 [.int (nI j)] [] (c_X2_bottom (nh) (nI j) h2 h3) h2 rfl dX6_waysWithinEdges_12 rfl rfl ⟨(Nat.le_of_ble_eq_true rfl), (Nat.le_of_ble_eq_true rfl), (Nat.le_of_ble_eq_true rfl), (Nat.le_of_ble_eq_true rfl), (Nat.le_of_ble_eq_true rfl)⟩ (fun v T hq => ?_)
      obtain ⟨rfl, rfl⟩ := hq
      refine x_istore [(4, .int ((f_X2_bottom nh (nI j)))), (0, .ref (x)), (1, .ref (y)), (2, .int (wyS (wyB wd nx le nh) j)), (3, .int (nI j))] dX6_waysWithinEdges_15 (Nat.le_of_ble_eq_true rfl) rfl ?_
      refine x_aload_n 1 dX6_waysWithinEdges_17 rfl ?_
      refine x_aload_n 2 dX6_waysWithinEdges_18 rfl ?_
      refine x_iload_n 4 dX6_waysWithinEdges_19 rfl ?_
      refine x_iload 0 dX6_waysWithinEdges_20 rfl ?_
      refine ca_X6_286 [.ref (y), .int (nI j), .int ((f_X2_bottom nh (nI j)))] [] (c_X6_isWithinEdges (wd) (nx) (le) (nI j) ((f_X2_bottom nh (nI j))) h0 h1 h2 h4 h5) h0 rfl dX6_waysWithinEdges_22 rfl rfl ⟨(Nat.le_of_ble_eq_true rfl), (Nat.le_of_ble_eq_true rfl), (Nat.le_of_ble_eq_true rfl), (Nat.le_of_ble_eq_true rfl), (Nat.le_of_ble_eq_true rfl)⟩ (fun v T hq => ?_)
      obtain ⟨rfl, rfl⟩ := hq
      refine x_if_eq 48 dX6_waysWithinEdges_25 (by decide) (fun c2 => ?_) (fun c2 => ?_)
      · refine x_iinc 4 (nI j + 1) [(3, .int ((nI j + 1))), (4, .int ((f_X2_bottom nh (nI j)))), (0, .ref (x)), (1, .ref (y)), (2, .int (wyS (wyB wd nx le nh) j))] dX6_waysWithinEdges_48 rfl rfl (Nat.le_of_ble_eq_true rfl) rfl ?_
        refine x_goto 5 dX6_waysWithinEdges_51 (by decide) ?_
        have hst : wyS (wyB wd nx le nh) (j + 1) = wyS (wyB wd nx le nh) j := by rw [wyS, if_neg (fun z => (of_decide_eq_true z).1 c2)]
        refine x_lv [(0, .ref (x)), (1, .ref (y)), (2, .int (wyS (wyB wd nx le nh) (j + 1))), (3, .int (nI (j + 1)))] [2, 3, 4, 0] (by rw [← nI_1 j, hst]; rfl) ?_
        exact ih (j + 1) (by omega)
      · refine x_aload_n 1 dX6_waysWithinEdges_28 rfl ?_
        refine x_aload_n 2 dX6_waysWithinEdges_29 rfl ?_
        refine x_iload_n 4 dX6_waysWithinEdges_30 rfl ?_
        refine x_iload 0 dX6_waysWithinEdges_31 rfl ?_
        refine x_bipush 80 dX6_waysWithinEdges_33 (by decide) ?_
        refine x_iadd dX6_waysWithinEdges_35 ?_
        refine ca_X6_286 [.ref (y), .int (nI j), .int (((f_X2_bottom nh (nI j)) + 80))] [] (c_X6_isWithinEdges (wd) (nx) (le) (nI j) (((f_X2_bottom nh (nI j)) + 80)) h0 h1 h2 h4 h5) h0 rfl dX6_waysWithinEdges_36 rfl rfl ⟨(Nat.le_of_ble_eq_true rfl), (Nat.le_of_ble_eq_true rfl), (Nat.le_of_ble_eq_true rfl), (Nat.le_of_ble_eq_true rfl), (Nat.le_of_ble_eq_true rfl)⟩ (fun v T hq => ?_)
        obtain ⟨rfl, rfl⟩ := hq
        refine x_if_eq 48 dX6_waysWithinEdges_39 (by decide) (fun c3 => ?_) (fun c3 => ?_)
        · refine x_iinc 4 (nI j + 1) [(3, .int ((nI j + 1))), (4, .int ((f_X2_bottom nh (nI j)))), (0, .ref (x)), (1, .ref (y)), (2, .int (wyS (wyB wd nx le nh) j))] dX6_waysWithinEdges_48 rfl rfl (Nat.le_of_ble_eq_true rfl) rfl ?_
          refine x_goto 5 dX6_waysWithinEdges_51 (by decide) ?_
          have hst : wyS (wyB wd nx le nh) (j + 1) = wyS (wyB wd nx le nh) j := by rw [wyS, if_neg (fun z => (of_decide_eq_true z).2 c3)]
          refine x_lv [(0, .ref (x)), (1, .ref (y)), (2, .int (wyS (wyB wd nx le nh) (j + 1))), (3, .int (nI (j + 1)))] [2, 3, 4, 0] (by rw [← nI_1 j, hst]; rfl) ?_
          exact ih (j + 1) (by omega)
        · refine x_iload_n 3 dX6_waysWithinEdges_42 rfl ?_
          refine x_iconst 1 dX6_waysWithinEdges_43 (by decide) ?_
          refine x_iload_n 4 dX6_waysWithinEdges_44 rfl ?_
          refine x_ishl dX6_waysWithinEdges_45 ?_
          refine x_ior dX6_waysWithinEdges_46 ?_
          refine x_istore_n [(2, .int ((wyS (wyB wd nx le nh) j ||| (1 <<< (nI j &&& 31))))), (4, .int ((f_X2_bottom nh (nI j)))), (0, .ref (x)), (1, .ref (y)), (3, .int (nI j))] dX6_waysWithinEdges_47 (Nat.le_of_ble_eq_true rfl) rfl ?_
          refine x_iinc 4 (nI j + 1) [(3, .int ((nI j + 1))), (2, .int ((wyS (wyB wd nx le nh) j ||| (1 <<< (nI j &&& 31))))), (4, .int ((f_X2_bottom nh (nI j)))), (0, .ref (x)), (1, .ref (y))] dX6_waysWithinEdges_48 rfl rfl (Nat.le_of_ble_eq_true rfl) rfl ?_
          refine x_goto 5 dX6_waysWithinEdges_51 (by decide) ?_
          have hst : wyS (wyB wd nx le nh) (j + 1) = (wyS (wyB wd nx le nh) j ||| (1 <<< (nI j &&& 31))) := by rw [wyS, if_pos (show wyB wd nx le nh j = true from decide_eq_true ⟨c2, c3⟩)]
          refine x_lv [(0, .ref (x)), (1, .ref (y)), (2, .int (wyS (wyB wd nx le nh) (j + 1))), (3, .int (nI (j + 1)))] [3, 4, 1, 0] (by rw [← nI_1 j, hst]; rfl) ?_
          exact ih (j + 1) (by omega)
set_option maxRecDepth 100000 in
theorem c_ways {k : KT} {S : HS} {x y : Nat} {wd nx le nh : Int32} (h0 : gK S x = 8) (h1 : gI S 224 x = wd) (h2 : gK S y = 4) (h3 : gI S 98 y = nh) (h4 : gI S 99 y = nx) (h5 : gI S 100 y = le) : Ct k (mt_X6_waysWithinEdges (rm 5 0 0)) [.ref x, .ref y] S (Pu (wyS (wyB wd nx le nh) 4) S) := by
  refine Ct.ofF (by decide +kernel) (Nat.le_of_ble_eq_true rfl) ?_
  refine x_lv [(0, .ref (x)), (1, .ref (y))] [0, 1] rfl ?_
  refine x_bipush 16 dX6_waysWithinEdges_0 (by decide) ?_
  refine x_istore_n [(2, .int (16)), (0, .ref (x)), (1, .ref (y))] dX6_waysWithinEdges_2 (Nat.le_of_ble_eq_true rfl) rfl ?_
  refine x_iconst 0 dX6_waysWithinEdges_3 (by decide) ?_
  refine x_istore_n [(3, .int (0)), (2, .int (16)), (0, .ref (x)), (1, .ref (y))] dX6_waysWithinEdges_4 (Nat.le_of_ble_eq_true rfl) rfl ?_
  refine x_lv [(0, .ref (x)), (1, .ref (y)), (2, .int (wyS (wyB wd nx le nh) (0))), (3, .int (nI (0)))] [2, 3, 1, 0] rfl ?_
  exact l_ways h0 h1 h2 h3 h4 h5 4 0 (by omega)
