/-! THE SEARCH as numbers: digits, good ways, cost, the best of a run of numbers -/
def dgt (c s i : Nat) : Nat := s / 5 ^ (c - 1 - i) % 5
def sGd (ok : Nat → Nat → Bool) (ap : Nat → Nat → Nat → Nat → Bool) (W : Nat → Nat) (c : Nat) : Bool := (List.range c).all (fun i => ok i (W i) && (List.range i).all (fun j => ap i (W i) j (W j)))
def sCo (cst : Nat → Nat → Nat) (W : Nat → Nat) : Nat → Nat
  | 0 => 0
  | i + 1 => sCo cst W i + cst i (W i)
def sSt (ok : Nat → Nat → Bool) (ap : Nat → Nat → Nat → Nat → Bool) (cst : Nat → Nat → Nat) (c : Nat) (a : Nat × (Nat → Nat)) (s : Nat) : Nat × (Nat → Nat) := if sGd ok ap (dgt c s) c = true ∧ sCo cst (dgt c s) c < a.1 then (sCo cst (dgt c s) c, dgt c s) else a
def sRn (ok : Nat → Nat → Bool) (ap : Nat → Nat → Nat → Nat → Bool) (cst : Nat → Nat → Nat) (c : Nat) : Nat → Nat → Nat × (Nat → Nat) → Nat × (Nat → Nat)
  | 0, _, a => a
  | m + 1, s, a => sRn ok ap cst c m (s + 1) (sSt ok ap cst c a s)
/-- the names of the gore g that are there, by their numbers; the pieces of the gore g -/
def hl (σ : MS) (p g : Nat) : List Nat := (List.range p).filter (fun i => decide (¬ σ.2 7 i = 0 ∧ σ.2 8 i = nI g))
def pl (σ : MS) (q g : Nat) : List Nat := (List.range q).filter (fun i => decide (σ.2 4 i = nI g))
def bOk (σ : MS) (H : List Nat) (i w : Nat) : Bool := decide (¬ f_X7_canBe (σ.1 2) (σ.2 1) (σ.2 9) (σ.2 10) (σ.2 11) (nI (H.getD i 0)) (nI w) = 0)
def bAp (σ : MS) (H : List Nat) (i w j v : Nat) : Bool := decide (¬ f_X7_areApart (σ.2 1) (σ.2 9) (σ.2 10) (σ.2 11) (nI (H.getD i 0)) (nI w) (nI (H.getD j 0)) (nI v) = 0)
def bCs (σ : MS) (H : List Nat) (i w : Nat) : Nat := if w = 4 then (σ.2 12 (H.getD i 0)).toNatClampNeg else w
def bstH (σ : MS) (H : List Nat) : Nat × (Nat → Nat) := sRn (bOk σ H) (bAp σ H) (bCs σ H) H.length (5 ^ H.length) 0 (595, fun _ => 0)
def bst (σ : MS) (p g : Nat) : Nat × (Nat → Nat) := bstH σ (hl σ p g)
/-! THE CLASS'S STATE: the object x, its lists x + 1 (coasts) and x + 2 (names), the search x + 3 with its rows x + 4 and x + 5, the row of gores x + 6, the gore g at x + 7 + 3 g with its lists -/
def CL (S : HS) (x n : Nat) : Prop := gK S x = 8 ∧ (gP S 225 x = some (x + 6) ∧ gP S 226 x = some (x + 1) ∧ gP S 227 x = some (x + 2) ∧ gP S 228 x = some (x + 3)) ∧ (gK S (x + 3) = 6 ∧ gP S 160 (x + 3) = some (x + 4) ∧ gP S 161 (x + 3) = some (x + 5)) ∧ (gK S (x + 4) = 20 ∧ gL S (x + 4) = 6 ∧ gK S (x + 5) = 20 ∧ gL S (x + 5) = 6) ∧ (gK S (x + 6) = 22 ∧ gL S (x + 6) = n) ∧ ∀ g, g < n → gQ S (x + 6) g = some (x + 7 + 3 * g) ∧ gK S (x + 7 + 3 * g) = 3 ∧ gP S 64 (x + 7 + 3 * g) = some (x + 8 + 3 * g) ∧ gP S 65 (x + 7 + 3 * g) = some (x + 9 + 3 * g)
def CM (S : HS) (x n : Nat) (σ : MS) : Prop := (gI S 224 x = σ.1 2 ∧ gI S 229 x = σ.1 6 ∧ gI S 230 x = σ.1 10 ∧ gI S 231 x = σ.1 11 ∧ gI S 232 x = σ.1 21) ∧ ∀ g, g < n → gI S 67 (x + 7 + 3 * g) = σ.2 13 g ∧ gI S 68 (x + 7 + 3 * g) = σ.2 14 g
def CP (k : KT) (S : HS) (x c : Nat) (ca : Nat → Nat) (σ : MS) : Prop := AL k S (x + 1) ((List.range c).map ca) ∧ (∀ i j, i < c → j < c → ca i = ca j → i = j) ∧ ∀ i, i < c → gK S (ca i) = 2 ∧ gI S 32 (ca i) = σ.2 2 i ∧ σ.2 3 i = 60 * gI S 33 (ca i) ∧ -90 ≤ (gI S 33 (ca i)).toInt ∧ (gI S 33 (ca i)).toInt ≤ 90
def PMi (S : HS) (a : Nat) (σ : MS) (i n : Nat) : Prop := gK S a = 5 ∧ (gI S 128 a = σ.2 5 i ∧ gI S 129 a = σ.2 6 (4 * i) ∧ gI S 130 a = σ.2 6 (4 * i + 1) ∧ gI S 131 a = σ.2 6 (4 * i + 2) ∧ gI S 132 a = σ.2 6 (4 * i + 3)) ∧ ∃ g, g < n ∧ σ.2 4 i = nI g
def CQ (k : KT) (S : HS) (x n q : Nat) (pa : Nat → Nat) (σ : MS) : Prop := (∀ i, i < q → PMi S (pa i) σ i n) ∧ ∀ g, g < n → AL k S (x + 8 + 3 * g) ((pl σ q g).map pa)
def NMi (S : HS) (a : Nat) (σ : MS) (i n : Nat) : Prop := gK S a = 4 ∧ (gI S 96 a = σ.2 8 i ∧ gI S 97 a = σ.2 9 i ∧ gI S 98 a = σ.2 10 i ∧ gI S 99 a = f_X7_acrossOf (σ.2 1) (σ.2 9 i) (σ.2 10 i) ∧ gI S 100 a = σ.2 11 i ∧ gI S 101 a = σ.2 12 i) ∧ (∀ w, w ≤ 4 → (f_X2_allows (gI S 102 a) (nI w) = 0 ↔ f_X7_canBe (σ.1 2) (σ.2 1) (σ.2 9) (σ.2 10) (σ.2 11) (nI i) (nI w) = 0)) ∧ gI S 104 a = (if σ.2 7 i = 0 then 1 else 0) ∧ (∃ g, g < n ∧ σ.2 8 i = nI g) ∧ (1 ≤ (σ.2 11 i).toInt ∧ (σ.2 11 i).toInt ≤ 20) ∧ (1 ≤ (σ.2 12 i).toInt ∧ (σ.2 12 i).toInt ≤ 99) ∧ (-60 ≤ (σ.2 9 i).toInt ∧ (σ.2 9 i).toInt ≤ 60)
def CW (k : KT) (S : HS) (x n p : Nat) (na : Nat → Nat) (σ : MS) : Prop := AL k S (x + 2) ((List.range p).map na) ∧ (∀ i j, i < p → j < p → na i = na j → i = j) ∧ (∀ i, i < p → NMi S (na i) σ i n) ∧ ∀ g, g < n → AL k S (x + 9 + 3 * g) ((hl σ p g).map na) ∧ (hl σ p g).length ≤ 6
def CB (S : HS) (x n p : Nat) (na : Nat → Nat) (σ : MS) : Prop := ∀ g, g < n → gI S 66 (x + 7 + 3 * g) = nI (bst σ p g).1 ∧ ∀ j, j < (hl σ p g).length → gI S 103 (na ((hl σ p g).getD j 0)) = nI ((bst σ p g).2 j)
def CX (k : KT) (S : HS) (x n c q p : Nat) (ca pa na : Nat → Nat) (σ : MS) : Prop := ((n ∈ [6, 8, 9, 10, 12, 15, 18, 20, 24] ∧ σ.1 1 = nI n) ∧ (c ≤ 30 ∧ σ.1 3 = nI c) ∧ (q ≤ 600 ∧ σ.1 6 = nI q) ∧ (p ≤ 60 ∧ σ.1 12 = nI p)) ∧ LW k S ∧ CL S x n ∧ CM S x n σ ∧ CP k S x c ca σ ∧ CQ k S x n q pa σ ∧ CW k S x n p na σ ∧ CB S x n p na σ
def CI (k : KT) (S : HS) (x : Nat) (σ : MS) : Prop := ∃ (n c q p : Nat) (ca pa na : Nat → Nat), CX k S x n c q p ca pa na σ
/-- what a call of the class leaves of all else: addresses that are there keep kind and length, rows but the search's two, and all fields from 256 on -/
def FX (x : Nat) (S T : HS) : Prop := gN S ≤ gN T ∧ (∀ a, a < gN S → gK T a = gK S a ∧ gL T a = gL S a ∧ (a ≠ x + 4 → a ≠ x + 5 → gR T a = gR S a)) ∧ ∀ f a, 256 ≤ f → a < gN S → gI T f a = gI S f a ∧ gP T f a = gP S f a
theorem FX.rf {x : Nat} {S : HS} : FX x S S := ⟨Nat.le_refl _, fun _ _ => ⟨rfl, rfl, fun _ _ => rfl⟩, fun _ _ _ _ => ⟨rfl, rfl⟩⟩
theorem FX.tr {x : Nat} {S T U : HS} (h1 : FX x S T) (h2 : FX x T U) : FX x S U :=
  ⟨Nat.le_trans h1.1 h2.1, fun a ha => ⟨(h2.2.1 a (Nat.lt_of_lt_of_le ha h1.1)).1.trans (h1.2.1 a ha).1, (h2.2.1 a (Nat.lt_of_lt_of_le ha h1.1)).2.1.trans (h1.2.1 a ha).2.1, fun q1 q2 => ((h2.2.1 a (Nat.lt_of_lt_of_le ha h1.1)).2.2 q1 q2).trans ((h1.2.1 a ha).2.2 q1 q2)⟩, fun f a hf ha => ⟨(h2.2.2 f a hf (Nat.lt_of_lt_of_le ha h1.1)).1.trans (h1.2.2 f a hf ha).1, (h2.2.2 f a hf (Nat.lt_of_lt_of_le ha h1.1)).2.trans (h1.2.2 f a hf ha).2⟩⟩
theorem FX.lf {x a : Nat} {S T : HS} (h : LF a S T) : FX x S T := ⟨h.1, fun b hb => ⟨(h.2.1 b hb).1, (h.2.1 b hb).2.1, fun _ _ => (h.2.1 b hb).2.2⟩, fun f b hf _ => ⟨h.2.2.2.1 f b (Or.inl (by omega)), h.2.2.2.2.1 f b (Or.inl (by omega))⟩⟩
theorem FX.pI {x f a : Nat} {S : HS} {v : Int32} (hf : f < 256) : FX x S (uI S f a v) := ⟨Nat.le_refl _, fun _ _ => ⟨rfl, rfl, fun _ _ => rfl⟩, fun g b hg _ => ⟨by rw [gI_uI, if_neg (by omega)], rfl⟩⟩
theorem FX.pP {x f a : Nat} {S : HS} {v : Option Nat} (hf : f < 256) : FX x S (uP S f a v) := ⟨Nat.le_refl _, fun _ _ => ⟨rfl, rfl, fun _ _ => rfl⟩, fun g b hg _ => ⟨rfl, by rw [gP_uP, if_neg (by omega)]⟩⟩
theorem FX.nO {x c : Nat} {S : HS} : FX x S (nO S c) := ⟨by rw [gN_nO]; omega, fun a ha => ⟨by rw [gK_nO, if_neg (by omega)], rfl, fun _ _ => rfl⟩, fun f a _ ha => ⟨by rw [gI_nO, if_neg (by omega)], by rw [gP_nO, if_neg (by omega)]⟩⟩
theorem FX.pR {x a : Nat} {S : HS} {r : Nat → Int32} (h : a = x + 4 ∨ a = x + 5) : FX x S (uR S a r) := ⟨Nat.le_refl _, fun b _ => ⟨rfl, rfl, fun q1 q2 => by rw [gR_uR, if_neg (by omega)]⟩, fun _ _ _ _ => ⟨rfl, rfl⟩⟩
theorem MI.fx {x o : Nat} {S T : HS} {σ : MS} (h : MI S o σ) (hF : FX x S T) (h1 : o + 18 ≤ gN S) (h2 : x + 5 < o) : MI T o σ := by
  obtain ⟨⟨a1, a2⟩, a3, a4⟩ := h
  refine ⟨⟨by rw [(hF.2.1 o (by omega)).1]; exact a1, fun q hq => ?_⟩, fun j hj => by rw [(hF.2.2 _ o (by omega) (by omega)).1]; exact a3 j hj, fun a ha => by rw [(hF.2.1 _ (by omega)).2.2 (by omega) (by omega)]; exact a4 a ha⟩
  have hb : q.2.1 < 18 := by
    simp only [mhT, List.mem_cons, List.not_mem_nil, or_false] at hq
    rcases hq with h | h | h | h | h | h | h | h | h | h | h | h | h | h | h | h | h <;> subst h <;> decide
  exact ⟨by rw [(hF.2.2 _ o (by omega) (by omega)).2]; exact (a2 q hq).1, by rw [(hF.2.1 _ (by omega)).1]; exact (a2 q hq).2.1, by rw [(hF.2.1 _ (by omega)).2.1]; exact (a2 q hq).2.2⟩
section
variable {k : KT} {S : HS} {x n c q p : Nat} {ca pa na : Nat → Nat} {σ : MS}
theorem CX.nn (h : CX k S x n c q p ca pa na σ) : n ∈ [6, 8, 9, 10, 12, 15, 18, 20, 24] := h.1.1.1
theorem CX.n1 (h : CX k S x n c q p ca pa na σ) : σ.1 1 = nI n := h.1.1.2
theorem CX.nb (h : CX k S x n c q p ca pa na σ) : 6 ≤ n ∧ n ≤ 24 := gor_le h.nn
theorem CX.c1 (h : CX k S x n c q p ca pa na σ) : c ≤ 30 ∧ σ.1 3 = nI c := h.1.2.1
theorem CX.q1 (h : CX k S x n c q p ca pa na σ) : q ≤ 600 ∧ σ.1 6 = nI q := h.1.2.2.1
theorem CX.p1 (h : CX k S x n c q p ca pa na σ) : p ≤ 60 ∧ σ.1 12 = nI p := h.1.2.2.2
theorem CX.lw (h : CX k S x n c q p ca pa na σ) : LW k S := h.2.1
theorem CX.l (h : CX k S x n c q p ca pa na σ) : CL S x n := h.2.2.1
theorem CX.m (h : CX k S x n c q p ca pa na σ) : CM S x n σ := h.2.2.2.1
theorem CX.cp (h : CX k S x n c q p ca pa na σ) : CP k S x c ca σ := h.2.2.2.2.1
theorem CX.qq (h : CX k S x n c q p ca pa na σ) : CQ k S x n q pa σ := h.2.2.2.2.2.1
theorem CX.w (h : CX k S x n c q p ca pa na σ) : CW k S x n p na σ := h.2.2.2.2.2.2.1
theorem CX.b (h : CX k S x n c q p ca pa na σ) : CB S x n p na σ := h.2.2.2.2.2.2.2
theorem CX.wd (h : CX k S x n c q p ca pa na σ) : gI S 224 x = σ.1 2 := h.m.1.1
end
theorem gore_cases {n : Nat} (hn : n ≤ 24) (h6 : 0 < n) (g : Int32) : (f_X7_isGore (nI n) g = 0 ∧ (g < 0 ∨ nI n ≤ g)) ∨ ∃ g' : Nat, g' < n ∧ g = nI g' ∧ ¬ f_X7_isGore (nI n) g = 0 := by
  have e : nI n - 1 = nI (n - 1) := by rw [show n = n - 1 + 1 by omega, nI_pred]; rfl
  have hz : (0 : Int32).toInt = 0 := rfl
  have hn1 := nI_toInt (n := n - 1) (by omega)
  have hn2 := nI_toInt (n := n) (by omega)
  unfold f_X7_isGore f_X7_in
  rw [e]
  by_cases c1 : g < 0
  · exact Or.inl ⟨if_pos c1, Or.inl c1⟩
  · by_cases c2 : nI (n - 1) < g
    · refine Or.inl ⟨by rw [if_neg c1, if_pos c2], Or.inr ?_⟩
      rw [t_lt] at c2; rw [t_le]; omega
    · refine Or.inr ?_
      obtain ⟨j, hj, ej⟩ := nI_of c1
      refine ⟨j, ?_, ej, by rw [if_neg c1, if_neg c2]; decide⟩
      rw [t_lt, ej, nI_toInt hj] at c2
      omega
theorem name_cases {p : Nat} (hp : p ≤ 60) (th : Nat → Int32) (i : Int32) : (f_X7_isName (nI p) th i = 0 ∧ (i < 0 ∨ nI p ≤ i)) ∨ ∃ i' : Nat, i' < p ∧ i = nI i' ∧ (f_X7_isName (nI p) th i = 0 ↔ th i' = 0) := by
  unfold f_X7_isName
  rcases Nat.eq_zero_or_pos p with h0 | h0
  · subst h0
    refine Or.inl ⟨?_, ?_⟩
    · rw [if_pos]; unfold f_X7_in
      by_cases c1 : i < 0
      · rw [if_pos c1]
      · rw [if_neg c1, if_pos]
        rw [t_lt, show (0 : Int32).toInt = 0 from rfl] at c1
        rw [t_lt, show (nI 0 - 1).toInt = -1 from rfl]; omega
    · by_cases c1 : i < 0
      · exact Or.inl c1
      · exact Or.inr (Int32.not_lt.mp c1)
  · have e : nI p - 1 = nI (p - 1) := by rw [show p = p - 1 + 1 by omega, nI_pred]; rfl
    have hn1 := nI_toInt (n := p - 1) (by omega)
    have hn2 := nI_toInt (n := p) (by omega)
    rw [e]
    by_cases c1 : i < 0
    · exact Or.inl ⟨by rw [if_pos]; unfold f_X7_in; rw [if_pos c1], Or.inl c1⟩
    · by_cases c2 : nI (p - 1) < i
      · refine Or.inl ⟨by rw [if_pos]; unfold f_X7_in; rw [if_neg c1, if_pos c2], Or.inr ?_⟩
        rw [t_lt] at c2; rw [t_le]; omega
      · refine Or.inr ?_
        obtain ⟨j, hj, ej⟩ := nI_of c1
        refine ⟨j, ?_, ej, ?_⟩
        · rw [t_lt, ej, nI_toInt hj] at c2
          omega
        · rw [if_neg (by unfold f_X7_in; rw [if_neg c1, if_neg c2]; decide), ej, nI_clamp hj]
          by_cases c3 : th j = 0
          · simp [c3]
          · simp [c3]
