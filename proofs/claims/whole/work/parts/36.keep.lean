/-! KEEPING: T has what S has, and more -/
def EX (S T : HS) : Prop := gN S ≤ gN T ∧ ∀ a, a < gN S → gK T a = gK S a ∧ gL T a = gL S a ∧ gR T a = gR S a ∧ gQ T a = gQ S a ∧ (∀ f, gI T f a = gI S f a) ∧ ∀ f, gP T f a = gP S f a
theorem EX.rf {S : HS} : EX S S := ⟨Nat.le_refl _, fun _ _ => ⟨rfl, rfl, rfl, rfl, fun _ => rfl, fun _ => rfl⟩⟩
theorem EX.nO {S T : HS} (h : EX S T) (c : Nat) : EX S (nO T c) := ⟨by rw [gN_nO]; have := h.1; omega, fun a ha => by
  have h1 := h.1
  have q := h.2 a ha
  exact ⟨by rw [gK_nO, if_neg (by omega)]; exact q.1, q.2.1, q.2.2.1, q.2.2.2.1, fun f => by rw [gI_nO, if_neg (by omega)]; exact q.2.2.2.2.1 f, fun f => by rw [gP_nO, if_neg (by omega)]; exact q.2.2.2.2.2 f⟩⟩
theorem EX.nA {S T : HS} (h : EX S T) (kd n : Nat) : EX S (nA T kd n) := ⟨by rw [gN_nA]; have := h.1; omega, fun a ha => by
  have h1 := h.1
  have q := h.2 a ha
  exact ⟨by rw [gK_nA, if_neg (by omega)]; exact q.1, by rw [gL_nA, if_neg (by omega)]; exact q.2.1, by rw [gR_nA, if_neg (by omega)]; exact q.2.2.1, by rw [gQ_nA, if_neg (by omega)]; exact q.2.2.2.1, q.2.2.2.2.1, q.2.2.2.2.2⟩⟩
theorem EX.uI {S T : HS} (h : EX S T) {f a : Nat} {v : Int32} (ha : gN S ≤ a) : EX S (uI T f a v) := ⟨h.1, fun b hb => by
  have q := h.2 b hb
  exact ⟨q.1, q.2.1, q.2.2.1, q.2.2.2.1, fun g => by rw [gI_uI, if_neg (by omega)]; exact q.2.2.2.2.1 g, q.2.2.2.2.2⟩⟩
theorem EX.uP {S T : HS} (h : EX S T) {f a : Nat} {v : Option Nat} (ha : gN S ≤ a) : EX S (uP T f a v) := ⟨h.1, fun b hb => by
  have q := h.2 b hb
  exact ⟨q.1, q.2.1, q.2.2.1, q.2.2.2.1, q.2.2.2.2.1, fun g => by rw [gP_uP, if_neg (by omega)]; exact q.2.2.2.2.2 g⟩⟩
theorem EX.uQ {S T : HS} (h : EX S T) {a : Nat} {r : Nat → Option Nat} (ha : gN S ≤ a) : EX S (uQ T a r) := ⟨h.1, fun b hb => by
  have q := h.2 b hb
  exact ⟨q.1, q.2.1, q.2.2.1, by rw [gQ_uQ, if_neg (by omega)]; exact q.2.2.2.1, q.2.2.2.2.1, q.2.2.2.2.2⟩⟩
theorem EX.fx {x : Nat} {S T : HS} (h : EX S T) : FX x S T := ⟨h.1, fun a ha => ⟨(h.2 a ha).1, (h.2 a ha).2.1, fun _ _ => (h.2 a ha).2.2.1⟩, fun f a _ ha => ⟨(h.2 a ha).2.2.2.2.1 f, (h.2 a ha).2.2.2.2.2 f⟩⟩
theorem LW.nO {k : KT} {S : HS} (h : LW k S) (c : Nat) : LW k (nO S c) := by
  refine ⟨by rw [gN_nO]; have := h.1; omega, fun a ha => ?_, fun a b d ha hb ha2 hb2 => ?_, fun a d ha ha2 => ?_⟩
  · rw [gK_nO] at ha
    rw [gN_nO]
    by_cases e : a = gN S
    · omega
    · rw [if_neg e] at ha; have := h.2.1 a ha; omega
  · rw [gK_nO] at ha hb
    rw [gP_nO] at ha2 hb2
    by_cases e : a = gN S
    · rw [if_pos e] at ha2; exact absurd ha2 (by simp)
    · by_cases e2 : b = gN S
      · rw [if_pos e2] at hb2; exact absurd hb2 (by simp)
      · rw [if_neg e] at ha ha2; rw [if_neg e2] at hb hb2
        exact h.2.2.1 a b d ha hb ha2 hb2
  · rw [gK_nO] at ha
    rw [gP_nO] at ha2
    rw [gN_nO]
    by_cases e : a = gN S
    · rw [if_pos e] at ha2; exact absurd ha2 (by simp)
    · rw [if_neg e] at ha ha2
      have := h.2.2.2 a d ha ha2; omega
theorem LW.pI {k : KT} {S : HS} (h : LW k S) (f a : Nat) (v : Int32) : LW k (uI S f a v) := h
theorem LW.pR {k : KT} {S : HS} (h : LW k S) (a : Nat) (r : Nat → Int32) : LW k (uR S a r) := h
theorem AL.ex {k : KT} {S T : HS} {b : Nat} {l : List Nat} (h : AL k S b l) (hW : LW k S) (hE : EX S T) : AL k T b l := by
  obtain ⟨h1, h2, d, h3, h4⟩ := h
  have hb := hE.2 b (hW.2.1 b (by omega))
  have hd := hE.2 d (hW.2.2.2 b d h1 h3)
  refine ⟨by rw [hb.1]; exact h1, by rw [hb.2.2.2.2.1]; exact h2, d, by rw [hb.2.2.2.2.2]; exact h3, ?_⟩
  rcases h4 with h4 | ⟨h5, h6, h7, h7b, h8⟩
  · exact Or.inl h4
  · exact Or.inr ⟨h5, by rw [hd.1]; exact h6, by rw [hd.2.1]; exact h7, by rw [hd.2.1]; exact h7b, fun i hi => by rw [hd.2.2.2.1]; exact h8 i hi⟩
section
variable {k : KT} {S T : HS} {x n c q p : Nat} {ca pa na : Nat → Nat} {σ : MS}
theorem CL.ex (h : CL S x n) (hW : LW k S) (hE : EX S T) : CL T x n := by
  obtain ⟨a1, ⟨b1, b2, b3, b4⟩, ⟨c1, c2, c3⟩, ⟨d1, d2, d3, d4⟩, ⟨e1, e2⟩, h6⟩ := h
  have f0 := hE.2 x (hW.2.1 x (by omega))
  have f3 := hE.2 (x + 3) (hW.2.1 _ (by omega))
  have f4 := hE.2 (x + 4) (hW.2.1 _ (by omega))
  have f5 := hE.2 (x + 5) (hW.2.1 _ (by omega))
  have f6 := hE.2 (x + 6) (hW.2.1 _ (by omega))
  refine ⟨by rw [f0.1]; exact a1, ⟨by rw [f0.2.2.2.2.2]; exact b1, by rw [f0.2.2.2.2.2]; exact b2, by rw [f0.2.2.2.2.2]; exact b3, by rw [f0.2.2.2.2.2]; exact b4⟩, ⟨by rw [f3.1]; exact c1, by rw [f3.2.2.2.2.2]; exact c2, by rw [f3.2.2.2.2.2]; exact c3⟩, ⟨by rw [f4.1]; exact d1, by rw [f4.2.1]; exact d2, by rw [f5.1]; exact d3, by rw [f5.2.1]; exact d4⟩, ⟨by rw [f6.1]; exact e1, by rw [f6.2.1]; exact e2⟩, fun g hg => ?_⟩
  obtain ⟨g1, g2, g3, g4⟩ := h6 g hg
  have f7 := hE.2 (x + 7 + 3 * g) (hW.2.1 _ (by omega))
  exact ⟨by rw [f6.2.2.2.1]; exact g1, by rw [f7.1]; exact g2, by rw [f7.2.2.2.2.2]; exact g3, by rw [f7.2.2.2.2.2]; exact g4⟩
theorem CL.lf {b : Nat} (h : CL S x n) (hW : LW k S) (hE : LF b S T) : CL T x n := by
  obtain ⟨a1, ⟨b1, b2, b3, b4⟩, ⟨c1, c2, c3⟩, ⟨d1, d2, d3, d4⟩, ⟨e1, e2⟩, h6⟩ := h
  have f0 := hE.2.1 x (hW.2.1 x (by omega))
  have f3 := hE.2.1 (x + 3) (hW.2.1 _ (by omega))
  have f4 := hE.2.1 (x + 4) (hW.2.1 _ (by omega))
  have f5 := hE.2.1 (x + 5) (hW.2.1 _ (by omega))
  have f6 := hE.2.1 (x + 6) (hW.2.1 _ (by omega))
  have fp : ∀ f a, f ≠ 1 → gP T f a = gP S f a := fun f a hf => hE.2.2.2.2.1 f a (Or.inl hf)
  refine ⟨by rw [f0.1]; exact a1, ⟨by rw [fp _ _ (by decide)]; exact b1, by rw [fp _ _ (by decide)]; exact b2, by rw [fp _ _ (by decide)]; exact b3, by rw [fp _ _ (by decide)]; exact b4⟩, ⟨by rw [f3.1]; exact c1, by rw [fp _ _ (by decide)]; exact c2, by rw [fp _ _ (by decide)]; exact c3⟩, ⟨by rw [f4.1]; exact d1, by rw [f4.2.1]; exact d2, by rw [f5.1]; exact d3, by rw [f5.2.1]; exact d4⟩, ⟨by rw [f6.1]; exact e1, by rw [f6.2.1]; exact e2⟩, fun g hg => ?_⟩
  obtain ⟨g1, g2, g3, g4⟩ := h6 g hg
  have f7 := hE.2.1 (x + 7 + 3 * g) (hW.2.1 _ (by omega))
  exact ⟨by rw [hE.2.2.1 _ (hW.2.1 _ (by omega)) (Or.inr (by omega))]; exact g1, by rw [f7.1]; exact g2, by rw [fp _ _ (by decide)]; exact g3, by rw [fp _ _ (by decide)]; exact g4⟩
theorem CM.ex (h : CM S x n σ) (hL : CL S x n) (hW : LW k S) (hE : EX S T) : CM T x n σ := by
  have f0 := (hE.2 x (hW.2.1 x (by have := hL.1; omega))).2.2.2.2.1
  refine ⟨by rw [f0, f0, f0, f0, f0]; exact h.1, fun g hg => ?_⟩
  have f1 := (hE.2 (x + 7 + 3 * g) (hW.2.1 _ (by have := (hL.2.2.2.2.2 g hg).2.1; omega))).2.2.2.2.1
  rw [f1, f1]; exact h.2 g hg
theorem CM.lf {b : Nat} (h : CM S x n σ) (hE : LF b S T) : CM T x n σ := by
  have f0 : ∀ f a, f ≠ 0 ∧ f ≠ 2 → gI T f a = gI S f a := fun f a hf => hE.2.2.2.1 f a (Or.inl hf)
  refine ⟨by rw [f0 _ _ (by decide), f0 _ _ (by decide), f0 _ _ (by decide), f0 _ _ (by decide), f0 _ _ (by decide)]; exact h.1, fun g hg => ?_⟩
  rw [f0 _ _ (by decide), f0 _ _ (by decide)]; exact h.2 g hg
def CPe (S : HS) (c : Nat) (ca : Nat → Nat) (σ : MS) : Prop := ∀ i, i < c → gK S (ca i) = 2 ∧ gI S 32 (ca i) = σ.2 2 i ∧ σ.2 3 i = 60 * gI S 33 (ca i) ∧ -90 ≤ (gI S 33 (ca i)).toInt ∧ (gI S 33 (ca i)).toInt ≤ 90
theorem CPe.ex (h : CPe S c ca σ) (hW : LW k S) (hE : EX S T) : CPe T c ca σ := fun i hi => by
  have q := h i hi
  have f := hE.2 (ca i) (hW.2.1 _ (by omega))
  rw [f.1, f.2.2.2.2.1, f.2.2.2.2.1]; exact q
theorem CPe.lf {b : Nat} (h : CPe S c ca σ) (hW : LW k S) (hE : LF b S T) : CPe T c ca σ := fun i hi => by
  have q := h i hi
  have f := hE.2.1 (ca i) (hW.2.1 _ (by omega))
  rw [f.1, hE.2.2.2.1 _ _ (Or.inl (by decide)), hE.2.2.2.1 _ _ (Or.inl (by decide))]; exact q
theorem PMi.ex {a i : Nat} (h : PMi S a σ i n) (hW : LW k S) (hE : EX S T) : PMi T a σ i n := by
  have f := hE.2 a (hW.2.1 _ (by have := h.1; omega))
  unfold PMi
  rw [f.1, f.2.2.2.2.1, f.2.2.2.2.1, f.2.2.2.2.1, f.2.2.2.2.1, f.2.2.2.2.1]; exact h
theorem PMi.lf {a b i : Nat} (h : PMi S a σ i n) (hW : LW k S) (hE : LF b S T) : PMi T a σ i n := by
  have f := hE.2.1 a (hW.2.1 _ (by have := h.1; omega))
  have f0 : ∀ f a, f ≠ 0 ∧ f ≠ 2 → gI T f a = gI S f a := fun f a hf => hE.2.2.2.1 f a (Or.inl hf)
  unfold PMi
  rw [f.1, f0 _ _ (by decide), f0 _ _ (by decide), f0 _ _ (by decide), f0 _ _ (by decide), f0 _ _ (by decide)]; exact h
theorem NMi.ex {a i : Nat} (h : NMi S a σ i n) (hW : LW k S) (hE : EX S T) : NMi T a σ i n := by
  have f := hE.2 a (hW.2.1 _ (by have := h.1; omega))
  unfold NMi
  simp only [f.1, f.2.2.2.2.1]; exact h
theorem NMi.lf {a b i : Nat} (h : NMi S a σ i n) (hW : LW k S) (hE : LF b S T) : NMi T a σ i n := by
  have f := hE.2.1 a (hW.2.1 _ (by have := h.1; omega))
  have f0 : ∀ f a, f ≠ 0 ∧ f ≠ 2 → gI T f a = gI S f a := fun f a hf => hE.2.2.2.1 f a (Or.inl hf)
  unfold NMi
  rw [f.1, f0 96 _ (by decide), f0 97 _ (by decide), f0 98 _ (by decide), f0 99 _ (by decide), f0 100 _ (by decide), f0 101 _ (by decide), f0 102 _ (by decide), f0 104 _ (by decide)]; exact h
theorem CB.ex (h : CB S x n p na σ) (hL : CL S x n) (hN : ∀ i, i < p → NMi S (na i) σ i n) (hW : LW k S) (hE : EX S T) : CB T x n p na σ := fun g hg => by
  have q := h g hg
  refine ⟨?_, fun j hj => ?_⟩
  · rw [(hE.2 (x + 7 + 3 * g) (hW.2.1 _ (by have := (hL.2.2.2.2.2 g hg).2.1; omega))).2.2.2.2.1]; exact q.1
  · have hm : (hl σ p g).getD j 0 ∈ hl σ p g := by rw [List.getD_eq_getElem?_getD, List.getElem?_eq_getElem hj]; exact List.getElem_mem hj
    have hi := (hl_mem.mp hm).1
    rw [(hE.2 _ (hW.2.1 _ (by have := (hN _ hi).1; omega))).2.2.2.2.1]; exact q.2 j hj
theorem CB.lf {b : Nat} (h : CB S x n p na σ) (hE : LF b S T) : CB T x n p na σ := fun g hg => by
  have f0 : ∀ f a, f ≠ 0 ∧ f ≠ 2 → gI T f a = gI S f a := fun f a hf => hE.2.2.2.1 f a (Or.inl hf)
  rw [f0 _ _ (by decide)]
  exact ⟨(h g hg).1, fun j hj => by rw [f0 _ _ (by decide)]; exact (h g hg).2 j hj⟩
theorem CX.ex (h : CX k S x n c q p ca pa na σ) (hE : EX S T) (hT : LW k T) : CX k T x n c q p ca pa na σ := by
  have hW := h.lw
  refine ⟨h.1, hT, h.l.ex hW hE, h.m.ex h.l hW hE, ⟨h.cp.1.ex hW hE, h.cp.2.1, CPe.ex (S := S) h.cp.2.2 hW hE⟩, ⟨fun i hi => (h.qq.1 i hi).ex hW hE, fun g hg => (h.qq.2 g hg).ex hW hE⟩, ⟨h.w.1.ex hW hE, h.w.2.1, fun i hi => (h.w.2.2.1 i hi).ex hW hE, fun g hg => ⟨(h.w.2.2.2 g hg).1.ex hW hE, (h.w.2.2.2 g hg).2⟩⟩, h.b.ex h.l h.w.2.2.1 hW hE⟩
end
theorem hl_cg {σ τ : MS} (h7 : τ.2 7 = σ.2 7) (h8 : τ.2 8 = σ.2 8) (p g : Nat) : hl τ p g = hl σ p g := by unfold hl; rw [h7, h8]
theorem bst_cg {σ τ : MS} (h0 : τ.1 2 = σ.1 2) (h1 : τ.2 1 = σ.2 1) (h7 : τ.2 7 = σ.2 7) (h8 : τ.2 8 = σ.2 8) (h9 : τ.2 9 = σ.2 9) (h10 : τ.2 10 = σ.2 10) (h11 : τ.2 11 = σ.2 11) (h12 : τ.2 12 = σ.2 12) (p g : Nat) : bst τ p g = bst σ p g := by
  have e1 : bOk τ = bOk σ := by unfold bOk; rw [h0, h1, h9, h10, h11]
  have e2 : bAp τ = bAp σ := by unfold bAp; rw [h1, h9, h10, h11]
  have e3 : bCs τ = bCs σ := by unfold bCs; rw [h12]
  unfold bst bstH
  rw [e1, e2, e3, hl_cg h7 h8]
/-- the numbers of the names, the width and the cosines are the same -/
def NE (σ τ : MS) : Prop := τ.1 2 = σ.1 2 ∧ τ.2 1 = σ.2 1 ∧ τ.2 7 = σ.2 7 ∧ τ.2 8 = σ.2 8 ∧ τ.2 9 = σ.2 9 ∧ τ.2 10 = σ.2 10 ∧ τ.2 11 = σ.2 11 ∧ τ.2 12 = σ.2 12
section
variable {k : KT} {S T : HS} {x n c q p : Nat} {ca pa na : Nat → Nat} {σ τ : MS}
theorem NMi.cg {a i : Nat} (e : NE σ τ) (h : NMi S a σ i n) : NMi S a τ i n := by
  obtain ⟨e0, e1, e7, e8, e9, e10, e11, e12⟩ := e
  unfold NMi
  rw [e0, e1, e7, e8, e9, e10, e11, e12]; exact h
theorem CW.cg (e : NE σ τ) (h : CW k S x n p na σ) : CW k S x n p na τ :=
  ⟨h.1, h.2.1, fun i hi => (h.2.2.1 i hi).cg e, fun g hg => by rw [hl_cg e.2.2.1 e.2.2.2.1]; exact h.2.2.2 g hg⟩
theorem CB.cg (e : NE σ τ) (h : CB S x n p na σ) : CB S x n p na τ := fun g hg => by
  rw [hl_cg e.2.2.1 e.2.2.2.1, bst_cg e.1 e.2.1 e.2.2.1 e.2.2.2.1 e.2.2.2.2.1 e.2.2.2.2.2.1 e.2.2.2.2.2.2.1 e.2.2.2.2.2.2.2]; exact h g hg
theorem CQ.cg (e4 : τ.2 4 = σ.2 4) (e5 : τ.2 5 = σ.2 5) (e6 : τ.2 6 = σ.2 6) (h : CQ k S x n q pa σ) : CQ k S x n q pa τ := by
  unfold CQ PMi pl
  rw [e4, e5, e6]; exact h
theorem CP.cg (e2 : τ.2 2 = σ.2 2) (e3 : τ.2 3 = σ.2 3) (h : CP k S x c ca σ) : CP k S x c ca τ := by
  unfold CP
  rw [e2, e3]; exact h
end
