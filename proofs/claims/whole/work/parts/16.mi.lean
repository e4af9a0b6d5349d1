/-! THE REFERENCE'S STATE as numbers: its int fields by their place, its rows by their place behind the object. Rows 15, 16, 17 and field 25 (bestCost) are the scratch of sets. -/
abbrev MS : Type := (Nat → Int32) × (Nat → Nat → Int32)
def fI (σ : MS) (j : Nat) (v : Int32) : MS := (fun j' => if j' = j then v else σ.1 j', σ.2)
def fR (σ : MS) (a : Nat) (r : Nat → Int32) : MS := (σ.1, fun a' => if a' = a then r else σ.2 a')
def MI (S : HS) (o : Nat) (σ : MS) : Prop := MH S o ∧ (∀ j, j < 25 → gI S (256 + j) o = σ.1 j) ∧ ∀ a, a < 15 → gR S (o + a) = σ.2 a
/-- what the reference's methods leave as it was -/
def FM (o : Nat) (S T : HS) : Prop := (∀ a, gK T a = gK S a) ∧ (∀ f a, f < 256 → gI T f a = gI S f a) ∧ (∀ f a, gP T f a = gP S f a) ∧ (∀ a, gL T a = gL S a) ∧ (∀ a, (a ≤ o ∨ o + 18 ≤ a) → gR T a = gR S a) ∧ (∀ a, gQ T a = gQ S a) ∧ gN T = gN S
theorem FM.rf {o : Nat} {S : HS} : FM o S S := ⟨fun _ => rfl, fun _ _ _ => rfl, fun _ _ => rfl, fun _ => rfl, fun _ _ => rfl, fun _ => rfl, rfl⟩
theorem FM.tr {o : Nat} {S T U : HS} (h1 : FM o S T) (h2 : FM o T U) : FM o S U :=
  ⟨fun a => (h2.1 a).trans (h1.1 a), fun f a h => (h2.2.1 f a h).trans (h1.2.1 f a h), fun f a => (h2.2.2.1 f a).trans (h1.2.2.1 f a), fun a => (h2.2.2.2.1 a).trans (h1.2.2.2.1 a), fun a h => (h2.2.2.2.2.1 a h).trans (h1.2.2.2.2.1 a h), fun a => (h2.2.2.2.2.2.1 a).trans (h1.2.2.2.2.2.1 a), h2.2.2.2.2.2.2.trans h1.2.2.2.2.2.2⟩
theorem FM.pI {o : Nat} {S T : HS} (h : FM o S T) {f a : Nat} (v : Int32) (hf : 256 ≤ f) : FM o S (uI T f a v) :=
  ⟨h.1, fun g b hg => by rw [gI_uI, if_neg (fun q => by omega)]; exact h.2.1 g b hg, h.2.2.1, h.2.2.2.1, h.2.2.2.2.1, h.2.2.2.2.2.1, h.2.2.2.2.2.2⟩
theorem FM.pR {o : Nat} {S T : HS} (h : FM o S T) {a : Nat} (r : Nat → Int32) (h1 : o < a) (h2 : a < o + 18) : FM o S (uR T a r) :=
  ⟨h.1, h.2.1, h.2.2.1, h.2.2.2.1, fun b hb => by rw [gR_uR, if_neg (by omega)]; exact h.2.2.2.2.1 b hb, h.2.2.2.2.2.1, h.2.2.2.2.2.2⟩
theorem FM.mh {o : Nat} {S T : HS} (h : FM o S T) (hM : MH S o) : MH T o :=
  ⟨by rw [h.1]; exact hM.1, fun q hq => ⟨by rw [h.2.2.1]; exact (hM.2 q hq).1, by rw [h.1]; exact (hM.2 q hq).2.1, by rw [h.2.2.2.1]; exact (hM.2 q hq).2.2⟩⟩
theorem MI.i {S : HS} {o : Nat} {σ : MS} (h : MI S o σ) (j : Nat) (hj : j < 25) : gI S (256 + j) o = σ.1 j := h.2.1 j hj
theorem MI.r {S : HS} {o : Nat} {σ : MS} (h : MI S o σ) (a : Nat) (ha : a < 15) : gR S (o + a) = σ.2 a := h.2.2 a ha
theorem MI.pI {S : HS} {o : Nat} {σ : MS} (h : MI S o σ) (j : Nat) (v : Int32) : MI (uI S (256 + j) o v) o (fI σ j v) := by
  refine ⟨h.1, fun i hi => ?_, h.2.2⟩
  rw [gI_uI]
  by_cases e : i = j
  · subst e; simp [fI]
  · rw [if_neg (fun q => e (by omega))]; simp only [fI, if_neg e]; exact h.2.1 i hi
theorem MI.pR {S : HS} {o : Nat} {σ : MS} (h : MI S o σ) (a : Nat) (r : Nat → Int32) : MI (uR S (o + a) r) o (fR σ a r) := by
  refine ⟨h.1, h.2.1, fun b hb => ?_⟩
  rw [gR_uR]
  by_cases e : b = a
  · subst e; simp [fR]
  · rw [if_neg (fun q => e (by omega))]; simp only [fR, if_neg e]; exact h.2.2 b hb
/-- scratch: rows 15 .. 17 and field 25 -/
theorem MI.sR {S : HS} {o : Nat} {σ : MS} (h : MI S o σ) (a : Nat) (r : Nat → Int32) (ha : 15 ≤ a) : MI (uR S (o + a) r) o σ := by
  refine ⟨h.1, h.2.1, fun b hb => ?_⟩
  rw [gR_uR, if_neg (by omega)]; exact h.2.2 b hb
theorem MI.sI {S : HS} {o : Nat} {σ : MS} (h : MI S o σ) (v : Int32) : MI (uI S 281 o v) o σ := by
  refine ⟨h.1, fun i hi => ?_, h.2.2⟩
  rw [gI_uI, if_neg (by omega)]; exact h.2.1 i hi
/-- a method's end over the reference: a number and the state's numbers -/
abbrev Pm (o : Nat) (S : HS) (r : Int32 × MS) : Option Value → HS → Prop := fun v T => v = some (.int r.1) ∧ MI T o r.2 ∧ FM o S T
abbrev Pv (o : Nat) (S : HS) (σ : MS) : Option Value → HS → Prop := fun v T => v = none ∧ MI T o σ ∧ FM o S T
/-- the ranges of the numbers that stand in the state -/
def okS (σ : MS) : Prop :=
  ((∃ n : Nat, n ∈ [6, 8, 9, 10, 12, 15, 18, 20, 24] ∧ σ.1 1 = nI n ∧ σ.1 2 = nI (360 / n)) ∧ (∀ j, j < 92 → σ.2 1 j = (cosL ++ [0]).getD j 0)) ∧
  ((∃ c : Nat, c ≤ 30 ∧ σ.1 3 = nI c) ∧ (∃ c : Nat, c ≤ 600 ∧ σ.1 6 = nI c) ∧ (∃ c : Nat, c ≤ 60 ∧ σ.1 12 = nI c)) ∧
  ((0 ≤ σ.1 10 ∧ σ.1 10 ≤ 50) ∧ (0 ≤ σ.1 11 ∧ σ.1 11 ≤ 50)) ∧
  (∀ j, j < 60 → (-5400) ≤ σ.2 10 j ∧ σ.2 10 j ≤ 5400) ∧ (∀ j, j < 60 → σ.2 7 j = 0 ∨ σ.2 7 j = 1) ∧ (∀ j, j < 24 → σ.2 13 j = 0 ∨ σ.2 13 j = 1) ∧ (∀ j, j < 60 → 0 ≤ (σ.2 8 j).toInt ∧ (σ.2 8 j).toInt < 24) ∧
  (∀ j, j < 30 → 0 ≤ (σ.2 2 j).toInt ∧ (σ.2 2 j).toInt ≤ 359) ∧ (∀ j, j < 30 → -5400 ≤ (σ.2 3 j).toInt ∧ (σ.2 3 j).toInt ≤ 5400)
theorem narZ (x : Int32) (h : x = 0 ∨ x = 1) : narrow .boolean (.int x) = .int x := nb01 h
