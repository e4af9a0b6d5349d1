/-! THE STATE OF THE SYSTEM, field by field: K the kind of an address (0: nothing known; c + 1: an object of class c of vwCl; 20 an int row, 21 a boolean row, 22 a row of gores, 23 a row of Objects), I the number in a field (32 c + its place), P the reference in a field, L a row's length, R a row of numbers, Q a row of references, N the next address. -/
abbrev HS : Type := (Nat → Nat) × (Nat → Nat → Int32) × (Nat → Nat → Option Nat) × (Nat → Nat) × (Nat → Nat → Int32) × (Nat → Nat → Option Nat) × Nat
def gK (S : HS) (a : Nat) : Nat := S.1 a
def gI (S : HS) (f a : Nat) : Int32 := S.2.1 f a
def gP (S : HS) (f a : Nat) : Option Nat := S.2.2.1 f a
def gL (S : HS) (a : Nat) : Nat := S.2.2.2.1 a
def gR (S : HS) (a : Nat) : Nat → Int32 := S.2.2.2.2.1 a
def gQ (S : HS) (a : Nat) : Nat → Option Nat := S.2.2.2.2.2.1 a
def gN (S : HS) : Nat := S.2.2.2.2.2.2
def uI (S : HS) (f a : Nat) (v : Int32) : HS := (S.1, (fun f' a' => if f' = f ∧ a' = a then v else S.2.1 f' a'), S.2.2)
def uP (S : HS) (f a : Nat) (v : Option Nat) : HS := (S.1, S.2.1, (fun f' a' => if f' = f ∧ a' = a then v else S.2.2.1 f' a'), S.2.2.2)
def uR (S : HS) (a : Nat) (r : Nat → Int32) : HS := (S.1, S.2.1, S.2.2.1, S.2.2.2.1, (fun a' => if a' = a then r else S.2.2.2.2.1 a'), S.2.2.2.2.2)
def uQ (S : HS) (a : Nat) (r : Nat → Option Nat) : HS := (S.1, S.2.1, S.2.2.1, S.2.2.2.1, S.2.2.2.2.1, (fun a' => if a' = a then r else S.2.2.2.2.2.1 a'), S.2.2.2.2.2.2)
def nO (S : HS) (c : Nat) : HS := ((fun a => if a = gN S then c + 1 else S.1 a), (fun f a => if a = gN S then 0 else S.2.1 f a), (fun f a => if a = gN S then none else S.2.2.1 f a), S.2.2.2.1, S.2.2.2.2.1, S.2.2.2.2.2.1, gN S + 1)
def nA (S : HS) (kd n : Nat) : HS := ((fun a => if a = gN S then kd else S.1 a), S.2.1, S.2.2.1, (fun a => if a = gN S then n else S.2.2.2.1 a), (fun a => if a = gN S then (fun _ => 0) else S.2.2.2.2.1 a), (fun a => if a = gN S then (fun _ => none) else S.2.2.2.2.2.1 a), gN S + 1)
theorem gK_uI (S : HS) (f a : Nat) (v : Int32) (b : Nat) : gK (uI S f a v) b = gK S b := rfl
theorem gP_uI (S : HS) (f a : Nat) (v : Int32) (g b : Nat) : gP (uI S f a v) g b = gP S g b := rfl
theorem gL_uI (S : HS) (f a : Nat) (v : Int32) (b : Nat) : gL (uI S f a v) b = gL S b := rfl
theorem gR_uI (S : HS) (f a : Nat) (v : Int32) (b : Nat) : gR (uI S f a v) b = gR S b := rfl
theorem gQ_uI (S : HS) (f a : Nat) (v : Int32) (b : Nat) : gQ (uI S f a v) b = gQ S b := rfl
theorem gN_uI (S : HS) (f a : Nat) (v : Int32) : gN (uI S f a v) = gN S := rfl
theorem gI_uI (S : HS) (f a : Nat) (v : Int32) (g b : Nat) : gI (uI S f a v) g b = if g = f ∧ b = a then v else gI S g b := rfl
theorem gK_uP (S : HS) (f a : Nat) (v : Option Nat) (b : Nat) : gK (uP S f a v) b = gK S b := rfl
theorem gI_uP (S : HS) (f a : Nat) (v : Option Nat) (g b : Nat) : gI (uP S f a v) g b = gI S g b := rfl
theorem gL_uP (S : HS) (f a : Nat) (v : Option Nat) (b : Nat) : gL (uP S f a v) b = gL S b := rfl
theorem gR_uP (S : HS) (f a : Nat) (v : Option Nat) (b : Nat) : gR (uP S f a v) b = gR S b := rfl
theorem gQ_uP (S : HS) (f a : Nat) (v : Option Nat) (b : Nat) : gQ (uP S f a v) b = gQ S b := rfl
theorem gN_uP (S : HS) (f a : Nat) (v : Option Nat) : gN (uP S f a v) = gN S := rfl
theorem gP_uP (S : HS) (f a : Nat) (v : Option Nat) (g b : Nat) : gP (uP S f a v) g b = if g = f ∧ b = a then v else gP S g b := rfl
theorem gK_uR (S : HS) (a : Nat) (r : Nat → Int32) (b : Nat) : gK (uR S a r) b = gK S b := rfl
theorem gI_uR (S : HS) (a : Nat) (r : Nat → Int32) (g b : Nat) : gI (uR S a r) g b = gI S g b := rfl
theorem gP_uR (S : HS) (a : Nat) (r : Nat → Int32) (g b : Nat) : gP (uR S a r) g b = gP S g b := rfl
theorem gL_uR (S : HS) (a : Nat) (r : Nat → Int32) (b : Nat) : gL (uR S a r) b = gL S b := rfl
theorem gQ_uR (S : HS) (a : Nat) (r : Nat → Int32) (b : Nat) : gQ (uR S a r) b = gQ S b := rfl
theorem gN_uR (S : HS) (a : Nat) (r : Nat → Int32) : gN (uR S a r) = gN S := rfl
theorem gR_uR (S : HS) (a : Nat) (r : Nat → Int32) (b : Nat) : gR (uR S a r) b = if b = a then r else gR S b := rfl
theorem gK_uQ (S : HS) (a : Nat) (r : Nat → Option Nat) (b : Nat) : gK (uQ S a r) b = gK S b := rfl
theorem gI_uQ (S : HS) (a : Nat) (r : Nat → Option Nat) (g b : Nat) : gI (uQ S a r) g b = gI S g b := rfl
theorem gP_uQ (S : HS) (a : Nat) (r : Nat → Option Nat) (g b : Nat) : gP (uQ S a r) g b = gP S g b := rfl
theorem gL_uQ (S : HS) (a : Nat) (r : Nat → Option Nat) (b : Nat) : gL (uQ S a r) b = gL S b := rfl
theorem gR_uQ (S : HS) (a : Nat) (r : Nat → Option Nat) (b : Nat) : gR (uQ S a r) b = gR S b := rfl
theorem gN_uQ (S : HS) (a : Nat) (r : Nat → Option Nat) : gN (uQ S a r) = gN S := rfl
theorem gQ_uQ (S : HS) (a : Nat) (r : Nat → Option Nat) (b : Nat) : gQ (uQ S a r) b = if b = a then r else gQ S b := rfl
theorem gK_nO (S : HS) (c b : Nat) : gK (nO S c) b = if b = gN S then c + 1 else gK S b := rfl
theorem gI_nO (S : HS) (c g b : Nat) : gI (nO S c) g b = if b = gN S then 0 else gI S g b := rfl
theorem gP_nO (S : HS) (c g b : Nat) : gP (nO S c) g b = if b = gN S then none else gP S g b := rfl
theorem gL_nO (S : HS) (c b : Nat) : gL (nO S c) b = gL S b := rfl
theorem gR_nO (S : HS) (c b : Nat) : gR (nO S c) b = gR S b := rfl
theorem gQ_nO (S : HS) (c b : Nat) : gQ (nO S c) b = gQ S b := rfl
theorem gN_nO (S : HS) (c : Nat) : gN (nO S c) = gN S + 1 := rfl
theorem gK_nA (S : HS) (kd n b : Nat) : gK (nA S kd n) b = if b = gN S then kd else gK S b := rfl
theorem gI_nA (S : HS) (kd n g b : Nat) : gI (nA S kd n) g b = gI S g b := rfl
theorem gP_nA (S : HS) (kd n g b : Nat) : gP (nA S kd n) g b = gP S g b := rfl
theorem gL_nA (S : HS) (kd n b : Nat) : gL (nA S kd n) b = if b = gN S then n else gL S b := rfl
theorem gR_nA (S : HS) (kd n b : Nat) : gR (nA S kd n) b = if b = gN S then (fun _ => 0) else gR S b := rfl
theorem gQ_nA (S : HS) (kd n b : Nat) : gQ (nA S kd n) b = if b = gN S then (fun _ => none) else gQ S b := rfl
theorem gN_nA (S : HS) (kd n : Nat) : gN (nA S kd n) = gN S + 1 := rfl
/-- which fields of a class hold references -/
def rfT (c : Nat) : List Bool := match c with
  | 0 => [false, true, false]
  | 1 => [false, false]
  | 2 => [true, true, false, false, false]
  | 3 => [false, false, false, false, false, false, false, false, false]
  | 4 => [false, false, false, false, false]
  | 5 => [true, true, false]
  | 6 => [false, false, false, false, false]
  | 7 => [false, true, true, true, true, false, false, false, false]
  | 8 => [true, false, false, false, true, true, false, true, true, true, false, false, false, true, true, true, true, true, true, true, true, false, true, true, true, false]
  | _ => []
def fv (S : HS) (c a : Nat) : List Value := (rfT c).zipIdx.map (fun q => if q.1 then va_rf (gP S (32 * c + q.2) a) else .int (gI S (32 * c + q.2) a))
theorem fv_get {c j : Nat} {b : Bool} (S : HS) (a : Nat) (h : (rfT c)[j]? = some b) : (fv S c a)[j]? = some (if b then va_rf (gP S (32 * c + j) a) else .int (gI S (32 * c + j) a)) := by
  simp [fv, List.getElem?_map, List.getElem?_zipIdx, h]
theorem fv_len (S : HS) (c a : Nat) : (fv S c a).length = (rfT c).length := by simp [fv]
theorem fv_setI {c j : Nat} (S : HS) (a : Nat) (v : Int32) (h : (rfT c)[j]? = some false) : fv (uI S (32 * c + j) a v) c a = (fv S c a).set j (.int v) := by
  apply List.ext_getElem?
  intro i
  rw [List.getElem?_set]
  by_cases hi : j = i
  · subst hi
    rw [fv_get _ _ h, fv_len]
    have hl : j < (rfT c).length := (List.getElem?_eq_some_iff.mp h).1
    simp [gI_uI, hl]
  · rw [if_neg hi]
    simp only [fv, List.getElem?_map, List.getElem?_zipIdx]
    cases hb : (rfT c)[i]? with
    | none => rfl
    | some b =>
      have hij : ¬ i = j := fun e => hi e.symm
      cases b <;> simp [gI_uI, gP_uI, hij]
theorem fv_setP {c j : Nat} (S : HS) (a : Nat) (v : Option Nat) (h : (rfT c)[j]? = some true) : fv (uP S (32 * c + j) a v) c a = (fv S c a).set j (va_rf v) := by
  apply List.ext_getElem?
  intro i
  rw [List.getElem?_set]
  by_cases hi : j = i
  · subst hi
    rw [fv_get _ _ h, fv_len]
    have hl : j < (rfT c).length := (List.getElem?_eq_some_iff.mp h).1
    simp [gP_uP, hl]
  · rw [if_neg hi]
    simp only [fv, List.getElem?_map, List.getElem?_zipIdx]
    cases hb : (rfT c)[i]? with
    | none => rfl
    | some b =>
      have hij : ¬ i = j := fun e => hi e.symm
      cases b <;> simp [gI_uP, gP_uP, hij]
theorem fv_neI {c a b f : Nat} (S : HS) (v : Int32) (h : b ≠ a) : fv (uI S f a v) c b = fv S c b := by
  simp [fv, gI_uI, gP_uI, h]
theorem fv_neP {c a b f : Nat} (S : HS) (v : Option Nat) (h : b ≠ a) : fv (uP S f a v) c b = fv S c b := by
  simp [fv, gI_uP, gP_uP, h]
/-- what does not change through a call of the law: launch, class numbers, row classes, addresses of the statics (0: the empty row, 1: COS, 2: GORE_NUMBERS, 3: the mirror), the first address that may be written -/
abbrev KT : Type := Launch × va_G × (Nat → ClassId) × (Nat → Nat) × Nat
def kA (k : KT) : Nat → Prop := fun q => k.2.2.2.2 ≤ q
def kT (k : KT) : List (ClassId × FieldType) := [(k.2.2.1 0, .int), (k.2.2.1 1, .boolean), (k.2.2.1 2, .object "GlobeWorks$Gore"), (k.2.2.1 3, .object "java/lang/Object")]
def ce (k : KT) (S : HS) (a : Nat) : va_E :=
  if gK S a = 20 then .inl (k.2.2.1 0, gL S a, .inl (gR S a)) else if gK S a = 21 then .inl (k.2.2.1 1, gL S a, .inl (gR S a)) else if gK S a = 22 then .inl (k.2.2.1 2, gL S a, .inr (.inr (.inr (.inr (gQ S a))))) else if gK S a = 23 then .inl (k.2.2.1 3, gL S a, .inr (.inr (.inr (.inr (gQ S a))))) else .inr (gK S a - 1, fv S (gK S a - 1) a)
theorem ce_20 {k : KT} {S : HS} {a : Nat} (h : gK S a = 20) : ce k S a = .inl (k.2.2.1 0, gL S a, .inl (gR S a)) := by simp [ce, h]
theorem ce_21 {k : KT} {S : HS} {a : Nat} (h : gK S a = 21) : ce k S a = .inl (k.2.2.1 1, gL S a, .inl (gR S a)) := by simp [ce, h]
theorem ce_22 {k : KT} {S : HS} {a : Nat} (h : gK S a = 22) : ce k S a = .inl (k.2.2.1 2, gL S a, .inr (.inr (.inr (.inr (gQ S a))))) := by simp [ce, h]
theorem ce_23 {k : KT} {S : HS} {a : Nat} (h : gK S a = 23) : ce k S a = .inl (k.2.2.1 3, gL S a, .inr (.inr (.inr (.inr (gQ S a))))) := by simp [ce, h]
theorem ce_o {k : KT} {S : HS} {a c : Nat} (h : gK S a = c + 1) (hc : c < 9) : ce k S a = .inr (c, fv S c a) := by
  have h1 : gK S a ≠ 20 := by omega
  have h2 : gK S a ≠ 21 := by omega
  have h3 : gK S a ≠ 22 := by omega
  have h4 : gK S a ≠ 23 := by omega
  have h5 : gK S a - 1 = c := by omega
  simp only [ce, if_neg h1, if_neg h2, if_neg h3, if_neg h4, h5]
def Rl (k : KT) (S : HS) (H : Heap) : Prop := H.size = gN S ∧ ∀ a, gK S a ≠ 0 → k.2.2.2.2 ≤ a ∧ va_at k.2.1 vwCl (a, ce k S a) H
theorem Rl.set {k : KT} {S S' : HS} {H H1 : Heap} {a : Nat} (h : Rl k S H) (hz : H1.size = H.size) (ho : ∀ q, q ≠ a → H1[q]? = H[q]?) (hK : ∀ b, gK S' b = gK S b) (hN : gN S' = gN S) (hc : ∀ b, b ≠ a → ce k S' b = ce k S b) (ha : va_at k.2.1 vwCl (a, ce k S' a) H1) : Rl k S' H1 := by
  refine ⟨by rw [hz, hN]; exact h.1, fun b hb => ?_⟩
  rw [hK] at hb
  refine ⟨(h.2 b hb).1, ?_⟩
  by_cases e : b = a
  · subst e; exact ha
  · rw [hc b e]
    exact (h.2 b hb).2.kept (ho b e)
theorem Rl.lt {k : KT} {S : HS} {H : Heap} (h : Rl k S H) {a : Nat} (ha : gK S a ≠ 0) : a < gN S := by
  have := (h.2 a ha).2.lt
  rw [← h.1]; exact this
theorem Rl.push {k : KT} {S S' : HS} {H H1 : Heap} (h : Rl k S H) (hz : H1.size = H.size + 1) (ho : ∀ q, q < H.size → H1[q]? = H[q]?) (hlo : k.2.2.2.2 ≤ H.size) (hK : ∀ b, b ≠ gN S → gK S' b = gK S b) (hN : gN S' = gN S + 1) (hc : ∀ b, b ≠ gN S → ce k S' b = ce k S b) (ha : va_at k.2.1 vwCl (gN S, ce k S' (gN S)) H1) : Rl k S' H1 := by
  refine ⟨by rw [hz, hN, h.1], fun b hb => ?_⟩
  by_cases e : b = gN S
  · subst e; exact ⟨by rw [← h.1]; exact hlo, ha⟩
  · rw [hK b e] at hb
    refine ⟨(h.2 b hb).1, ?_⟩
    rw [hc b e]
    have hl := (h.2 b hb).2.lt
    exact (h.2 b hb).2.kept (ho b hl)
theorem ce_uI {k : KT} {S : HS} {f a b : Nat} {v : Int32} (h : b ≠ a) : ce k (uI S f a v) b = ce k S b := by
  simp only [ce, gK_uI, gL_uI, gR_uI, gQ_uI, fv_neI S v h]
  try rfl
theorem ce_uP {k : KT} {S : HS} {f a b : Nat} {v : Option Nat} (h : b ≠ a) : ce k (uP S f a v) b = ce k S b := by
  simp only [ce, gK_uP, gL_uP, gR_uP, gQ_uP, fv_neP S v h]
  try rfl
theorem fv_uR {c a b : Nat} (S : HS) (r : Nat → Int32) : fv (uR S a r) c b = fv S c b := rfl
theorem fv_uQ {c a b : Nat} (S : HS) (r : Nat → Option Nat) : fv (uQ S a r) c b = fv S c b := rfl
theorem ce_uR {k : KT} {S : HS} {a b : Nat} {r : Nat → Int32} (h : b ≠ a) : ce k (uR S a r) b = ce k S b := by
  simp only [ce, gK_uR, gL_uR, gR_uR, gQ_uR, fv_uR, if_neg h]
  try rfl
theorem ce_uQ {k : KT} {S : HS} {a b : Nat} {r : Nat → Option Nat} (h : b ≠ a) : ce k (uQ S a r) b = ce k S b := by
  simp only [ce, gK_uQ, gL_uQ, gR_uQ, gQ_uQ, fv_uQ, if_neg h]
  try rfl
theorem fv_nO {c d b : Nat} (S : HS) (h : b ≠ gN S) : fv (nO S d) c b = fv S c b := by
  simp [fv, gI_nO, gP_nO, h]
theorem ce_nO {k : KT} {S : HS} {c b : Nat} (h : b ≠ gN S) : ce k (nO S c) b = ce k S b := by
  simp only [ce, gK_nO, gL_nO, gR_nO, gQ_nO, fv_nO S h, if_neg h]
  try rfl
theorem fv_nA {c kd n b : Nat} (S : HS) : fv (nA S kd n) c b = fv S c b := rfl
theorem ce_nA {k : KT} {S : HS} {kd n b : Nat} (h : b ≠ gN S) : ce k (nA S kd n) b = ce k S b := by
  simp only [ce, gK_nA, gL_nA, gR_nA, gQ_nA, fv_nA, if_neg h]
  try rfl
/-- the statics' rows -/
def cosL : List Int32 := [1000, 1000, 999, 999, 998, 996, 995, 993, 990, 988, 985, 982, 978, 974, 970, 966, 961, 956, 951, 946, 940, 934, 927, 921, 914, 906, 899, 891, 883, 875, 866, 857, 848, 839, 829, 819, 809, 799, 788, 777, 766, 755, 743, 731, 719, 707, 695, 682, 669, 656, 643, 629, 616, 602, 588, 574, 559, 545, 530, 515, 500, 485, 469, 454, 438, 423, 407, 391, 375, 358, 342, 326, 309, 292, 276, 259, 242, 225, 208, 191, 174, 156, 139, 122, 105, 87, 70, 52, 35, 17, 0]
def gorL : List Int32 := [6, 8, 9, 10, 12, 15, 18, 20, 24]
def nwL : List Cond := [.methodLinkNest RX6 44 yX1_init "GlobeWorks", .methodLinkNest RX6 21 yX4_init "GlobeWorks", .methodLinkNest RX5 42 yX6_roundBy "GlobeWorks", .methodLinkNest RX5 27 yX6_rest "GlobeWorks"]
def csL : List (String × String) := [(RX0, "java/lang/Object"), (RX2, "java/lang/Object"), (RX3, "java/lang/Object")]
/-- what every method's start gives beside the tables' words -/
def Gd (k : KT) (U : State) : Prop :=
  va_K k.2.1 vwCl (kT k) U ∧ (va_Nw (.methodLinkNest RX6 44 yX1_init "GlobeWorks") U ∧ va_Nw (.methodLinkNest RX6 21 yX4_init "GlobeWorks") U ∧ va_Nw (.methodLinkNest RX5 42 yX6_roundBy "GlobeWorks") U ∧ va_Nw (.methodLinkNest RX5 27 yX6_rest "GlobeWorks") U) ∧ (∀ q ∈ csL, va_Nw (.castable q.1 q.2) U) ∧ (va_AO "GlobeWorks$Gore" U ∧ va_AO "java/lang/Object" U) ∧
  (va_Z "java/util/ArrayList" "DEFAULTCAPACITY_EMPTY_ELEMENTDATA" "[Ljava/lang/Object;" (.ref (k.2.2.2.1 0)) (kA k) U U.heap ∧ va_Z "GlobeWorks" "COS" "[I" (.ref (k.2.2.2.1 1)) (kA k) U U.heap ∧ va_Z "GlobeWorks" "GORE_NUMBERS" "[I" (.ref (k.2.2.2.1 2)) (kA k) U U.heap) ∧
  (va_T (.object "java/lang/Object") (k.2.2.2.1 0) 0 (fun _ => .null) (kA k) U U.heap ∧ va_T .int (k.2.2.2.1 1) 91 (fun j => .int (cosL.getD j 0)) (kA k) U U.heap ∧ va_T .int (k.2.2.2.1 2) 9 (fun j => .int (gorL.getD j 0)) (kA k) U U.heap) ∧
  va_Mi "[Ljava/lang/Object;" (k.2.2.2.1 3) U ∧ va_Dc U ∧ k.2.2.2.2 ≤ U.heap.size
