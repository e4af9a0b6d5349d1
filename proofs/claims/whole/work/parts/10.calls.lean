/-! CALLS over the judgement X -/
theorem x_back {k : KT} {μ : MT} {Z : ZT} {Q : Option Value → HS → Prop} {mc ms pc : Nat} {a : Array Value} {ls : Array Slot} {lv : List (Nat × Value)} {st0 rest : List Value} {p : Program} {e : Env} {s : State} {m : MethodId} {args : Array Value} {below : List Frame} {meth : Method} {c : Code} {H : Heap} {locs : List Loc} {cells slots : Nat} (C : Cx k μ p s m args meth c) (hl : lv_has ls μ.2.2.2.1 lv) (hS : va_S (kA k) s.heap H locs) (hr : va_Run p k.1 e μ.1 s m args below meth c H locs cells slots mc ms (F0 m pc ls st0) rest (Qc k Q a) (kA k)) (kk : ∀ v S', Q v S' → X k μ Z (pc + 3) lv (v.toList ++ rest) S' (cells + mc) (slots + ms)) : W p k.1 e μ.1 s m args below meth c H locs cells slots (Z below args s) (F0 m pc ls st0) := by
  intro T hT X0
  obtain ⟨v, st₀, t, T', L, h0, X', hL, e1, e2, ⟨⟨v', S', hv, hq, hRl⟩, hz, hk⟩, st⟩ := hr T hT X0
  cases hv
  rw [h0] at hz hk
  obtain ⟨t2, a1, b1⟩ := kk v S' hq p e s m args below meth c T'.heap (locs ++ L) ls C hl (by rw [e1]; exact hRl) ⟨Nat.le_trans hS.1 (by rw [e1]; exact hz), fun q h1 h2 => by rw [e1, hk q (Nat.lt_of_lt_of_le h1 hS.1) h2]; exact hS.2.1 q h1 h2, fun q hq => by
    rcases List.mem_append.mp hq with h | h
    · exact hS.2.2 q h
    · exact hL q h⟩ T' rfl X'
  exact ⟨t2, st t2 a1, b1⟩
abbrev okN (y : MethodName) (n : Nat) : Prop := y.cls ≠ "java/lang/invoke/MethodHandle" ∧ y.cls ≠ "java/lang/invoke/VarHandle" ∧ (parseMethodDescriptor y.desc).map (fun d => d.parameters.length) = some n
abbrev okR (ν μ : MT) (cells slots : Nat) (rest : List Value) : Prop := ν.1.frames + 1 ≤ μ.1.frames ∧ 8 + (ν.2.2.2.1 + 11) + ν.1.locals ≤ μ.1.locals ∧ cells + ν.1.cells ≤ μ.1.cells ∧ slots + ν.1.slots ≤ μ.1.slots ∧ (rest.map fun v => v.category).sum ≤ 8
theorem x_static {k : KT} {μ : MT} {Z : ZT} {Q : Option Value → HS → Prop} {pc idx : Nat} {lv : List (Nat × Value)} {st : List Value} {S : HS} {cells slots : Nat} (ν : MT) (As rest : List Value) (hd : decode μ.2.2.1 pc = .ok (.invokestatic idx, 3)) (hst : st = As.reverse ++ rest) (hC : Ct k ν As S Q) (hlk : Cond.methodLink μ.2.1.cls idx ν.2.1 ∈ wsL_law) (hs : Cond.static ν.2.1 ∈ wsL_law) (hi : Cond.initialized ν.2.1.cls ∈ wsL_law) (hcd : Cond.code ν.2.1 ν.2.2.1 ν.2.2.2.1 ν.2.2.2.2 ∈ wsL_law) (hn : okN ν.2.1 As.length) (hrm : okR ν μ cells slots rest) (kk : ∀ v S', Q v S' → X k μ Z (pc + 3) lv (v.toList ++ rest) S' (cells + ν.1.cells) (slots + ν.1.slots)) : X k μ Z pc lv st S cells slots := fun p e s m args below meth c H locs ls C hl hR hS => by
  obtain ⟨r1, r2, r3, r4, r5⟩ := hrm
  exact x_back C hl hS (va_runS (nL := μ.2.2.2.1) (As := As) (rest := rest) ⟨C.exec, C.bytes, C.maxL, C.own, C.words⟩ hC ⟨callB_of As.length C.words (tl_good_in hcd) rfl rfl rfl (C.words _ hi) (C.words _ hlk) hn ⟨r1, r2⟩, C.words _ hs⟩ ⟨Pcd.blind, fun U hU hW => ⟨rfl, by rw [hU]; exact hR, C.gd.warm hW hU hS⟩⟩ rfl rfl hl.1 hst (lv_room r5) hd ⟨r3, r4⟩) kk
theorem x_staticN {k : KT} {μ : MT} {Z : ZT} {Q : Option Value → HS → Prop} {pc idx : Nat} {lv : List (Nat × Value)} {st : List Value} {S : HS} {cells slots : Nat} (ν : MT) (As rest : List Value) (hd : decode μ.2.2.1 pc = .ok (.invokestatic idx, 3)) (hst : st = As.reverse ++ rest) (hC : Ct k ν As S Q) (hlk : ∀ s : State, Gd k s → va_Nw (.methodLinkNest μ.2.1.cls idx ν.2.1 "GlobeWorks") s) (hs : Cond.static ν.2.1 ∈ wsL_law) (hi : Cond.initialized ν.2.1.cls ∈ wsL_law) (hcd : Cond.code ν.2.1 ν.2.2.1 ν.2.2.2.1 ν.2.2.2.2 ∈ wsL_law) (hn : okN ν.2.1 As.length) (hrm : okR ν μ cells slots rest) (kk : ∀ v S', Q v S' → X k μ Z (pc + 3) lv (v.toList ++ rest) S' (cells + ν.1.cells) (slots + ν.1.slots)) : X k μ Z pc lv st S cells slots := fun p e s m args below meth c H locs ls C hl hR hS => by
  obtain ⟨r1, r2, r3, r4, r5⟩ := hrm
  exact x_back C hl hS (va_runSN (nL := μ.2.2.2.1) (As := As) (rest := rest) (Ts := wsL_law) ⟨C.exec, C.bytes, C.maxL, C.own, C.words⟩ hC ⟨va_cnB As.length C.words (tl_good_in hcd) rfl rfl rfl (hlk s C.gd) (C.words _ hi) hn ⟨r1, r2⟩, C.words _ hs, trivial⟩ ⟨Pcd.blind, fun U hU hW => ⟨rfl, by rw [hU]; exact hR, C.gd.warm hW hU hS⟩⟩ rfl rfl hl.1 hst (lv_room r5) hd ⟨r3, r4⟩) kk
theorem x_virtual {k : KT} {μ : MT} {Z : ZT} {Q : Option Value → HS → Prop} {pc idx b : Nat} {lv : List (Nat × Value)} {st : List Value} {S : HS} {cells slots : Nat} {q : vw_C} (c : Nat) (ν : MT) (As rest : List Value) (hd : decode μ.2.2.1 pc = .ok (.invokevirtual idx, 3)) (hst : st = As.reverse ++ .ref b :: rest) (hC : Ct k ν (.ref b :: As) S Q) (hK : gK S b = c + 1) (h9 : c < 9) (hq : vwCl[c]? = some q) (hqc : q.1 = ν.2.1.cls) (hlk : Cond.methodLink μ.2.1.cls idx ν.2.1 ∈ wsL_law) (hs : Cond.instanceMethod ν.2.1 ∈ wsL_law) (hse : Cond.selects ν.2.1.cls ν.2.1 ν.2.1 ∈ wsL_law) (hi : Cond.initialized ν.2.1.cls ∈ wsL_law) (hcd : Cond.code ν.2.1 ν.2.2.1 ν.2.2.2.1 ν.2.2.2.2 ∈ wsL_law) (hn : okN ν.2.1 As.length) (hrm : okR ν μ cells slots rest) (kk : ∀ v S', Q v S' → X k μ Z (pc + 3) lv (v.toList ++ rest) S' (cells + ν.1.cells) (slots + ν.1.slots)) : X k μ Z pc lv st S cells slots := fun p e s m args below meth cd H locs ls C hl hR hS => by
  obtain ⟨r1, r2, r3, r4, r5⟩ := hrm
  have hrc := va_recv C.cls (vP1 (hR.at hK h9)) hq (q0 := 0) rfl
  rw [hqc] at hrc
  exact x_back C hl hS (va_runV (nL := μ.2.2.2.1) (C := ν.2.1.cls) (As := As) (rest := rest) ⟨C.exec, C.bytes, C.maxL, C.own, C.words⟩ hC ⟨callB_of As.length C.words (tl_good_in hcd) rfl rfl rfl (C.words _ hi) (C.words _ hlk) hn ⟨r1, r2⟩, C.words _ hs, C.words _ hse⟩ ⟨Pcd.blind, hrc, fun U hU hW => ⟨rfl, by rw [hU]; exact hR, C.gd.warm hW hU hS⟩⟩ rfl rfl hl.1 hst (lv_room r5) hd ⟨r3, r4⟩) kk
theorem x_special {k : KT} {μ : MT} {Z : ZT} {Q : Option Value → HS → Prop} {pc idx b : Nat} {lv : List (Nat × Value)} {st : List Value} {S : HS} {cells slots : Nat} (ν : MT) (As rest : List Value) (hd : decode μ.2.2.1 pc = .ok (.invokespecial idx, 3)) (hst : st = As.reverse ++ .ref b :: rest) (hC : Ct k ν (.ref b :: As) S Q) (hret : ν.2.2.2.2 = none) (hnm : ν.2.1.name = "<init>") (hlk : Cond.methodLink μ.2.1.cls idx ν.2.1 ∈ wsL_law) (hs : Cond.instanceMethod ν.2.1 ∈ wsL_law) (hi : Cond.initialized ν.2.1.cls ∈ wsL_law) (hcd : Cond.code ν.2.1 ν.2.2.1 ν.2.2.2.1 none ∈ wsL_law) (hn : okN ν.2.1 As.length) (hrm : okR ν μ cells slots rest) (kk : ∀ v S', Q v S' → X k μ Z (pc + 3) lv (v.toList ++ rest) S' (cells + ν.1.cells) (slots + ν.1.slots)) : X k μ Z pc lv st S cells slots := fun p e s m args below meth c H locs ls C hl hR hS => by
  obtain ⟨r1, r2, r3, r4, r5⟩ := hrm
  unfold Ct at hC
  rw [hret] at hC
  exact x_back C hl hS (va_runI (nL := μ.2.2.2.1) (As := As) (rest := rest) ⟨C.exec, C.bytes, C.maxL, C.own, C.words⟩ hC ⟨callB_of As.length C.words (tl_good_in hcd) rfl rfl rfl (C.words _ hi) (C.words _ hlk) hn ⟨r1, r2⟩, hnm, C.words _ hs⟩ ⟨Pcd.blind, fun U hU hW => ⟨rfl, by rw [hU]; exact hR, C.gd.warm hW hU hS⟩⟩ rfl rfl hl.1 hst (lv_room r5) hd ⟨r3, r4⟩) kk
theorem x_specialN {k : KT} {μ : MT} {Z : ZT} {Q : Option Value → HS → Prop} {pc idx b : Nat} {lv : List (Nat × Value)} {st : List Value} {S : HS} {cells slots : Nat} (ν : MT) (As rest : List Value) (hd : decode μ.2.2.1 pc = .ok (.invokespecial idx, 3)) (hst : st = As.reverse ++ .ref b :: rest) (hC : Ct k ν (.ref b :: As) S Q) (hret : ν.2.2.2.2 = none) (hnm : ν.2.1.name = "<init>") (hlk : ∀ s : State, Gd k s → va_Nw (.methodLinkNest μ.2.1.cls idx ν.2.1 "GlobeWorks") s) (hs : Cond.instanceMethod ν.2.1 ∈ wsL_law) (hi : Cond.initialized ν.2.1.cls ∈ wsL_law) (hcd : Cond.code ν.2.1 ν.2.2.1 ν.2.2.2.1 none ∈ wsL_law) (hn : okN ν.2.1 As.length) (hrm : okR ν μ cells slots rest) (kk : ∀ v S', Q v S' → X k μ Z (pc + 3) lv (v.toList ++ rest) S' (cells + ν.1.cells) (slots + ν.1.slots)) : X k μ Z pc lv st S cells slots := fun p e s m args below meth c H locs ls C hl hR hS => by
  obtain ⟨r1, r2, r3, r4, r5⟩ := hrm
  unfold Ct at hC
  rw [hret] at hC
  exact x_back C hl hS (va_runIN (nL := μ.2.2.2.1) (As := As) (rest := rest) (Ts := wsL_law) ⟨C.exec, C.bytes, C.maxL, C.own, C.words⟩ hC ⟨va_cnB As.length C.words (tl_good_in hcd) rfl rfl rfl (hlk s C.gd) (C.words _ hi) hn ⟨r1, r2⟩, hnm, C.words _ hs⟩ ⟨Pcd.blind, fun U hU hW => ⟨rfl, by rw [hU]; exact hR, C.gd.warm hW hU hS⟩⟩ rfl rfl hl.1 hst (lv_room r5) hd ⟨r3, r4⟩) kk
theorem x_objInit {k : KT} {μ : MT} {Z : ZT} {pc idx b : Nat} {lv : List (Nat × Value)} {rest : List Value} {S : HS} {cells slots : Nat} (hd : decode μ.2.2.1 pc = .ok (.invokespecial idx, 3)) (hlk : Cond.methodLink μ.2.1.cls idx objectInit ∈ wsL_law) (hs : Cond.instanceMethod objectInit ∈ wsL_law) (hcd : Cond.code objectInit ⟨#[0xb1]⟩ 1 none ∈ wsL_law) (hf : 1 ≤ μ.1.frames) (hlo : (rest.map fun v => v.category).sum + 12 ≤ μ.1.locals) (kk : X k μ Z (pc + 3) lv rest S cells slots) : X k μ Z pc lv (.ref b :: rest) S cells slots := fun p e s m args below meth c H locs ls C hl hR hS => by
  refine W.objInit C.exec C.bytes C.own (C.words _ hlk) (C.words _ hs) (C.words _ hcd) rfl (by rw [C.maxL]; exact hl.1) rfl hd hf ?_ (kk p e s m args below meth c H locs ls C hl hR hS)
  show 2 * 0 + _ + 12 ≤ _
  omega
theorem x_mmax {k : KT} {μ : MT} {Z : ZT} {pc idx : Nat} {lv : List (Nat × Value)} {rest : List Value} {S : HS} {cells slots : Nat} {x y : Int32} (hd : decode μ.2.2.1 pc = .ok (.invokestatic idx, 3)) (hlk : Cond.methodLink μ.2.1.cls idx Lib.Math.max.name ∈ wsL_law) (hs : Cond.static Lib.Math.max.name ∈ wsL_law) (hi : Cond.initialized "java/lang/Math" ∈ wsL_law) (hcd : Cond.code Lib.Math.max.name Lib.Math.max.code 2 (some .int) ∈ wsL_law) (hf : 1 ≤ μ.1.frames) (hlo : (rest.map fun v => v.category).sum + 13 ≤ μ.1.locals) (hc : cells ≤ μ.1.cells) (hsl : slots ≤ μ.1.slots) (kk : X k μ Z (pc + 3) lv (.int (if x < y then y else x) :: rest) S cells slots) : X k μ Z pc lv (.int y :: .int x :: rest) S cells slots := fun p e s m args below meth c H locs ls C hl hR hS =>
  va_mmax C.exec C.bytes (C.maxL.trans hl.1.symm) C.own (C.words _ hlk) (C.words _ hs) (C.words _ hi) (C.words _ hcd) hf hlo hc hsl hd (kk p e s m args below meth c H locs ls C hl hR hS)
theorem x_mmin {k : KT} {μ : MT} {Z : ZT} {pc idx : Nat} {lv : List (Nat × Value)} {rest : List Value} {S : HS} {cells slots : Nat} {x y : Int32} (hd : decode μ.2.2.1 pc = .ok (.invokestatic idx, 3)) (hlk : Cond.methodLink μ.2.1.cls idx Lib.Math.min.name ∈ wsL_law) (hs : Cond.static Lib.Math.min.name ∈ wsL_law) (hi : Cond.initialized "java/lang/Math" ∈ wsL_law) (hcd : Cond.code Lib.Math.min.name Lib.Math.min.code 2 (some .int) ∈ wsL_law) (hf : 1 ≤ μ.1.frames) (hlo : (rest.map fun v => v.category).sum + 13 ≤ μ.1.locals) (hc : cells ≤ μ.1.cells) (hsl : slots ≤ μ.1.slots) (kk : X k μ Z (pc + 3) lv (.int (if y < x then y else x) :: rest) S cells slots) : X k μ Z pc lv (.int y :: .int x :: rest) S cells slots := fun p e s m args below meth c H locs ls C hl hR hS =>
  va_mmin C.exec C.bytes (C.maxL.trans hl.1.symm) C.own (C.words _ hlk) (C.words _ hs) (C.words _ hi) (C.words _ hcd) hf hlo hc hsl hd (kk p e s m args below meth c H locs ls C hl hR hS)
theorem x_mabs {k : KT} {μ : MT} {Z : ZT} {pc idx : Nat} {lv : List (Nat × Value)} {rest : List Value} {S : HS} {cells slots : Nat} {x : Int32} (hd : decode μ.2.2.1 pc = .ok (.invokestatic idx, 3)) (hlk : Cond.methodLink μ.2.1.cls idx Lib.Math.abs.name ∈ wsL_law) (hs : Cond.static Lib.Math.abs.name ∈ wsL_law) (hi : Cond.initialized "java/lang/Math" ∈ wsL_law) (hcd : Cond.code Lib.Math.abs.name Lib.Math.abs.code 1 (some .int) ∈ wsL_law) (hf : 1 ≤ μ.1.frames) (hlo : (rest.map fun v => v.category).sum + 13 ≤ μ.1.locals) (hc : cells ≤ μ.1.cells) (hsl : slots ≤ μ.1.slots) (kk : X k μ Z (pc + 3) lv (.int (if 0 ≤ x then x else 0 - x) :: rest) S cells slots) : X k μ Z pc lv (.int x :: rest) S cells slots := fun p e s m args below meth c H locs ls C hl hR hS =>
  va_mabs C.exec C.bytes (C.maxL.trans hl.1.symm) C.own (C.words _ hlk) (C.words _ hs) (C.words _ hi) (C.words _ hcd) hf hlo hc hsl hd (kk p e s m args below meth c H locs ls C hl hR hS)
theorem x_getC {k : KT} {μ : MT} {Z : ZT} {pc idx a : Nat} {lv : List (Nat × Value)} {rest : List Value} {S : HS} {cells slots : Nat} (hd : decode μ.2.2.1 pc = .ok (.invokevirtual idx, 3)) (hK : gK S a = 23) (hlk : Cond.methodLink μ.2.1.cls idx ⟨"java/lang/Object", "getClass", "()Ljava/lang/Class;"⟩ ∈ wsL_law) (hse : Cond.selects "[Ljava/lang/Object;" ⟨"java/lang/Object", "getClass", "()Ljava/lang/Class;"⟩ ⟨"java/lang/Object", "getClass", "()Ljava/lang/Class;"⟩ ∈ wsL_law) (hin : Cond.instanceMethod ⟨"java/lang/Object", "getClass", "()Ljava/lang/Class;"⟩ ∈ wsL_law) (hna : Cond.native ⟨"java/lang/Object", "getClass", "()Ljava/lang/Class;"⟩ ∈ wsL_law) (hf : 1 ≤ μ.1.frames) (hlo : (rest.map fun v => v.category).sum + 14 ≤ μ.1.locals) (kk : X k μ Z (pc + 3) lv (.ref (k.2.2.2.1 3) :: rest) S cells slots) : X k μ Z pc lv (.ref a :: rest) S cells slots := fun p e s m args below meth c H locs ls C hl hR hS => by
  obtain ⟨kAr, comp, r1, r2, r3, r4⟩ := (C.cls.2 3 _ rfl).2
  have hat := hR.at23 hK
  exact va_getC C.exec C.bytes (C.maxL.trans hl.1.symm) C.own (C.words _ hlk) (va_Dc.use C.gd.2.2.2.2.2.2.2.1) (C.words _ hse) (C.words _ hin) (C.words _ hna) C.gd.2.2.2.2.2.2.1 ⟨_, hat, rfl, r4⟩ hf hlo hd (kk p e s m args below meth c H locs ls C hl hR hS)
theorem nn_of {z : Int32} (hz : ¬ z < 0) : z.toInt = (z.toNatClampNeg : Int) := by
  have hz0 : (0 : Int) ≤ z.toInt := by
    have := Int32.not_lt.mp hz
    simpa using Int32.le_iff_toInt_le.mp this
  show z.toInt = ((z.toInt.toNat : Nat) : Int)
  omega
theorem x_copyI {k : KT} {μ : MT} {Z : ZT} {pc idx a a0 : Nat} {lv : List (Nat × Value)} {rest : List Value} {S : HS} {cells slots : Nat} {sp dp n : Int32} (hd : decode μ.2.2.1 pc = .ok (.invokestatic idx, 3)) (hK0 : gK S a0 = 20) (hK : gK S a = 20) (hlk : Cond.methodLink μ.2.1.cls idx arraycopyName ∈ wsL_law) (hna : Cond.native arraycopyName ∈ wsL_law) (hs : Cond.static arraycopyName ∈ wsL_law) (hi : Cond.initialized "java/lang/System" ∈ wsL_law) (h1 : ¬ sp < 0) (h2 : ¬ dp < 0) (h3 : ¬ n < 0) (h4 : sp.toNatClampNeg + n.toNatClampNeg ≤ gL S a0) (h5 : dp.toNatClampNeg + n.toNatClampNeg ≤ gL S a) (hf : 1 ≤ μ.1.frames) (hlo : (rest.map fun v => v.category).sum + (nativeFrameWords "java/lang/System" "arraycopy" 5 + 11) ≤ μ.1.locals) (kk : X k μ Z (pc + 3) lv rest (uR S a (va_cpy (gR S a0) (gR S a) sp.toNatClampNeg dp.toNatClampNeg n.toNatClampNeg)) cells slots) : X k μ Z pc lv (.int n :: .int dp :: .ref a :: .int sp :: .ref a0 :: rest) S cells slots := fun p e s m args below meth c H locs ls C hl hR hS => by
  intro T hT X0
  have hc0 : H[a0]? = some (vp_cell (k.2.2.1 0) (gL S a0, .inl (gR S a0))) := hR.at20 hK0
  have hc1 : H[a]? = some (vp_cell (k.2.2.1 0) (gL S a, .inl (gR S a))) := hR.at20 hK
  obtain ⟨-, k0, hk0, cm0, hkk0⟩ := (C.cls.2 0 _ rfl).1 (gL S a0) (fun j => .int (gR S a0 j))
  obtain ⟨-, k1, hk1, cm1, hkk1⟩ := (C.cls.2 0 _ rfl).1 (gL S a) (fun j => .int (gR S a j))
  obtain ⟨vm', X', step⟩ := X0.arraycopy C.exec C.own (C.words _ hlk) (C.words _ hna) (C.words _ hs) (C.words _ hi) (src := a0) (dst := a) (cs := vp_cell (k.2.2.1 0) (gL S a0, .inl (gR S a0))) (cd := vp_cell (k.2.2.1 0) (gL S a, .inl (gR S a))) (srcPos := sp) (destPos := dp) (n := n) (by rw [hT]; exact hc0) (by rw [hT]; exact hc1)
    (fun _ h => by cases h) (fun _ h => by cases h) (fun h => by cases h) (fun h => by cases h) hk0 hk1 hkk0 hkk1 (by rfl) h1 h2 h3
    (by rw [nn_of h1, nn_of h3]; show ¬ _ > ((arrV _ (gL S a0) _).slots.size : Int); rw [arrV_size]; omega)
    (by rw [nn_of h2, nn_of h3]; show ¬ _ > ((arrV _ (gL S a) _).slots.size : Int); rw [arrV_size]; omega)
    (fun vm₁ _ i hi => by
      have e : (vp_cell (k.2.2.1 0) (gL S a0, .inl (gR S a0))).slots.getD (sp.toNatClampNeg + i) .null = .int (gR S a0 (sp.toNatClampNeg + i)) := by
        show (arrV (k.2.2.1 0) (gL S a0) (fun j => .int (gR S a0 j))).slots.getD _ _ = _
        rw [Array.getD_eq_getD_getElem?, arrV_read _ _ (by omega)]
        rfl
      refine ⟨?_, ?_⟩
      · rw [e]; rfl
      · rw [e]; exact trivial)
    (g := F0 m pc ls (.int n :: .int dp :: .ref a :: .int sp :: .ref a0 :: rest)) rfl (by rw [C.maxL]; exact hl.1) (rest := rest) rfl (by rw [C.bytes]; exact hd) hf (by show 2 * 0 + _ + _ ≤ _; omega)
  have e1 : copied (vp_cell (k.2.2.1 0) (gL S a0, .inl (gR S a0))) (vp_cell (k.2.2.1 0) (gL S a, .inl (gR S a))) sp dp n = vp_cell (k.2.2.1 0) (gL S a, .inl (va_cpy (gR S a0) (gR S a) sp.toNatClampNeg dp.toNatClampNeg n.toNatClampNeg)) := va_copied (fun z => .int z) _ _ (gR S a0) (gR S a) h4
  rw [e1] at X' step
  have hlt : a < H.size := (Array.getElem?_eq_some_iff.mp hc1).1
  have oq : ∀ q : Nat, q ≠ a → (H.setIfInBounds a (vp_cell (k.2.2.1 0) (gL S a, .inl (va_cpy (gR S a0) (gR S a) sp.toNatClampNeg dp.toNatClampNeg n.toNatClampNeg))))[q]? = H[q]? := fun q hq => by simp [Array.getElem?_setIfInBounds, Ne.symm hq]
  obtain ⟨t, a1, b1⟩ := kk p e s m args below meth c (H.setIfInBounds a (vp_cell (k.2.2.1 0) (gL S a, .inl (va_cpy (gR S a0) (gR S a) sp.toNatClampNeg dp.toNatClampNeg n.toNatClampNeg)))) _ ls C hl (hR.set (by simp) oq (fun _ => rfl) rfl (fun b hb => ce_uR hb) (by
      rw [ce_20 (show gK (uR S a _) a = 20 from hK), gR_uR, if_pos rfl]
      show (H.setIfInBounds a _)[a]? = some (vp_cell _ _)
      simp [Array.getElem?_setIfInBounds, hlt]; rfl)) ⟨by simp; exact hS.1, fun q g1 g2 => by
      rw [oq q (fun e => g2 (by rw [e]; exact hR.lo (a := a) (by rw [hK]; decide)))]
      exact hS.2.1 q g1 g2, fun q hq => by
      rcases List.mem_append.mp hq with h | h
      · exact hS.2.2 q h
      · obtain ⟨z, -, hz⟩ := List.mem_map.mp h
        rw [← hz]
        exact hR.lo (a := a) (by rw [hK]; decide)⟩ _ (by rw [← hT]; rfl) X'
  exact ⟨t, step t a1, b1⟩
theorem x_copyQ {k : KT} {μ : MT} {Z : ZT} {pc idx a a0 : Nat} {lv : List (Nat × Value)} {rest : List Value} {S : HS} {cells slots : Nat} {sp dp n : Int32} (hd : decode μ.2.2.1 pc = .ok (.invokestatic idx, 3)) (hK0 : gK S a0 = 23) (hK : gK S a = 23) (hlk : Cond.methodLink μ.2.1.cls idx arraycopyName ∈ wsL_law) (hna : Cond.native arraycopyName ∈ wsL_law) (hs : Cond.static arraycopyName ∈ wsL_law) (hi : Cond.initialized "java/lang/System" ∈ wsL_law) (h1 : ¬ sp < 0) (h2 : ¬ dp < 0) (h3 : ¬ n < 0) (h4 : sp.toNatClampNeg + n.toNatClampNeg ≤ gL S a0) (h5 : dp.toNatClampNeg + n.toNatClampNeg ≤ gL S a) (hel : ∀ i : Nat, i < n.toNatClampNeg → ∀ y : Nat, gQ S a0 (sp.toNatClampNeg + i) = some y → ∃ (c : Nat) (q : vw_C), gK S y = c + 1 ∧ c < 9 ∧ vwCl[c]? = some q ∧ (q.1, "java/lang/Object") ∈ csL) (hf : 1 ≤ μ.1.frames) (hlo : (rest.map fun v => v.category).sum + (nativeFrameWords "java/lang/System" "arraycopy" 5 + 11) ≤ μ.1.locals) (kk : X k μ Z (pc + 3) lv rest (uQ S a (va_cpy (gQ S a0) (gQ S a) sp.toNatClampNeg dp.toNatClampNeg n.toNatClampNeg)) cells slots) : X k μ Z pc lv (.int n :: .int dp :: .ref a :: .int sp :: .ref a0 :: rest) S cells slots := fun p e s m args below meth c H locs ls C hl hR hS => by
  intro T hT X0
  have hc0 : H[a0]? = some (vp_cell (k.2.2.1 3) (gL S a0, .inr (.inr (.inr (.inr (gQ S a0)))))) := hR.at23 hK0
  have hc1 : H[a]? = some (vp_cell (k.2.2.1 3) (gL S a, .inr (.inr (.inr (.inr (gQ S a)))))) := hR.at23 hK
  obtain ⟨-, k0, hk0, cm0, hkk0⟩ := (C.cls.2 3 _ rfl).1 (gL S a0) (fun j => va_rf (gQ S a0 j))
  obtain ⟨-, k1, hk1, cm1, hkk1⟩ := (C.cls.2 3 _ rfl).1 (gL S a) (fun j => va_rf (gQ S a j))
  obtain ⟨vm', X', step⟩ := X0.arraycopy C.exec C.own (C.words _ hlk) (C.words _ hna) (C.words _ hs) (C.words _ hi) (src := a0) (dst := a) (cs := vp_cell (k.2.2.1 3) (gL S a0, .inr (.inr (.inr (.inr (gQ S a0)))))) (cd := vp_cell (k.2.2.1 3) (gL S a, .inr (.inr (.inr (.inr (gQ S a)))))) (srcPos := sp) (destPos := dp) (n := n) (by rw [hT]; exact hc0) (by rw [hT]; exact hc1)
    (fun _ h => by cases h) (fun _ h => by cases h) (fun h => by cases h) (fun h => by cases h) hk0 hk1 hkk0 hkk1 rfl h1 h2 h3
    (by rw [nn_of h1, nn_of h3]; show ¬ _ > ((arrV _ (gL S a0) _).slots.size : Int); rw [arrV_size]; omega)
    (by rw [nn_of h2, nn_of h3]; show ¬ _ > ((arrV _ (gL S a) _).slots.size : Int); rw [arrV_size]; omega)
    (fun vm₁ hal i hi => by
      have e : (vp_cell (k.2.2.1 3) (gL S a0, .inr (.inr (.inr (.inr (gQ S a0)))))).slots.getD (sp.toNatClampNeg + i) .null = va_rf (gQ S a0 (sp.toNatClampNeg + i)) := by
        show (arrV (k.2.2.1 3) (gL S a0) (fun j => va_rf (gQ S a0 j))).slots.getD _ _ = _
        rw [Array.getD_eq_getD_getElem?, arrV_read _ _ (by omega)]
        rfl
      rw [e]
      cases hy : gQ S a0 (sp.toNatClampNeg + i) with
      | none => exact ⟨rfl, trivial⟩
      | some y =>
        obtain ⟨cq, q, w1, w2, w3, w4⟩ := hel i hi y hy
        obtain ⟨cellV, g1, g2, ⟨kC, hkC⟩, hasg⟩ := hR.any C.cls w1 w2 w3 (vb_asgC (E := "java/lang/Object") (C.gd.2.2.1 _ w4))
        obtain ⟨kAr, comp, r1, r2, r3, -⟩ := (C.cls.2 3 _ rfl).2
        cases hk1.symm.trans r1
        cases hkk1.symm.trans r2
        obtain ⟨kE, hkE, -⟩ := Vm.findClass_spec r3
        obtain ⟨kC', hkC', -⟩ := hal.2.2 _ _ hkC
        obtain ⟨kE', hkE', -⟩ := hal.2.2 _ _ hkE
        refine ⟨rfl, cellV, (show T.heap[y]? = some cellV by rw [hT]; exact g1), (fun q h => by rw [h] at g2; cases g2), ⟨kC', hkC'⟩, ?_, ?_⟩
        · exact ⟨kE', hkE'⟩
        · show vm₁.assignable _ _ = true
          rw [hal.assignable]
          exact hasg _ r3)
    (g := F0 m pc ls (.int n :: .int dp :: .ref a :: .int sp :: .ref a0 :: rest)) rfl (by rw [C.maxL]; exact hl.1) (rest := rest) rfl (by rw [C.bytes]; exact hd) hf (by show 2 * 0 + _ + _ ≤ _; omega)
  have e1 : copied (vp_cell (k.2.2.1 3) (gL S a0, .inr (.inr (.inr (.inr (gQ S a0)))))) (vp_cell (k.2.2.1 3) (gL S a, .inr (.inr (.inr (.inr (gQ S a)))))) sp dp n = vp_cell (k.2.2.1 3) (gL S a, .inr (.inr (.inr (.inr (va_cpy (gQ S a0) (gQ S a) sp.toNatClampNeg dp.toNatClampNeg n.toNatClampNeg))))) := by
    rw [vp_cell_q, vp_cell_q, vp_cell_q]
    exact va_copied (fun z => va_rf z) _ _ (gQ S a0) (gQ S a) h4
  rw [e1] at X' step
  have hlt : a < H.size := (Array.getElem?_eq_some_iff.mp hc1).1
  have oq : ∀ q : Nat, q ≠ a → (H.setIfInBounds a (vp_cell (k.2.2.1 3) (gL S a, .inr (.inr (.inr (.inr (va_cpy (gQ S a0) (gQ S a) sp.toNatClampNeg dp.toNatClampNeg n.toNatClampNeg)))))))[q]? = H[q]? := fun q hq => by simp [Array.getElem?_setIfInBounds, Ne.symm hq]
  obtain ⟨t, a1, b1⟩ := kk p e s m args below meth c (H.setIfInBounds a (vp_cell (k.2.2.1 3) (gL S a, .inr (.inr (.inr (.inr (va_cpy (gQ S a0) (gQ S a) sp.toNatClampNeg dp.toNatClampNeg n.toNatClampNeg))))))) _ ls C hl (hR.set (by simp) oq (fun _ => rfl) rfl (fun b hb => ce_uQ hb) (by
      rw [ce_23 (show gK (uQ S a _) a = 23 from hK), gQ_uQ, if_pos rfl]
      show (H.setIfInBounds a _)[a]? = some (vp_cell _ _)
      simp [Array.getElem?_setIfInBounds, hlt]; rfl)) ⟨by simp; exact hS.1, fun q g1 g2 => by
      rw [oq q (fun e => g2 (by rw [e]; exact hR.lo (a := a) (by rw [hK]; decide)))]
      exact hS.2.1 q g1 g2, fun q hq => by
      rcases List.mem_append.mp hq with h | h
      · exact hS.2.2 q h
      · obtain ⟨z, -, hz⟩ := List.mem_map.mp h
        rw [← hz]
        exact hR.lo (a := a) (by rw [hK]; decide)⟩ _ (by rw [← hT]; rfl) X'
  exact ⟨t, step t a1, b1⟩
