/-! ROWS OF THE HEAP over the judgement X -/
theorem vP1 {D : va_G} {cl : List vw_C} {a : Nat} {e : va_E} {H : Heap} (h : va_at D cl (a, e) H) : va_P D cl [(a, e)] H := by
  intro i q hq
  match i, hq with
  | 0, hq => cases hq; exact h
  | i + 1, hq => simp at hq
theorem Rl.at {k : KT} {S : HS} {H : Heap} (h : Rl k S H) {a c : Nat} (hK : gK S a = c + 1) (h9 : c < 9) : va_at k.2.1 vwCl (a, .inr (c, fv S c a)) H := by
  have h1 := (h.2 a (by omega)).2
  rw [ce_o hK h9] at h1
  exact h1
theorem Rl.lo {k : KT} {S : HS} {H : Heap} (h : Rl k S H) {a : Nat} (hK : gK S a ≠ 0) : kA k a := (h.2 a hK).1
theorem Cx.exec {k : KT} {μ : MT} {p : Program} {s : State} {m : MethodId} {args : Array Value} {meth : Method} {c : Code} (C : Cx k μ p s m args meth c) : p.tables.exec = Jvm.exec := C.1
theorem Cx.bytes {k : KT} {μ : MT} {p : Program} {s : State} {m : MethodId} {args : Array Value} {meth : Method} {c : Code} (C : Cx k μ p s m args meth c) : c.code = μ.2.2.1 := C.2.1
theorem Cx.maxL {k : KT} {μ : MT} {p : Program} {s : State} {m : MethodId} {args : Array Value} {meth : Method} {c : Code} (C : Cx k μ p s m args meth c) : c.maxLocals = μ.2.2.2.1 := C.2.2.1
theorem Cx.words {k : KT} {μ : MT} {p : Program} {s : State} {m : MethodId} {args : Array Value} {meth : Method} {c : Code} (C : Cx k μ p s m args meth c) : ∀ w ∈ wsL_law, w.before args s = true := C.2.2.2.2.1
theorem Cx.own {k : KT} {μ : MT} {p : Program} {s : State} {m : MethodId} {args : Array Value} {meth : Method} {c : Code} (C : Cx k μ p s m args meth c) : s.vm.findClass μ.2.1.cls = some m.cls := C.2.2.2.2.2.1
theorem Cx.name {k : KT} {μ : MT} {p : Program} {s : State} {m : MethodId} {args : Array Value} {meth : Method} {c : Code} (C : Cx k μ p s m args meth c) : meth.name = μ.2.1.name := C.2.2.2.2.2.2.2.1
theorem Cx.gd {k : KT} {μ : MT} {p : Program} {s : State} {m : MethodId} {args : Array Value} {meth : Method} {c : Code} (C : Cx k μ p s m args meth c) : Gd k s := C.2.2.2.2.2.2.2.2
theorem Cx.cls {k : KT} {μ : MT} {p : Program} {s : State} {m : MethodId} {args : Array Value} {meth : Method} {c : Code} (C : Cx k μ p s m args meth c) : va_K k.2.1 vwCl (kT k) s := C.gd.1
theorem x_get {k : KT} {μ : MT} {Z : ZT} {pc : Nat} {lv : List (Nat × Value)} {rest : List Value} {S : HS} {cells slots a idx : Nat} {Cn ref : String} {T : u_T} {N : Nat} {b : Bool} (c j : Nat) (hd : decode μ.2.2.1 pc = .ok (.getfield idx, 3)) (hc : vwCl[c]? = some (Cn, T, N)) (h9 : c < 9) (hj : j < N) (hr : (rfT c)[j]? = some b) (hin : ∀ w ∈ u_ws Cn T N, w ∈ wsL_law) (hw : Cond.fieldLink μ.2.1.cls idx ref (T j).2.1 (T j).2.2.1 ∈ wsL_law) (hsm : (T j).1 = ref ∨ Cond.sameField ref (T j).1 (T j).2.1 (T j).2.2.1 ∈ wsL_law) (hK : gK S a = c + 1) (kk : X k μ Z (pc + 3) lv ((if b then va_rf (gP S (32 * c + j) a) else .int (gI S (32 * c + j) a)) :: rest) S cells slots) : X k μ Z pc lv (.ref a :: rest) S cells slots := by
  intro p e s m args below meth cd H locs ls C hl hR hS
  refine va_get (D := k.2.1) (cl := vwCl) (ci := c) C.exec C.bytes C.words hin C.own C.cls (vP1 (hR.at hK h9)) 0 rfl hc j hj (C.words _ hw) (fun x hx => ?_) (fv_get S a hr) hd (kk p e s m args below meth cd H locs ls C hl hR hS)
  rcases hsm with h | h
  · rw [← h]; exact hx
  · exact u_same (C.words _ h) x hx
theorem x_put {k : KT} {μ : MT} {Z : ZT} {pc : Nat} {lv : List (Nat × Value)} {rest : List Value} {S S' : HS} {cells slots a idx : Nat} {Cn ref : String} {T : u_T} {N : Nat} {ty : FieldType} {v : Value} (c j : Nat) (ty0 : Nat → FieldType) (hd : decode μ.2.2.1 pc = .ok (.putfield idx, 3)) (hc : vwCl[c]? = some (Cn, T, N)) (h9 : c < 9) (hj : j < N) (hin : ∀ w ∈ u_ws Cn T N, w ∈ wsL_law) (hty : ∀ k, k < N → parseFieldDescriptor (T k).2.2.1 = some (ty0 k)) (hnm : ∀ a, a < N → ∀ b, b < N → a ≠ b → (T a).2.1 ≠ (T b).2.1) (hw : Cond.fieldLink μ.2.1.cls idx ref (T j).2.1 (T j).2.2.1 ∈ wsL_law) (hsm : (T j).1 = ref ∨ Cond.sameField ref (T j).1 (T j).2.1 (T j).2.2.1 ∈ wsL_law) (hfin : (T j).2.2.2 = false ∨ ((T j).2.2.2 = true ∧ μ.2.1.name = "<init>" ∧ (T j).1 = μ.2.1.cls)) (hds : parseFieldDescriptor (T j).2.2.1 = some ty) (hn : narrow ty v = v) (hfit : fits ty v = true) (hK : gK S a = c + 1)
    (hKs : ∀ b, gK S' b = gK S b) (hNs : gN S' = gN S) (hce : ∀ b, b ≠ a → ce k S' b = ce k S b) (hlen : j < (fv S c a).length) (hfv : fv S' c a = (fv S c a).set j v) (kk : X k μ Z (pc + 3) lv rest S' cells slots) : X k μ Z pc lv (v :: .ref a :: rest) S cells slots := by
  intro p e s m args below meth cd H locs ls C hl hR hS
  have hsame : ∀ x, s.fieldFound? (T j).1 (T j).2.1 (T j).2.2.1 = some x → s.fieldFound? ref (T j).2.1 (T j).2.2.1 = some x := fun x hx => by
    rcases hsm with h | h
    · rw [← h]; exact hx
    · exact u_same (C.words _ h) x hx
  have hap := va_apart (own := μ.2.1.cls) C.words hin ty0 hty hnm C.cls hc
  obtain ⟨r, h1, cell, q1, q2, q3, q4⟩ := hR.at hK h9
  have hr : r = (Cn, T, N) := Option.some.inj (h1.symm.trans hc)
  subst hr
  obtain ⟨hS1, hfc, kC, hkC, hkind⟩ := C.cls.1 c _ hc
  obtain ⟨cf, kf, fi, f, hi, hsl⟩ := hS1 j hj
  have hlay := C.words _ (hin _ (u_in_lay hj))
  have hst := (u_facts hfc hkC (u_lays C.words hin hj) hi).1
  have fin : ∀ (H' : Heap), H'[a]? = some (cell.setSlot f.slot v) → H'.size = H.size → (∀ q, q ≠ a → H'[q]? = H[q]?) → Rl k S' H' := by
    intro H' e1 e2 e3
    rw [hsl] at e1
    refine hR.set e2 e3 hKs hNs hce ?_
    rw [ce_o (show gK S' a = c + 1 by rw [hKs]; exact hK) h9, hfv]
    exact ⟨_, hc, t_OB.to (V := updV (vp_V (fv S c a)) j v) ⟨_, e1, q2, q3, t_set q4 hap hj v⟩ (fun i _ => vp_updV_set hlen v i)⟩
  have hA : kA k a := hR.lo (by omega)
  rcases hfin with hfin | ⟨hfin, hin2, hdecl⟩
  · unfold u_lay at hlay
    rw [if_neg (by rw [hfin]; decide)] at hlay
    have h6 := u_store hfc hkC hkind hlay hi hds hn hfit
    exact W.putK C.exec C.bytes (f := f) ⟨C.own, C.words _ hw, ⟨_, _, _, hsame _ hi⟩, hst⟩ (by rw [q2]; exact h6) q1 q3 (by rw [hsl]; exact k2_hasslot (q4 j hj)) rfl rfl hd fun H' e1 e2 e3 => kk p e s m args below meth cd H' _ ls C hl (fin H' e1 e2 e3) (hS.put e2 e3 hA)
  · unfold u_lay at hlay
    rw [if_pos hfin] at hlay
    have hcf : m.cls = cf := by
      obtain ⟨_, _, c', _, _, _, -, -, hf', -, -, -, hown2, -⟩ := Cond.laysFinal_spec hlay
      have e1 : c' = cf := by have := hi.symm.trans hf'; simp at this; exact this.1.symm
      rw [hdecl] at hown2
      rw [← e1]; exact Option.some.inj (C.own.symm.trans hown2)
    have h6 := u_fits hfc hkC hkind (Or.inr hlay) hi hds hn hfit
    exact W.putFinK C.exec C.bytes C.own (C.words _ hw) (hsame _ hi) hst hcf (C.name.trans hin2) (by rw [q2]; exact h6) q1 q3 (by rw [hsl]; exact k2_hasslot (q4 j hj)) rfl rfl hd fun H' e1 e2 e3 => kk p e s m args below meth cd H' _ ls C hl (fin H' e1 e2 e3) (hS.put e2 e3 hA)
theorem x_putI {k : KT} {μ : MT} {Z : ZT} {pc : Nat} {lv : List (Nat × Value)} {rest : List Value} {S : HS} {cells slots a idx : Nat} {Cn ref : String} {T : u_T} {N : Nat} {ty : FieldType} {v : Int32} (c j : Nat) (ty0 : Nat → FieldType) (hd : decode μ.2.2.1 pc = .ok (.putfield idx, 3)) (hc : vwCl[c]? = some (Cn, T, N)) (h9 : c < 9) (hj : j < N) (hr : (rfT c)[j]? = some false) (hin : ∀ w ∈ u_ws Cn T N, w ∈ wsL_law) (hty : ∀ k, k < N → parseFieldDescriptor (T k).2.2.1 = some (ty0 k)) (hnm : ∀ a, a < N → ∀ b, b < N → a ≠ b → (T a).2.1 ≠ (T b).2.1) (hw : Cond.fieldLink μ.2.1.cls idx ref (T j).2.1 (T j).2.2.1 ∈ wsL_law) (hsm : (T j).1 = ref ∨ Cond.sameField ref (T j).1 (T j).2.1 (T j).2.2.1 ∈ wsL_law) (hfin : (T j).2.2.2 = false ∨ ((T j).2.2.2 = true ∧ μ.2.1.name = "<init>" ∧ (T j).1 = μ.2.1.cls)) (hds : parseFieldDescriptor (T j).2.2.1 = some ty) (hn : narrow ty (.int v) = .int v) (hfit : fits ty (.int v) = true) (hK : gK S a = c + 1)
    (kk : X k μ Z (pc + 3) lv rest (uI S (32 * c + j) a v) cells slots) : X k μ Z pc lv (.int v :: .ref a :: rest) S cells slots :=
  x_put (S' := uI S (32 * c + j) a v) c j ty0 hd hc h9 hj hin hty hnm hw hsm hfin hds hn hfit hK (fun _ => rfl) rfl (fun _ h => ce_uI h) (by rw [fv_len]; exact (List.getElem?_eq_some_iff.mp hr).1) (fv_setI S a v hr) kk
theorem x_putP {k : KT} {μ : MT} {Z : ZT} {pc : Nat} {lv : List (Nat × Value)} {rest : List Value} {S : HS} {cells slots a idx : Nat} {Cn ref : String} {T : u_T} {N : Nat} {ty : FieldType} {v : Nat} (c j : Nat) (ty0 : Nat → FieldType) (hd : decode μ.2.2.1 pc = .ok (.putfield idx, 3)) (hc : vwCl[c]? = some (Cn, T, N)) (h9 : c < 9) (hj : j < N) (hr : (rfT c)[j]? = some true) (hin : ∀ w ∈ u_ws Cn T N, w ∈ wsL_law) (hty : ∀ k, k < N → parseFieldDescriptor (T k).2.2.1 = some (ty0 k)) (hnm : ∀ a, a < N → ∀ b, b < N → a ≠ b → (T a).2.1 ≠ (T b).2.1) (hw : Cond.fieldLink μ.2.1.cls idx ref (T j).2.1 (T j).2.2.1 ∈ wsL_law) (hsm : (T j).1 = ref ∨ Cond.sameField ref (T j).1 (T j).2.1 (T j).2.2.1 ∈ wsL_law) (hfin : (T j).2.2.2 = false ∨ ((T j).2.2.2 = true ∧ μ.2.1.name = "<init>" ∧ (T j).1 = μ.2.1.cls)) (hds : parseFieldDescriptor (T j).2.2.1 = some ty) (hn : narrow ty (.ref v) = .ref v) (hfit : fits ty (.ref v) = true) (hK : gK S a = c + 1)
    (kk : X k μ Z (pc + 3) lv rest (uP S (32 * c + j) a (some v)) cells slots) : X k μ Z pc lv (.ref v :: .ref a :: rest) S cells slots :=
  x_put (S' := uP S (32 * c + j) a (some v)) c j ty0 hd hc h9 hj hin hty hnm hw hsm hfin hds hn hfit hK (fun _ => rfl) rfl (fun _ h => ce_uP h) (by rw [fv_len]; exact (List.getElem?_eq_some_iff.mp hr).1) (fv_setP S a (some v) hr) kk
theorem fv_new (S : HS) (c : Nat) : fv (nO S c) c (gN S) = (rfT c).map (fun b => if b then Value.null else .int 0) := by
  apply List.ext_getElem?
  intro i
  simp only [fv, List.getElem?_map, List.getElem?_zipIdx]
  cases hb : (rfT c)[i]? with
  | none => rfl
  | some b => cases b <;> simp [gI_nO, gP_nO, va_rf]
theorem x_new {k : KT} {μ : MT} {Z : ZT} {pc : Nat} {lv : List (Nat × Value)} {rest : List Value} {S : HS} {cells slots idx : Nat} {Cn : String} {T : u_T} {N : Nat} (c : Nat) (ty : Nat → FieldType) (hd : decode μ.2.2.1 pc = .ok (.new idx, 3)) (hc : vwCl[c]? = some (Cn, T, N)) (h9 : c < 9) (hin : ∀ w ∈ u_ws Cn T N, w ∈ wsL_law) (hty : ∀ k, k < N → parseFieldDescriptor (T k).2.2.1 = some (ty k)) (hcl : Cond.classLink μ.2.1.cls idx Cn ∈ wsL_law) (hinst : Cond.instantiable Cn N ∈ wsL_law) (hini : Cond.initialized Cn ∈ wsL_law) (hfs : ∀ j, j < N → defaultValue (ty j) = vp_V ((rfT c).map (fun b => if b then Value.null else .int 0)) j) (hce : cells + 1 ≤ μ.1.cells) (hsl : slots + N ≤ μ.1.slots)
    (kk : X k μ Z (pc + 3) lv (.ref (gN S) :: rest) (nO S c) (cells + 1) (slots + N)) : X k μ Z pc lv rest S cells slots := by
  intro p e s m args below meth cd H locs ls C hl hR hS
  have hKn := C.cls.1 c _ hc
  refine W.newcK C.exec C.bytes C.own (C.words _ hcl) (C.words _ hinst) (C.words _ hini) rfl hd hce hsl hKn.2.1 hR.1 fun H1 kC hkC e1 z1 o1 => ?_
  have hlo : k.2.2.2.2 ≤ H.size := Nat.le_trans C.gd.2.2.2.2.2.2.2.2 hS.1
  rw [← hR.1] at o1
  refine kk p e s m args below meth cd H1 locs ls C hl (hR.push (S' := nO S c) (by rw [z1, hR.1]) o1 hlo (fun b hb => by rw [gK_nO, if_neg hb]) (gN_nO S c) (fun b hb => ce_nO hb) ?_) ⟨Nat.le_trans hS.1 (by rw [z1, hR.1]; omega), fun x h1 h2 => (o1 x (Nat.lt_of_lt_of_le h1 hS.1)).trans (hS.2.1 x h1 h2), hS.2.2⟩
  rw [ce_o (show gK (nO S c) (gN S) = c + 1 by rw [gK_nO, if_pos rfl]) h9, fv_new]
  exact ⟨_, hc, (u_born ty C.words hin hKn hkC e1 hty).to hfs⟩
