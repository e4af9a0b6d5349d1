/-! THE LAW'S ROWS -/
def Sc (k : KT) (b L : Nat) (xs : Nat → Int32) (s : State) : Prop := va_X b L xs s s.heap ∧ b < s.heap.size ∧ ¬ kA k b
/-- an end that is asked for only where G held at the start -/
def Zg (G : Array Value → State → Prop) (Z : ZT) : ZT := fun below args s t => G args s → Z below args s t
theorem w_none {G : Array Value → State → Prop} {Z : ZT} {p : Program} {l : Launch} {e : Env} {R : Room} {s : State} {m : MethodId} {args : Array Value} {below : List Frame} {meth : Method} {c : Code} {H : Heap} {locs : List Loc} {cells slots : Nat} {g : JFrame} (hn : ¬ G args s) : W p l e R s m args below meth c H locs cells slots (Zg G Z below args s) g := fun T _ _ => ⟨T.setTop g, Steps.refl _, fun h => absurd h hn⟩
theorem x_guard {k : KT} {μ : MT} {Z : ZT} {G : Array Value → State → Prop} {pc : Nat} {lv : List (Nat × Value)} {st : List Value} {S : HS} {cells slots : Nat} (h : X k μ Z pc lv st S cells slots) : X k μ (Zg G Z) pc lv st S cells slots := fun p e s m args below meth c H locs ls C hl hR hS T hT X0 => by
  obtain ⟨t, a1, b1⟩ := h p e s m args below meth c H locs ls C hl hR hS T hT X0
  exact ⟨t, a1, fun _ => b1⟩
theorem x_sldN {k : KT} {μ : MT} {Z : ZT} {G : Array Value → State → Prop} {b L : Nat} {xs : Nat → Int32} {pc : Nat} {lv : List (Nat × Value)} {rest : List Value} {S : HS} {cells slots : Nat} {i : Int32} (j : Nat) (hG : ∀ a s, G a s → Sc k b L xs s) (hd : decode μ.2.2.1 pc = .ok (.iaload, 1)) (hi : i = nI j) (hj : j < L) (hL : L ≤ 2561) (kk : X k μ (Zg G Z) (pc + 1) lv (.int (xs j) :: rest) S cells slots) : X k μ (Zg G Z) pc lv (.int i :: .ref b :: rest) S cells slots := fun p e s m args below meth cd H locs ls C hl hR hS => by
  by_cases hc : G args s
  · have h := hG args s hc
    refine va_sld (A := kA k) C.exec C.bytes h.1 h.2.1 h.2.2 hS (by rw [hi]; exact vp_in_nI hj (by omega)) hd ?_
    rw [hi, nI_clamp (by omega)]
    exact kk p e s m args below meth cd H locs ls C hl hR hS
  · exact w_none hc
theorem x_slen {k : KT} {μ : MT} {Z : ZT} {G : Array Value → State → Prop} {b L : Nat} {xs : Nat → Int32} {pc : Nat} {lv : List (Nat × Value)} {rest : List Value} {S : HS} {cells slots : Nat} (hG : ∀ a s, G a s → Sc k b L xs s) (hd : decode μ.2.2.1 pc = .ok (.arraylength, 1)) (kk : X k μ (Zg G Z) (pc + 1) lv (.int (nI L) :: rest) S cells slots) : X k μ (Zg G Z) pc lv (.ref b :: rest) S cells slots := fun p e s m args below meth cd H locs ls C hl hR hS => by
  by_cases hc : G args s
  · have h := hG args s hc
    exact va_slen (A := kA k) C.exec C.bytes h.1 h.2.1 h.2.2 hS hd (kk p e s m args below meth cd H locs ls C hl hR hS)
  · exact w_none hc
/-- all that is known of a kind is there -/
theorem x_lt {k : KT} {μ : MT} {Z : ZT} {pc : Nat} {lv : List (Nat × Value)} {st : List Value} {S : HS} {cells slots : Nat} (kk : (∀ a, gK S a ≠ 0 → a < gN S) → X k μ Z pc lv st S cells slots) : X k μ Z pc lv st S cells slots := fun p e s m args below meth c H locs ls C hl hR hS => kk (fun a ha => hR.lt ha) p e s m args below meth c H locs ls C hl hR hS
/-! cell -/
def Pce (k : KT) (b L : Nat) (xs : Nat → Int32) (S : HS) : Array Value → State → Prop := va_Pc [.ref b, .int 0] (fun U => Sc k b L xs U ∧ Rl k S U.heap ∧ Gd k U)
theorem Pce.blind {k : KT} {b L : Nat} {xs : Nat → Int32} {S : HS} : FrameBlind (Pce k b L xs S) := by
  intro a U g mk h
  obtain ⟨h1, ⟨h2, h3, h4⟩, h5, h6⟩ := h
  exact ⟨h1, ⟨va_X.moved (U := U.calling g mk a) (Vm.Alike.refl U.vm) h2, h3, h4⟩, h5, h6.calling⟩
def g0v (L : Nat) (xs : Nat → Int32) : Int32 := if 0 < L then xs 0 else 0
set_option maxRecDepth 100000 in
theorem c_cell {k : KT} {S : HS} {b L : Nat} {xs : Nat → Int32} (hL : L ≤ 2561) : Met k.1 yL_cell (.code yL_cell cL_cell 2 (some .int) :: wsL_law) (rm 1 0 0) (Pce k b L xs S) (Qc k (Pu (g0v L xs) S)) 0 0 (kA k) := by
  have hw : X k (mt_L_cell (rm 1 0 0)) (Zg (fun _ s => Sc k b L xs s) (Zm k (mt_L_cell (rm 1 0 0)) (Pu (g0v L xs) S))) 0 [(0, .ref b), (1, .int 0)] [] S 0 0 := by
    refine x_iload_n 1 dL_cell_0 rfl ?_
    refine x_aload_n 0 dL_cell_1 rfl ?_
    refine x_slen (fun _ _ h => h) dL_cell_2 ?_
    by_cases c : 0 < L
    · refine x_icmp_ge 12 dL_cell_3 (by decide) (fun z => absurd z (show ¬ nI L ≤ nI 0 from nI_ge c (by omega))) (fun _ => ?_)
      refine x_aload_n 0 dL_cell_6 rfl ?_
      refine x_iload_n 1 dL_cell_7 rfl ?_
      refine x_sldN 0 (fun _ _ h => h) dL_cell_8 rfl c hL ?_
      refine x_goto 13 dL_cell_9 (by decide) ?_
      exact x_guard (x_ireturn dL_cell_13 rfl (Nat.le_of_ble_eq_true rfl) (Nat.le_of_ble_eq_true rfl) ⟨by rw [g0v, if_pos c], rfl⟩)
    · refine x_icmp_ge 12 dL_cell_3 (by decide) (fun _ => ?_) (fun z => absurd (show nI L ≤ nI 0 from nI_le (by omega) (by decide)) z)
      refine x_iconst 0 dL_cell_12 (by decide) ?_
      exact x_guard (x_ireturn dL_cell_13 rfl (Nat.le_of_ble_eq_true rfl) (Nat.le_of_ble_eq_true rfl) ⟨by rw [g0v, if_neg c], rfl⟩)
  unfold Met
  refine MetFree.of_bodySF (code := cL_cell) (maxLocals := 2) (ret := some .int) (by decide +kernel) ?_ ?_
  · intro args s m h hn
    obtain ⟨meth, c, h1, h2, h3, h4, h5, h6, -, -⟩ := Cond.code_spec hn (atoms_spec (ws := .code yL_cell cL_cell 2 (some .int) :: wsL_law) h _ List.mem_cons_self)
    exact ⟨meth, c, h1, h2, h3, h4, h5, h6⟩
  · intro p e s m args below meth c s₁ B hml hP _
    have hh0 : s₁.heap = s.heap := by rw [B.state]; rfl
    obtain ⟨rfl, hSc, hR, hG⟩ := hP
    have hts := atoms_spec (ws := .code yL_cell cL_cell 2 (some .int) :: wsL_law) B.pre
    have hown : s.vm.findClass yL_cell.cls = some m.cls := findClass_of_methodNamed B.named
    have hnm : meth.name = yL_cell.name := (name_of_methodNamed B.named B.method).1
    have hls := lv_entry [Value.ref b, .int 0] (n := 2) (Nat.le_of_ble_eq_true rfl)
    have hW := hw p e s m [Value.ref b, .int 0].toArray below meth c s.heap [] _ ⟨B.exec, B.bytes, hml, B.returns, fun w hw => hts w (List.mem_cons_of_mem _ hw), hown, B.notSynchronized, hnm, hG⟩ hls hR va_S.rf
    rw [← lg_entry_eq] at hW
    obtain ⟨t, a1, b0⟩ := hW s₁ hh0 (Stand.of_body B)
    obtain ⟨o, b1, b2, b3⟩ := b0 hSc
    exact ⟨t, o, a1, b1, b2, ⟨b3.1, b3.2⟩⟩
theorem x_cell {k : KT} {μ : MT} {Z : ZT} {G : Array Value → State → Prop} {b L : Nat} {xs : Nat → Int32} {pc : Nat} {lv : List (Nat × Value)} {rest : List Value} {S : HS} {cells slots : Nat} (hG : ∀ a s, G a s → Sc k b L xs s) (hL : L ≤ 2561) (hy : μ.2.1.cls = RL) (hd : decode μ.2.2.1 pc = .ok (.invokestatic 9, 3)) (hrm : okR (mt_L_cell (rm 1 0 0)) μ cells slots rest) (kk : X k μ (Zg G Z) (pc + 3) lv (.int (g0v L xs) :: rest) S cells slots) : X k μ (Zg G Z) pc lv (.int 0 :: .ref b :: rest) S cells slots := fun p e s m args below meth c H locs ls C hl hR hS => by
  by_cases hc : G args s
  · have h := hG args s hc
    obtain ⟨r1, r2, r3, r4, r5⟩ := hrm
    refine x_back (mc := 0) (ms := 0) (Q := Pu (g0v L xs) S) C hl hS (va_runS (nL := μ.2.2.2.1) (As := [.ref b, .int 0]) (rest := rest) ⟨C.exec, C.bytes, C.maxL, C.own, C.words⟩ (c_cell (S := S) (b := b) (xs := xs) hL) ⟨callB_of 2 C.words (tl_good_in tw_1_9) rfl rfl rfl (C.words _ tw_1_8) (C.words _ (by rw [hy]; exact tw_1_6)) (by decide +kernel : okN yL_cell 2) ⟨r1, r2⟩, C.words _ tw_1_7⟩ ⟨Pce.blind, fun U hU hW => ⟨rfl, ⟨(va_X.moved hW.alike h.1).kept (by rw [hU]; exact hS.2.1 b h.2.1 h.2.2), by rw [hU]; exact Nat.lt_of_lt_of_le h.2.1 hS.1, h.2.2⟩, by rw [hU]; exact hR, C.gd.warm hW hU hS⟩⟩ rfl rfl hl.1 rfl (lv_room r5) hd ⟨r3, r4⟩) (fun v S' hq => ?_)
    obtain ⟨rfl, rfl⟩ := hq
    exact kk
  · exact w_none hc
/-! frames between class and reference -/
def CF (S T : HS) : Prop := gN S ≤ gN T ∧ ∀ a, a < gN S → gK T a = gK S a ∧ gL T a = gL S a ∧ gQ T a = gQ S a ∧ (∀ f, f < 256 → gI T f a = gI S f a) ∧ ∀ f, gP T f a = gP S f a
def msk (S T : HS) : HS := (T.1, (fun f a => if f < 256 then T.2.1 f a else S.2.1 f a), T.2.2.1, T.2.2.2.1, S.2.2.2.2.1, T.2.2.2.2.2)
theorem CF.ex {S T : HS} (h : CF S T) : EX S (msk S T) := ⟨h.1, fun a ha => ⟨(h.2 a ha).1, (h.2 a ha).2.1, rfl, (h.2 a ha).2.2.1, fun f => by
  show (if f < 256 then gI T f a else gI S f a) = gI S f a
  by_cases c : f < 256
  · rw [if_pos c]; exact (h.2 a ha).2.2.2.1 f c
  · rw [if_neg c], (h.2 a ha).2.2.2.2⟩⟩
theorem CX.cf {k : KT} {S T : HS} {x n c q p : Nat} {ca pa na : Nat → Nat} {σ : MS} (h : CX k S x n c q p ca pa na σ) (hF : CF S T) (hT : LW k T) : CX k T x n c q p ca pa na σ := by
  have h2 : CX k (msk S T) x n c q p ca pa na σ := h.ex hF.ex hT
  exact h2
theorem FM.cf {o : Nat} {S T : HS} (h : FM o S T) : CF S T := ⟨by rw [h.2.2.2.2.2.2]; exact Nat.le_refl _, fun a _ => ⟨h.1 a, h.2.2.2.1 a, h.2.2.2.2.2.1 a, fun f hf => h.2.1 f a hf, fun f => h.2.2.1 f a⟩⟩
theorem FM.lw {k : KT} {o : Nat} {S T : HS} (h : FM o S T) (hW : LW k S) : LW k T := by
  unfold LW
  simp only [h.1, h.2.2.1, h.2.2.2.2.2.2]; exact hW
theorem CI.fm {k : KT} {o x : Nat} {S T : HS} {σ : MS} (h : CI k S x σ) (hF : FM o S T) : CI k T x σ := by
  obtain ⟨n, c, q, p, ca, pa, na, hI⟩ := h
  exact ⟨n, c, q, p, ca, pa, na, hI.cf hF.cf (hF.lw hI.lw)⟩
