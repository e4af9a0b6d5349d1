/-- the contract out of the walk, where the method (not its whole class) is run as its bytecode says -/
theorem Ct.ofF {k : KT} {μ : MT} {av : List Value} {S : HS} {Q : Option Value → HS → Prop} (hy : plainFor μ.2.1 = true) (hl : (lg_sl av).length ≤ μ.2.2.2.1) (h : X k μ (Zm k μ Q) 0 (lv_args 0 av) [] S 0 0) : Ct k μ av S Q := by
  unfold Ct Met
  refine MetFree.of_bodySF (code := μ.2.2.1) (maxLocals := μ.2.2.2.1) (ret := μ.2.2.2.2) hy ?_ ?_
  · intro args s m h hn
    obtain ⟨meth, c, h1, h2, h3, h4, h5, h6, -, -⟩ := Cond.code_spec hn (atoms_spec (ws := .code μ.2.1 μ.2.2.1 μ.2.2.2.1 μ.2.2.2.2 :: wsL_law) h _ List.mem_cons_self)
    exact ⟨meth, c, h1, h2, h3, h4, h5, h6⟩
  · intro p e s m args below meth c s₁ B hml hP _
    have hh0 : s₁.heap = s.heap := by rw [B.state]; rfl
    obtain ⟨rfl, hR, hG⟩ := hP
    have hts := atoms_spec (ws := .code μ.2.1 μ.2.2.1 μ.2.2.2.1 μ.2.2.2.2 :: wsL_law) B.pre
    have hown : s.vm.findClass μ.2.1.cls = some m.cls := findClass_of_methodNamed B.named
    have hnm : meth.name = μ.2.1.name := (name_of_methodNamed B.named B.method).1
    have hls := lv_entry av (n := μ.2.2.2.1) hl
    have hW := h p e s m av.toArray below meth c s.heap [] _ ⟨B.exec, B.bytes, hml, B.returns, fun w hw => hts w (List.mem_cons_of_mem _ hw), hown, B.notSynchronized, hnm, hG⟩ hls hR va_S.rf
    rw [← lg_entry_eq] at hW
    obtain ⟨t, a1, o, b1, b2, b3⟩ := hW s₁ hh0 (Stand.of_body B)
    exact ⟨t, o, a1, b1, b2, ⟨b3.1, b3.2⟩⟩
