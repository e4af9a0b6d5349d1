/-! ROWS OF ARRAYS, STATICS, CASTS over the judgement X -/
theorem Rl.at20 {k : KT} {S : HS} {H : Heap} (h : Rl k S H) {a : Nat} (hK : gK S a = 20) : va_at k.2.1 vwCl (a, .inl (k.2.2.1 0, gL S a, .inl (gR S a))) H := by
  have h1 := (h.2 a (by omega)).2
  rw [ce_20 hK] at h1; exact h1
theorem Rl.at21 {k : KT} {S : HS} {H : Heap} (h : Rl k S H) {a : Nat} (hK : gK S a = 21) : va_at k.2.1 vwCl (a, .inl (k.2.2.1 1, gL S a, .inl (gR S a))) H := by
  have h1 := (h.2 a (by omega)).2
  rw [ce_21 hK] at h1; exact h1
theorem Rl.at22 {k : KT} {S : HS} {H : Heap} (h : Rl k S H) {a : Nat} (hK : gK S a = 22) : va_at k.2.1 vwCl (a, .inl (k.2.2.1 2, gL S a, .inr (.inr (.inr (.inr (gQ S a)))))) H := by
  have h1 := (h.2 a (by omega)).2
  rw [ce_22 hK] at h1; exact h1
theorem Rl.at23 {k : KT} {S : HS} {H : Heap} (h : Rl k S H) {a : Nat} (hK : gK S a = 23) : va_at k.2.1 vwCl (a, .inl (k.2.2.1 3, gL S a, .inr (.inr (.inr (.inr (gQ S a)))))) H := by
  have h1 := (h.2 a (by omega)).2
  rw [ce_23 hK] at h1; exact h1
theorem x_iaload {k : KT} {μ : MT} {Z : ZT} {pc : Nat} {lv : List (Nat × Value)} {rest : List Value} {S : HS} {cells slots a : Nat} {i : Int32} (hd : decode μ.2.2.1 pc = .ok (.iaload, 1)) (hK : gK S a = 20) (hin : vp_in i (gL S a)) (kk : X k μ Z (pc + 1) lv (.int (gR S a i.toNatClampNeg) :: rest) S cells slots) : X k μ Z pc lv (.int i :: .ref a :: rest) S cells slots := fun p e s m args below meth cd H locs ls C hl hR hS =>
  va_iald (D := k.2.1) (cl := vwCl) C.exec C.bytes C.cls (vP1 (hR.at20 hK)) 0 0 rfl rfl hin hd (kk p e s m args below meth cd H locs ls C hl hR hS)
theorem x_baload {k : KT} {μ : MT} {Z : ZT} {pc : Nat} {lv : List (Nat × Value)} {rest : List Value} {S : HS} {cells slots a : Nat} {i : Int32} (hd : decode μ.2.2.1 pc = .ok (.baload, 1)) (hK : gK S a = 21) (hin : vp_in i (gL S a)) (kk : X k μ Z (pc + 1) lv (.int (gR S a i.toNatClampNeg) :: rest) S cells slots) : X k μ Z pc lv (.int i :: .ref a :: rest) S cells slots := fun p e s m args below meth cd H locs ls C hl hR hS =>
  va_zald (D := k.2.1) (cl := vwCl) C.exec C.bytes C.cls (vP1 (hR.at21 hK)) 0 1 rfl rfl hin hd (kk p e s m args below meth cd H locs ls C hl hR hS)
theorem x_aaload22 {k : KT} {μ : MT} {Z : ZT} {pc : Nat} {lv : List (Nat × Value)} {rest : List Value} {S : HS} {cells slots a : Nat} {i : Int32} (hd : decode μ.2.2.1 pc = .ok (.aaload, 1)) (hK : gK S a = 22) (hin : vp_in i (gL S a)) (kk : X k μ Z (pc + 1) lv (va_rf (gQ S a i.toNatClampNeg) :: rest) S cells slots) : X k μ Z pc lv (.int i :: .ref a :: rest) S cells slots := fun p e s m args below meth cd H locs ls C hl hR hS =>
  va_aldq (D := k.2.1) (cl := vwCl) C.exec C.bytes C.cls (vP1 (hR.at22 hK)) 0 2 rfl rfl hin hd (kk p e s m args below meth cd H locs ls C hl hR hS)
theorem x_aaload23 {k : KT} {μ : MT} {Z : ZT} {pc : Nat} {lv : List (Nat × Value)} {rest : List Value} {S : HS} {cells slots a : Nat} {i : Int32} (hd : decode μ.2.2.1 pc = .ok (.aaload, 1)) (hK : gK S a = 23) (hin : vp_in i (gL S a)) (kk : X k μ Z (pc + 1) lv (va_rf (gQ S a i.toNatClampNeg) :: rest) S cells slots) : X k μ Z pc lv (.int i :: .ref a :: rest) S cells slots := fun p e s m args below meth cd H locs ls C hl hR hS =>
  va_aldq (D := k.2.1) (cl := vwCl) C.exec C.bytes C.cls (vP1 (hR.at23 hK)) 0 3 rfl rfl hin hd (kk p e s m args below meth cd H locs ls C hl hR hS)
theorem x_alen {k : KT} {μ : MT} {Z : ZT} {pc : Nat} {lv : List (Nat × Value)} {rest : List Value} {S : HS} {cells slots a : Nat} (hd : decode μ.2.2.1 pc = .ok (.arraylength, 1)) (hK : gK S a = 20 ∨ gK S a = 22 ∨ gK S a = 23) (kk : X k μ Z (pc + 1) lv (.int (nI (gL S a)) :: rest) S cells slots) : X k μ Z pc lv (.ref a :: rest) S cells slots := fun p e s m args below meth cd H locs ls C hl hR hS => by
  rcases hK with hK | hK | hK
  · exact va_alen (D := k.2.1) (cl := vwCl) C.exec C.bytes C.cls (vP1 (hR.at20 hK)) 0 0 rfl (ty := .int) rfl (v := nI (gL S a)) rfl hd (kk p e s m args below meth cd H locs ls C hl hR hS)
  · exact va_alen (D := k.2.1) (cl := vwCl) C.exec C.bytes C.cls (vP1 (hR.at22 hK)) 0 2 rfl (ty := .object "GlobeWorks$Gore") rfl (v := nI (gL S a)) rfl hd (kk p e s m args below meth cd H locs ls C hl hR hS)
  · exact va_alen (D := k.2.1) (cl := vwCl) C.exec C.bytes C.cls (vP1 (hR.at23 hK)) 0 3 rfl (ty := .object "java/lang/Object") rfl (v := nI (gL S a)) rfl hd (kk p e s m args below meth cd H locs ls C hl hR hS)
theorem x_iastore {k : KT} {μ : MT} {Z : ZT} {pc : Nat} {lv : List (Nat × Value)} {rest : List Value} {S : HS} {cells slots a : Nat} {i x : Int32} (hd : decode μ.2.2.1 pc = .ok (.iastore, 1)) (hK : gK S a = 20) (hin : vp_in i (gL S a)) (kk : X k μ Z (pc + 1) lv rest (uR S a (upd (gR S a) i.toNatClampNeg x)) cells slots) : X k μ Z pc lv (.int x :: .int i :: .ref a :: rest) S cells slots := fun p e s m args below meth cd H locs ls C hl hR hS => by
  refine W.iast C.exec C.bytes (hR.at20 hK) ((C.cls.2 0 _ rfl).1 (gL S a) (fun j => .int (gR S a j))) (fun q => by cases q) (by show ¬ (i < 0 ∨ (arrV _ _ _).slots.size ≤ _); rw [arrV_size]; exact hin) rfl rfl hd fun H1 e1 z oq => ?_
  refine kk p e s m args below meth cd H1 _ ls C hl (hR.set z oq (fun _ => rfl) rfl (fun b hb => ce_uR hb) ?_) (hS.put z oq (hR.lo (a := a) (by rw [hK]; decide)))
  rw [ce_20 (show gK (uR S a _) a = 20 from hK)]
  show H1[a]? = some (vp_cell _ _)
  rw [e1, vp_cell_i, vp_cell_i, arrV_store, gR_uR, if_pos rfl]
  show some (arrV _ _ _) = some (arrV _ (gL S a) _)
  congr 2
  funext q
  by_cases hq : q = i.toNatClampNeg
  · subst hq; simp [updV, upd]
  · simp [updV, upd, hq]
theorem x_bastore {k : KT} {μ : MT} {Z : ZT} {pc : Nat} {lv : List (Nat × Value)} {rest : List Value} {S : HS} {cells slots a : Nat} {i x : Int32} (hd : decode μ.2.2.1 pc = .ok (.bastore, 1)) (hK : gK S a = 21) (hin : vp_in i (gL S a)) (hx : narrow .boolean (.int x) = .int x) (kk : X k μ Z (pc + 1) lv rest (uR S a (upd (gR S a) i.toNatClampNeg x)) cells slots) : X k μ Z pc lv (.int x :: .int i :: .ref a :: rest) S cells slots := fun p e s m args below meth cd H locs ls C hl hR hS => by
  refine W.zast C.exec C.bytes (hR.at21 hK) ((C.cls.2 1 _ rfl).1 (gL S a) (fun j => .int (gR S a j))) (fun q => by cases q) (by show ¬ (i < 0 ∨ (arrV _ _ _).slots.size ≤ _); rw [arrV_size]; exact hin) rfl rfl hd fun H1 e1 z oq => ?_
  refine kk p e s m args below meth cd H1 _ ls C hl (hR.set z oq (fun _ => rfl) rfl (fun b hb => ce_uR hb) ?_) (hS.put z oq (hR.lo (a := a) (by rw [hK]; decide)))
  rw [ce_21 (show gK (uR S a _) a = 21 from hK)]
  show H1[a]? = some (vp_cell _ _)
  rw [e1, hx, vp_cell_i, vp_cell_i, arrV_store, gR_uR, if_pos rfl]
  show some (arrV _ _ _) = some (arrV _ (gL S a) _)
  congr 2
  funext q
  by_cases hq : q = i.toNatClampNeg
  · subst hq; simp [updV, upd]
  · simp [updV, upd, hq]
/-- an object of a class may stand in a row of Objects -/
theorem Rl.any {k : KT} {S : HS} {H : Heap} {s : State} (h : Rl k S H) (hK : va_K k.2.1 vwCl (kT k) s) {v c : Nat} {q : vw_C} {E : String} (hv : gK S v = c + 1) (h9 : c < 9) (hc : vwCl[c]? = some q) (hca : ∀ comp c0 : ClassId, s.vm.findClass E = some comp → s.vm.findClass q.1 = some c0 → s.vm.assignable c0 comp = true) : va_Any E s H v :=
  va_rAny hK (vP1 (h.at hv h9)) (q0 := 0) rfl hc hca
theorem x_aastore {k : KT} {μ : MT} {Z : ZT} {pc : Nat} {lv : List (Nat × Value)} {rest : List Value} {S : HS} {cells slots a v c : Nat} {q : vw_C} {i : Int32} (hd : decode μ.2.2.1 pc = .ok (.aastore, 1)) (hK : gK S a = 23) (hin : vp_in i (gL S a)) (hv : gK S v = c + 1) (h9 : c < 9) (hc : vwCl[c]? = some q) (hcs : (q.1, "java/lang/Object") ∈ csL) (kk : X k μ Z (pc + 1) lv rest (uQ S a (va_up (gQ S a) i.toNatClampNeg (some v))) cells slots) : X k μ Z pc lv (.ref v :: .int i :: .ref a :: rest) S cells slots := fun p e s m args below meth cd H locs ls C hl hR hS => by
  have hlt : i.toNatClampNeg < gL S a := Nat.not_le.mp fun q => hin (Or.inr q)
  have h0 : ¬ i < 0 := fun q => hin (Or.inl q)
  obtain ⟨cellV, g1, g3, ⟨kC, hkC⟩, hasg⟩ := hR.any C.cls hv h9 hc (vb_asgC (E := "java/lang/Object") (C.gd.2.2.1 _ hcs))
  obtain ⟨kA, comp, k1, k2, k3, -⟩ := (C.cls.2 3 _ rfl).2
  obtain ⟨kE, hkE, -⟩ := Vm.findClass_spec k3
  refine W.aast C.exec C.bytes (hR.at23 hK) (fun q h => by cases h) (fun h => by cases h) k1 k2 rfl hkE ⟨h0, by show _ < (arrV _ _ _).slots.size; rw [arrV_size]; exact hlt⟩ g1 (fun q h => by rw [h] at g3; cases g3) hkC (hasg _ k3) rfl rfl hd fun H1 e1 z oq => ?_
  refine kk p e s m args below meth cd H1 _ ls C hl (hR.set z oq (fun _ => rfl) rfl (fun b hb => ce_uQ hb) ?_) (hS.put z oq (hR.lo (a := a) (by rw [hK]; decide)))
  rw [ce_23 (show gK (uQ S a _) a = 23 from hK)]
  show H1[a]? = some (vp_cell _ _)
  rw [e1, vp_cell_q, vp_cell_q, arrV_store, gQ_uQ, if_pos rfl]
  show some (arrV _ _ _) = some (arrV _ (gL S a) _)
  congr 2
  funext q
  by_cases hq : q = i.toNatClampNeg
  · subst hq; simp [updV, va_up, va_rf]
  · simp [updV, va_up, hq]
theorem x_aastoreN {k : KT} {μ : MT} {Z : ZT} {pc : Nat} {lv : List (Nat × Value)} {rest : List Value} {S : HS} {cells slots a : Nat} {i : Int32} (hd : decode μ.2.2.1 pc = .ok (.aastore, 1)) (hK : gK S a = 23) (hin : vp_in i (gL S a)) (kk : X k μ Z (pc + 1) lv rest (uQ S a (va_up (gQ S a) i.toNatClampNeg none)) cells slots) : X k μ Z pc lv (.null :: .int i :: .ref a :: rest) S cells slots := fun p e s m args below meth cd H locs ls C hl hR hS => by
  refine va_WaastN (C := "java/lang/Object") C.exec C.bytes (hR.at23 hK) ((C.cls.2 3 _ rfl).1 (gL S a) (fun j => va_rf (gQ S a j))) (fun h => by cases h) (by show ¬ (i < 0 ∨ (arrV _ _ _).slots.size ≤ _); rw [arrV_size]; exact hin) rfl rfl hd fun H1 e1 z oq => ?_
  refine kk p e s m args below meth cd H1 _ ls C hl (hR.set z oq (fun _ => rfl) rfl (fun b hb => ce_uQ hb) ?_) (hS.put z oq (hR.lo (a := a) (by rw [hK]; decide)))
  rw [ce_23 (show gK (uQ S a _) a = 23 from hK)]
  show H1[a]? = some (vp_cell _ _)
  rw [e1, vp_cell_q, vp_cell_q, arrV_store, gQ_uQ, if_pos rfl]
  show some (arrV _ _ _) = some (arrV _ (gL S a) _)
  congr 2
  funext q
  by_cases hq : q = i.toNatClampNeg
  · subst hq; simp [updV, va_up, va_rf]
  · simp [updV, va_up, hq]
/-- a gore is put into the row of gores -/
theorem x_aastore22 {k : KT} {μ : MT} {Z : ZT} {pc : Nat} {lv : List (Nat × Value)} {rest : List Value} {S : HS} {cells slots a v : Nat} {i : Int32} (hd : decode μ.2.2.1 pc = .ok (.aastore, 1)) (hK : gK S a = 22) (hin : vp_in i (gL S a)) (hv : gK S v = 3) (kk : X k μ Z (pc + 1) lv rest (uQ S a (va_up (gQ S a) i.toNatClampNeg (some v))) cells slots) : X k μ Z pc lv (.ref v :: .int i :: .ref a :: rest) S cells slots := fun p e s m args below meth cd H locs ls C hl hR hS => by
  have hlt : i.toNatClampNeg < gL S a := Nat.not_le.mp fun q => hin (Or.inr q)
  have h0 : ¬ i < 0 := fun q => hin (Or.inl q)
  obtain ⟨cellV, g1, g3, ⟨kC, hkC⟩, hasg⟩ := hR.any C.cls (c := 2) (q := (RX1, TX1, 5)) (E := "GlobeWorks$Gore") hv (by decide) rfl (vb_asgS (C := "GlobeWorks$Gore"))
  obtain ⟨kA, comp, k1, k2, k3, -⟩ := (C.cls.2 2 _ rfl).2
  obtain ⟨kE, hkE, -⟩ := Vm.findClass_spec k3
  refine W.aast C.exec C.bytes (hR.at22 hK) (fun q h => by cases h) (fun h => by cases h) k1 k2 rfl hkE ⟨h0, by show _ < (arrV _ _ _).slots.size; rw [arrV_size]; exact hlt⟩ g1 (fun q h => by rw [h] at g3; cases g3) hkC (hasg _ k3) rfl rfl hd fun H1 e1 z oq => ?_
  refine kk p e s m args below meth cd H1 _ ls C hl (hR.set z oq (fun _ => rfl) rfl (fun b hb => ce_uQ hb) ?_) (hS.put z oq (hR.lo (a := a) (by rw [hK]; decide)))
  rw [ce_22 (show gK (uQ S a _) a = 22 from hK)]
  show H1[a]? = some (vp_cell _ _)
  rw [e1, vp_cell_q, vp_cell_q, arrV_store, gQ_uQ, if_pos rfl]
  show some (arrV _ _ _) = some (arrV _ (gL S a) _)
  congr 2
  funext q
  by_cases hq : q = i.toNatClampNeg
  · subst hq; simp [updV, va_up, va_rf]
  · simp [updV, va_up, hq]
theorem x_newaI {k : KT} {μ : MT} {Z : ZT} {pc : Nat} {lv : List (Nat × Value)} {rest : List Value} {S : HS} {cells slots : Nat} {n : Int32} (N : Nat) (hd : decode μ.2.2.1 pc = .ok (.newarray .int, 2)) (hw : Cond.arrayClass .int ∈ wsL_law) (hn : ¬ n < 0) (hN : n.toNatClampNeg = N) (hb : N * 4 ≤ 536870912) (hce : cells + 1 ≤ μ.1.cells) (hsl : slots + N ≤ μ.1.slots) (kk : X k μ Z (pc + 2) lv (.ref (gN S) :: rest) (nA S 20 N) (cells + 1) (slots + N)) : X k μ Z pc lv (.int n :: rest) S cells slots := fun p e s m args below meth cd H locs ls C hl hR hS => by
  refine va_newaK C.exec C.bytes (atype := .int) (C.words _ hw) rfl hd rfl hn hN hb hce hsl hR.1 fun H1 cA e1 z1 o1 hAr hNm => ?_
  have hcA : cA = k.2.2.1 0 := Option.some.inj (hNm.symm.trans (C.cls.2 0 _ rfl).2)
  subst hcA
  have hlo : k.2.2.2.2 ≤ H.size := Nat.le_trans C.gd.2.2.2.2.2.2.2.2 hS.1
  rw [← hR.1] at o1
  refine kk p e s m args below meth cd H1 locs ls C hl (hR.push (S' := nA S 20 N) (by rw [z1, hR.1]) o1 hlo (fun b hb => by rw [gK_nA, if_neg hb]) (gN_nA S 20 N) (fun b hb => ce_nA hb) ?_) ⟨Nat.le_trans hS.1 (by rw [z1, hR.1]; omega), fun x h1 h2 => (o1 x (Nat.lt_of_lt_of_le h1 hS.1)).trans (hS.2.1 x h1 h2), hS.2.2⟩
  rw [ce_20 (show gK (nA S 20 N) (gN S) = 20 by rw [gK_nA, if_pos rfl])]
  show H1[gN S]? = some (vp_cell _ _)
  rw [e1, vp_cell_i, gR_nA, if_pos rfl, gL_nA, if_pos rfl]
  rfl
theorem x_newaZ {k : KT} {μ : MT} {Z : ZT} {pc : Nat} {lv : List (Nat × Value)} {rest : List Value} {S : HS} {cells slots : Nat} {n : Int32} (N : Nat) (hd : decode μ.2.2.1 pc = .ok (.newarray .boolean, 2)) (hw : Cond.arrayClass .boolean ∈ wsL_law) (hn : ¬ n < 0) (hN : n.toNatClampNeg = N) (hb : N * 1 ≤ 536870912) (hce : cells + 1 ≤ μ.1.cells) (hsl : slots + N ≤ μ.1.slots) (kk : X k μ Z (pc + 2) lv (.ref (gN S) :: rest) (nA S 21 N) (cells + 1) (slots + N)) : X k μ Z pc lv (.int n :: rest) S cells slots := fun p e s m args below meth cd H locs ls C hl hR hS => by
  refine va_newaK C.exec C.bytes (atype := .boolean) (C.words _ hw) rfl hd rfl hn hN hb hce hsl hR.1 fun H1 cA e1 z1 o1 hAr hNm => ?_
  have hcA : cA = k.2.2.1 1 := Option.some.inj (hNm.symm.trans (C.cls.2 1 _ rfl).2)
  subst hcA
  have hlo : k.2.2.2.2 ≤ H.size := Nat.le_trans C.gd.2.2.2.2.2.2.2.2 hS.1
  rw [← hR.1] at o1
  refine kk p e s m args below meth cd H1 locs ls C hl (hR.push (S' := nA S 21 N) (by rw [z1, hR.1]) o1 hlo (fun b hb => by rw [gK_nA, if_neg hb]) (gN_nA S 21 N) (fun b hb => ce_nA hb) ?_) ⟨Nat.le_trans hS.1 (by rw [z1, hR.1]; omega), fun x h1 h2 => (o1 x (Nat.lt_of_lt_of_le h1 hS.1)).trans (hS.2.1 x h1 h2), hS.2.2⟩
  rw [ce_21 (show gK (nA S 21 N) (gN S) = 21 by rw [gK_nA, if_pos rfl])]
  show H1[gN S]? = some (vp_cell _ _)
  rw [e1, vp_cell_i, gR_nA, if_pos rfl, gL_nA, if_pos rfl]
  rfl
theorem x_anew {k : KT} {μ : MT} {Z : ZT} {pc : Nat} {lv : List (Nat × Value)} {rest : List Value} {S : HS} {cells slots idx : Nat} {n : Int32} {Cn : String} (kd t N : Nat) (hd : decode μ.2.2.1 pc = .ok (.anewarray idx, 3)) (hcl : Cond.classLink μ.2.1.cls idx Cn ∈ wsL_law) (hkd : (kd = 22 ∧ t = 2 ∧ Cn = "GlobeWorks$Gore") ∨ (kd = 23 ∧ t = 3 ∧ Cn = "java/lang/Object")) (hn : ¬ n < 0) (hN : n.toNatClampNeg = N) (hb : N * 4 ≤ 536870912) (hce : cells + 1 ≤ μ.1.cells) (hsl : slots + N ≤ μ.1.slots) (kk : X k μ Z (pc + 3) lv (.ref (gN S) :: rest) (nA S kd N) (cells + 1) (slots + N)) : X k μ Z pc lv (.int n :: rest) S cells slots := fun p e s m args below meth cd H locs ls C hl hR hS => by
  subst hN
  have hover : va_AO Cn s := by
    rcases hkd with ⟨-, -, rfl⟩ | ⟨-, -, rfl⟩
    · exact C.gd.2.2.2.1.1
    · exact C.gd.2.2.2.1.2
  refine W.anew C.exec C.bytes C.own (C.words _ hcl) (va_AO.use hover) rfl hd rfl hn hb hce hsl fun cA kAr comp f1 f2 f3 f4 => ?_
  generalize hH1 : H.push ({ cls := cA, slots := Array.replicate n.toNatClampNeg .null, vm := .none } : Cell) = H1
  have z1 : H1.size = H.size + 1 := by rw [← hH1, Array.size_push]
  have e1 : H1[H.size]? = some (arrV cA n.toNatClampNeg (fun _ => .null)) := by rw [← hH1, Array.getElem?_push_size, ← arrV_new]
  have o1 : ∀ q : Nat, q < H.size → H1[q]? = H[q]? := fun q hq => by rw [← hH1, Array.getElem?_push, if_neg (Nat.ne_of_lt hq)]
  have hlo : k.2.2.2.2 ≤ H.size := Nat.le_trans C.gd.2.2.2.2.2.2.2.2 hS.1
  have hSs : va_S (kA k) s.heap H1 locs := ⟨Nat.le_trans hS.1 (by rw [z1]; omega), fun x h1 h2 => (o1 x (Nat.lt_of_lt_of_le h1 hS.1)).trans (hS.2.1 x h1 h2), hS.2.2⟩
  have hRl : Rl k (nA S kd n.toNatClampNeg) H1 := by
    refine hR.push (S' := nA S kd n.toNatClampNeg) z1 o1 hlo (fun b hb => by rw [gK_nA, if_neg hb]) (gN_nA S kd _) (fun b hb => ce_nA hb) ?_
    have hk0 : gK (nA S kd n.toNatClampNeg) (gN S) = kd := by rw [gK_nA, if_pos rfl]
    rcases hkd with ⟨rfl, -, rfl⟩ | ⟨rfl, -, rfl⟩
    · obtain ⟨-, -, -, -, -, r4⟩ := (C.cls.2 2 _ rfl).2
      have hcA : cA = k.2.2.1 2 := Option.some.inj (f1.symm.trans r4)
      rw [ce_22 hk0]
      show H1[gN S]? = some (vp_cell _ _)
      rw [vp_cell_q, gQ_nA, if_pos rfl, gL_nA, if_pos rfl, ← hcA, ← hR.1, e1]
      rfl
    · obtain ⟨-, -, -, -, -, r4⟩ := (C.cls.2 3 _ rfl).2
      have hcA : cA = k.2.2.1 3 := Option.some.inj (f1.symm.trans r4)
      rw [ce_23 hk0]
      show H1[gN S]? = some (vp_cell _ _)
      rw [vp_cell_q, gQ_nA, if_pos rfl, gL_nA, if_pos rfl, ← hcA, ← hR.1, e1]
      rfl
  have := kk p e s m args below meth cd H1 locs ls C hl hRl hSs
  rw [← hR.1] at this
  exact this
theorem x_ldc {k : KT} {μ : MT} {Z : ZT} {pc : Nat} {lv : List (Nat × Value)} {rest : List Value} {S : HS} {cells slots idx : Nat} {v : Int32} (hd : decode μ.2.2.1 pc = .ok (.ldc idx, 2)) (hw : Cond.constant μ.2.1.cls idx v ∈ wsL_law) (kk : X k μ Z (pc + 2) lv (.int v :: rest) S cells slots) : X k μ Z pc lv rest S cells slots := fun p e s m args below meth cd H locs ls C hl hR hS =>
  lv_ldc C.exec C.bytes C.own (C.words _ hw) hd (kk p e s m args below meth cd H locs ls C hl hR hS)
theorem x_ldcM {k : KT} {μ : MT} {Z : ZT} {pc : Nat} {lv : List (Nat × Value)} {rest : List Value} {S : HS} {cells slots idx : Nat} (hd : decode μ.2.2.1 pc = .ok (.ldc idx, 2)) (hw : Cond.classLink μ.2.1.cls idx "[Ljava/lang/Object;" ∈ wsL_law) (kk : X k μ Z (pc + 2) lv (.ref (k.2.2.2.1 3) :: rest) S cells slots) : X k μ Z pc lv rest S cells slots := fun p e s m args below meth cd H locs ls C hl hR hS =>
  va_ldcM C.exec C.bytes C.own (C.words _ hw) C.gd.2.2.2.2.2.2.1 hd (kk p e s m args below meth cd H locs ls C hl hR hS)
theorem x_getsE {k : KT} {μ : MT} {Z : ZT} {pc : Nat} {lv : List (Nat × Value)} {rest : List Value} {S : HS} {cells slots idx : Nat} (hd : decode μ.2.2.1 pc = .ok (.getstatic idx, 3)) (hw : Cond.fieldLink μ.2.1.cls idx "java/util/ArrayList" "DEFAULTCAPACITY_EMPTY_ELEMENTDATA" "[Ljava/lang/Object;" ∈ wsL_law) (kk : X k μ Z (pc + 3) lv (.ref (k.2.2.2.1 0) :: rest) S cells slots) : X k μ Z pc lv rest S cells slots := fun p e s m args below meth cd H locs ls C hl hR hS =>
  va_gets C.exec C.bytes C.gd.2.2.2.2.1.1 hS C.own (C.words _ hw) (fun _ h => h) hd (kk p e s m args below meth cd H locs ls C hl hR hS)
theorem x_getsC {k : KT} {μ : MT} {Z : ZT} {pc : Nat} {lv : List (Nat × Value)} {rest : List Value} {S : HS} {cells slots idx : Nat} (hd : decode μ.2.2.1 pc = .ok (.getstatic idx, 3)) (hw : Cond.fieldLink μ.2.1.cls idx "GlobeWorks" "COS" "[I" ∈ wsL_law) (kk : X k μ Z (pc + 3) lv (.ref (k.2.2.2.1 1) :: rest) S cells slots) : X k μ Z pc lv rest S cells slots := fun p e s m args below meth cd H locs ls C hl hR hS =>
  va_gets C.exec C.bytes C.gd.2.2.2.2.1.2.1 hS C.own (C.words _ hw) (fun _ h => h) hd (kk p e s m args below meth cd H locs ls C hl hR hS)
theorem x_getsG {k : KT} {μ : MT} {Z : ZT} {pc : Nat} {lv : List (Nat × Value)} {rest : List Value} {S : HS} {cells slots idx : Nat} (hd : decode μ.2.2.1 pc = .ok (.getstatic idx, 3)) (hw : Cond.fieldLink μ.2.1.cls idx "GlobeWorks" "GORE_NUMBERS" "[I" ∈ wsL_law) (kk : X k μ Z (pc + 3) lv (.ref (k.2.2.2.1 2) :: rest) S cells slots) : X k μ Z pc lv rest S cells slots := fun p e s m args below meth cd H locs ls C hl hR hS =>
  va_gets C.exec C.bytes C.gd.2.2.2.2.1.2.2 hS C.own (C.words _ hw) (fun _ h => h) hd (kk p e s m args below meth cd H locs ls C hl hR hS)
theorem x_tiC {k : KT} {μ : MT} {Z : ZT} {pc : Nat} {lv : List (Nat × Value)} {rest : List Value} {S : HS} {cells slots : Nat} {i : Int32} (hd : decode μ.2.2.1 pc = .ok (.iaload, 1)) (hin : vp_in i 91) (kk : X k μ Z (pc + 1) lv (.int (cosL.getD i.toNatClampNeg 0) :: rest) S cells slots) : X k μ Z pc lv (.int i :: .ref (k.2.2.2.1 1) :: rest) S cells slots := fun p e s m args below meth cd H locs ls C hl hR hS =>
  va_ti C.exec C.bytes C.gd.2.2.2.2.2.1.2.1 hS hin rfl hd (kk p e s m args below meth cd H locs ls C hl hR hS)
theorem x_tiG {k : KT} {μ : MT} {Z : ZT} {pc : Nat} {lv : List (Nat × Value)} {rest : List Value} {S : HS} {cells slots : Nat} {i : Int32} (hd : decode μ.2.2.1 pc = .ok (.iaload, 1)) (hin : vp_in i 9) (kk : X k μ Z (pc + 1) lv (.int (gorL.getD i.toNatClampNeg 0) :: rest) S cells slots) : X k μ Z pc lv (.int i :: .ref (k.2.2.2.1 2) :: rest) S cells slots := fun p e s m args below meth cd H locs ls C hl hR hS =>
  va_ti C.exec C.bytes C.gd.2.2.2.2.2.1.2.2 hS hin rfl hd (kk p e s m args below meth cd H locs ls C hl hR hS)
theorem x_tlenE {k : KT} {μ : MT} {Z : ZT} {pc : Nat} {lv : List (Nat × Value)} {rest : List Value} {S : HS} {cells slots : Nat} (hd : decode μ.2.2.1 pc = .ok (.arraylength, 1)) (kk : X k μ Z (pc + 1) lv (.int 0 :: rest) S cells slots) : X k μ Z pc lv (.ref (k.2.2.2.1 0) :: rest) S cells slots := fun p e s m args below meth cd H locs ls C hl hR hS =>
  va_tlen C.exec C.bytes C.gd.2.2.2.2.2.1.1 hS (v := 0) rfl hd (kk p e s m args below meth cd H locs ls C hl hR hS)
theorem x_tlenC {k : KT} {μ : MT} {Z : ZT} {pc : Nat} {lv : List (Nat × Value)} {rest : List Value} {S : HS} {cells slots : Nat} (hd : decode μ.2.2.1 pc = .ok (.arraylength, 1)) (kk : X k μ Z (pc + 1) lv (.int 91 :: rest) S cells slots) : X k μ Z pc lv (.ref (k.2.2.2.1 1) :: rest) S cells slots := fun p e s m args below meth cd H locs ls C hl hR hS =>
  va_tlen C.exec C.bytes C.gd.2.2.2.2.2.1.2.1 hS (v := 91) rfl hd (kk p e s m args below meth cd H locs ls C hl hR hS)
theorem x_tlenG {k : KT} {μ : MT} {Z : ZT} {pc : Nat} {lv : List (Nat × Value)} {rest : List Value} {S : HS} {cells slots : Nat} (hd : decode μ.2.2.1 pc = .ok (.arraylength, 1)) (kk : X k μ Z (pc + 1) lv (.int 9 :: rest) S cells slots) : X k μ Z pc lv (.ref (k.2.2.2.1 2) :: rest) S cells slots := fun p e s m args below meth cd H locs ls C hl hR hS =>
  va_tlen C.exec C.bytes C.gd.2.2.2.2.2.1.2.2 hS (v := 9) rfl hd (kk p e s m args below meth cd H locs ls C hl hR hS)
theorem x_cast {k : KT} {μ : MT} {Z : ZT} {pc : Nat} {lv : List (Nat × Value)} {rest : List Value} {S : HS} {cells slots idx a : Nat} {q : vw_C} (c : Nat) (hd : decode μ.2.2.1 pc = .ok (.checkcast idx, 3)) (hc : vwCl[c]? = some q) (h9 : c < 9) (hw : Cond.classLink μ.2.1.cls idx q.1 ∈ wsL_law) (hK : gK S a = c + 1) (kk : X k μ Z (pc + 3) lv (.ref a :: rest) S cells slots) : X k μ Z pc lv (.ref a :: rest) S cells slots := fun p e s m args below meth cd H locs ls C hl hR hS =>
  va_castS C.exec C.bytes C.own (C.words _ hw) (C.cls.1 c _ hc).2 (va_recv C.cls (vP1 (hR.at hK h9)) hc (q0 := 0) rfl) hd (kk p e s m args below meth cd H locs ls C hl hR hS)
