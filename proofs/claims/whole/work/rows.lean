section
-- ===== PART A: goes FIRST, ahead of the names: the tables' words, and 'selects' of the private methods out of them =====
/-- a private method of a class that the tables say can be made, by its rows of tables_1 -/
def lw_okq (q : MethodName × Nat) : Prop := (q.1.cls ≠ "java/lang/invoke/MethodHandle" ∧ q.1.cls ≠ "java/lang/invoke/VarHandle") ∧ Cond.instantiable q.1.cls q.2 ∈ tables_1 ∧ Cond.privateMethod q.1 ∈ tables_1 ∧ Cond.instanceMethod q.1 ∈ tables_1
theorem lw_p0 : lw_okq (⟨"java/util/ArrayList", "add", "(Ljava/lang/Object;[Ljava/lang/Object;I)V"⟩, 3) := ⟨⟨by decide +kernel, by decide +kernel⟩, List.mem_of_getElem? (i := 27) (by decide +kernel), List.mem_of_getElem? (i := 192) (by decide +kernel), List.mem_of_getElem? (i := 193) (by decide +kernel)⟩
theorem lw_p1 : lw_okq (⟨"java/util/ArrayList", "grow", "()[Ljava/lang/Object;"⟩, 3) := ⟨⟨by decide +kernel, by decide +kernel⟩, List.mem_of_getElem? (i := 27) (by decide +kernel), List.mem_of_getElem? (i := 196) (by decide +kernel), List.mem_of_getElem? (i := 197) (by decide +kernel)⟩
theorem lw_p2 : lw_okq (⟨"java/util/ArrayList", "grow", "(I)[Ljava/lang/Object;"⟩, 3) := ⟨⟨by decide +kernel, by decide +kernel⟩, List.mem_of_getElem? (i := 27) (by decide +kernel), List.mem_of_getElem? (i := 200) (by decide +kernel), List.mem_of_getElem? (i := 201) (by decide +kernel)⟩
theorem lw_p3 : lw_okq (⟨"GlobeWorks", "coastOf", "(I)LGlobeWorks$Coast;"⟩, 9) := ⟨⟨by decide +kernel, by decide +kernel⟩, List.mem_of_getElem? (i := 19) (by decide +kernel), List.mem_of_getElem? (i := 248) (by decide +kernel), List.mem_of_getElem? (i := 249) (by decide +kernel)⟩
theorem lw_p4 : lw_okq (⟨"GlobeWorks", "piecesOf", "(LGlobeWorks$Step;)I"⟩, 9) := ⟨⟨by decide +kernel, by decide +kernel⟩, List.mem_of_getElem? (i := 19) (by decide +kernel), List.mem_of_getElem? (i := 301) (by decide +kernel), List.mem_of_getElem? (i := 302) (by decide +kernel)⟩
theorem lw_p5 : lw_okq (⟨"GlobeWorks", "goneFromEdge", "(LGlobeWorks$Step;)I"⟩, 9) := ⟨⟨by decide +kernel, by decide +kernel⟩, List.mem_of_getElem? (i := 19) (by decide +kernel), List.mem_of_getElem? (i := 305) (by decide +kernel), List.mem_of_getElem? (i := 306) (by decide +kernel)⟩
theorem lw_p6 : lw_okq (⟨"GlobeWorks", "cutUpright", "(ILGlobeWorks$Step;)V"⟩, 9) := ⟨⟨by decide +kernel, by decide +kernel⟩, List.mem_of_getElem? (i := 19) (by decide +kernel), List.mem_of_getElem? (i := 310) (by decide +kernel), List.mem_of_getElem? (i := 311) (by decide +kernel)⟩
theorem lw_p7 : lw_okq (⟨"GlobeWorks", "layUpright", "(ILGlobeWorks$Step;I)V"⟩, 9) := ⟨⟨by decide +kernel, by decide +kernel⟩, List.mem_of_getElem? (i := 19) (by decide +kernel), List.mem_of_getElem? (i := 314) (by decide +kernel), List.mem_of_getElem? (i := 315) (by decide +kernel)⟩
theorem lw_p8 : lw_okq (⟨"GlobeWorks", "sideOf", "(II)I"⟩, 9) := ⟨⟨by decide +kernel, by decide +kernel⟩, List.mem_of_getElem? (i := 19) (by decide +kernel), List.mem_of_getElem? (i := 318) (by decide +kernel), List.mem_of_getElem? (i := 319) (by decide +kernel)⟩
theorem lw_p9 : lw_okq (⟨"GlobeWorks", "lay", "(ILGlobeWorks$Piece;)V"⟩, 9) := ⟨⟨by decide +kernel, by decide +kernel⟩, List.mem_of_getElem? (i := 19) (by decide +kernel), List.mem_of_getElem? (i := 349) (by decide +kernel), List.mem_of_getElem? (i := 350) (by decide +kernel)⟩
theorem lw_p10 : lw_okq (⟨"GlobeWorks", "goreOf", "(I)LGlobeWorks$Gore;"⟩, 9) := ⟨⟨by decide +kernel, by decide +kernel⟩, List.mem_of_getElem? (i := 19) (by decide +kernel), List.mem_of_getElem? (i := 353) (by decide +kernel), List.mem_of_getElem? (i := 354) (by decide +kernel)⟩
theorem lw_p11 : lw_okq (⟨"GlobeWorks", "cutSlanting", "(ILGlobeWorks$Step;I)V"⟩, 9) := ⟨⟨by decide +kernel, by decide +kernel⟩, List.mem_of_getElem? (i := 19) (by decide +kernel), List.mem_of_getElem? (i := 357) (by decide +kernel), List.mem_of_getElem? (i := 358) (by decide +kernel)⟩
theorem lw_p12 : lw_okq (⟨"GlobeWorks", "grownThousand", "(I)I"⟩, 9) := ⟨⟨by decide +kernel, by decide +kernel⟩, List.mem_of_getElem? (i := 19) (by decide +kernel), List.mem_of_getElem? (i := 399) (by decide +kernel), List.mem_of_getElem? (i := 400) (by decide +kernel)⟩
theorem lw_p13 : lw_okq (⟨"GlobeWorks", "waysWithinEdges", "(LGlobeWorks$Name;)I"⟩, 9) := ⟨⟨by decide +kernel, by decide +kernel⟩, List.mem_of_getElem? (i := 19) (by decide +kernel), List.mem_of_getElem? (i := 452) (by decide +kernel), List.mem_of_getElem? (i := 453) (by decide +kernel)⟩
theorem lw_p14 : lw_okq (⟨"GlobeWorks", "isWithinEdges", "(LGlobeWorks$Name;II)Z"⟩, 9) := ⟨⟨by decide +kernel, by decide +kernel⟩, List.mem_of_getElem? (i := 19) (by decide +kernel), List.mem_of_getElem? (i := 460) (by decide +kernel), List.mem_of_getElem? (i := 461) (by decide +kernel)⟩
theorem lw_p15 : lw_okq (⟨"GlobeWorks", "changeNames", "(LGlobeWorks$Gore;)V"⟩, 9) := ⟨⟨by decide +kernel, by decide +kernel⟩, List.mem_of_getElem? (i := 19) (by decide +kernel), List.mem_of_getElem? (i := 473) (by decide +kernel), List.mem_of_getElem? (i := 474) (by decide +kernel)⟩
def lw_privs_1 : List (MethodName × Nat) := [(⟨"java/util/ArrayList", "add", "(Ljava/lang/Object;[Ljava/lang/Object;I)V"⟩, 3), (⟨"java/util/ArrayList", "grow", "()[Ljava/lang/Object;"⟩, 3), (⟨"java/util/ArrayList", "grow", "(I)[Ljava/lang/Object;"⟩, 3), (⟨"GlobeWorks", "coastOf", "(I)LGlobeWorks$Coast;"⟩, 9), (⟨"GlobeWorks", "piecesOf", "(LGlobeWorks$Step;)I"⟩, 9), (⟨"GlobeWorks", "goneFromEdge", "(LGlobeWorks$Step;)I"⟩, 9), (⟨"GlobeWorks", "cutUpright", "(ILGlobeWorks$Step;)V"⟩, 9), (⟨"GlobeWorks", "layUpright", "(ILGlobeWorks$Step;I)V"⟩, 9), (⟨"GlobeWorks", "sideOf", "(II)I"⟩, 9), (⟨"GlobeWorks", "lay", "(ILGlobeWorks$Piece;)V"⟩, 9), (⟨"GlobeWorks", "goreOf", "(I)LGlobeWorks$Gore;"⟩, 9), (⟨"GlobeWorks", "cutSlanting", "(ILGlobeWorks$Step;I)V"⟩, 9), (⟨"GlobeWorks", "grownThousand", "(I)I"⟩, 9), (⟨"GlobeWorks", "waysWithinEdges", "(LGlobeWorks$Name;)I"⟩, 9), (⟨"GlobeWorks", "isWithinEdges", "(LGlobeWorks$Name;II)Z"⟩, 9), (⟨"GlobeWorks", "changeNames", "(LGlobeWorks$Gore;)V"⟩, 9)]
theorem lw_r1 : ∀ q ∈ lw_privs_1, lw_okq q := List.forall_mem_cons.mpr ⟨lw_p0, List.forall_mem_cons.mpr ⟨lw_p1, List.forall_mem_cons.mpr ⟨lw_p2, List.forall_mem_cons.mpr ⟨lw_p3, List.forall_mem_cons.mpr ⟨lw_p4, List.forall_mem_cons.mpr ⟨lw_p5, List.forall_mem_cons.mpr ⟨lw_p6, List.forall_mem_cons.mpr ⟨lw_p7, List.forall_mem_cons.mpr ⟨lw_p8, List.forall_mem_cons.mpr ⟨lw_p9, List.forall_mem_cons.mpr ⟨lw_p10, List.forall_mem_cons.mpr ⟨lw_p11, List.forall_mem_cons.mpr ⟨lw_p12, List.forall_mem_cons.mpr ⟨lw_p13, List.forall_mem_cons.mpr ⟨lw_p14, List.forall_mem_cons.mpr ⟨lw_p15, fun _ h => absurd h List.not_mem_nil⟩⟩⟩⟩⟩⟩⟩⟩⟩⟩⟩⟩⟩⟩⟩⟩
theorem lw_p16 : lw_okq (⟨"GlobeWorks", "nameOf", "(I)LGlobeWorks$Name;"⟩, 9) := ⟨⟨by decide +kernel, by decide +kernel⟩, List.mem_of_getElem? (i := 19) (by decide +kernel), List.mem_of_getElem? (i := 507) (by decide +kernel), List.mem_of_getElem? (i := 508) (by decide +kernel)⟩
theorem lw_p17 : lw_okq (⟨"java/util/ArrayList", "fastRemove", "([Ljava/lang/Object;I)V"⟩, 3) := ⟨⟨by decide +kernel, by decide +kernel⟩, List.mem_of_getElem? (i := 27) (by decide +kernel), List.mem_of_getElem? (i := 521) (by decide +kernel), List.mem_of_getElem? (i := 522) (by decide +kernel)⟩
theorem lw_p18 : lw_okq (⟨"GlobeWorks", "namesThere", "()I"⟩, 9) := ⟨⟨by decide +kernel, by decide +kernel⟩, List.mem_of_getElem? (i := 19) (by decide +kernel), List.mem_of_getElem? (i := 558) (by decide +kernel), List.mem_of_getElem? (i := 559) (by decide +kernel)⟩
theorem lw_p19 : lw_okq (⟨"GlobeWorks", "freshGores", "()I"⟩, 9) := ⟨⟨by decide +kernel, by decide +kernel⟩, List.mem_of_getElem? (i := 19) (by decide +kernel), List.mem_of_getElem? (i := 562) (by decide +kernel), List.mem_of_getElem? (i := 563) (by decide +kernel)⟩
theorem lw_p20 : lw_okq (⟨"GlobeWorksModel", "narrowOf", "(I)I"⟩, 26) := ⟨⟨by decide +kernel, by decide +kernel⟩, List.mem_of_getElem? (i := 569) (by decide +kernel), List.mem_of_getElem? (i := 662) (by decide +kernel), List.mem_of_getElem? (i := 663) (by decide +kernel)⟩
theorem lw_p21 : lw_okq (⟨"GlobeWorksModel", "acrossOf", "(II)I"⟩, 26) := ⟨⟨by decide +kernel, by decide +kernel⟩, List.mem_of_getElem? (i := 569) (by decide +kernel), List.mem_of_getElem? (i := 670) (by decide +kernel), List.mem_of_getElem? (i := 671) (by decide +kernel)⟩
theorem lw_p22 : lw_okq (⟨"GlobeWorksModel", "parts", "(II)I"⟩, 26) := ⟨⟨by decide +kernel, by decide +kernel⟩, List.mem_of_getElem? (i := 569) (by decide +kernel), List.mem_of_getElem? (i := 686) (by decide +kernel), List.mem_of_getElem? (i := 687) (by decide +kernel)⟩
theorem lw_p23 : lw_okq (⟨"GlobeWorksModel", "isEdge", "(I)Z"⟩, 26) := ⟨⟨by decide +kernel, by decide +kernel⟩, List.mem_of_getElem? (i := 569) (by decide +kernel), List.mem_of_getElem? (i := 690) (by decide +kernel), List.mem_of_getElem? (i := 691) (by decide +kernel)⟩
theorem lw_p24 : lw_okq (⟨"GlobeWorksModel", "stays", "(IIII)V"⟩, 26) := ⟨⟨by decide +kernel, by decide +kernel⟩, List.mem_of_getElem? (i := 569) (by decide +kernel), List.mem_of_getElem? (i := 694) (by decide +kernel), List.mem_of_getElem? (i := 695) (by decide +kernel)⟩
theorem lw_p25 : lw_okq (⟨"GlobeWorksModel", "adds", "(IIIIII)V"⟩, 26) := ⟨⟨by decide +kernel, by decide +kernel⟩, List.mem_of_getElem? (i := 569) (by decide +kernel), List.mem_of_getElem? (i := 698) (by decide +kernel), List.mem_of_getElem? (i := 699) (by decide +kernel)⟩
theorem lw_p26 : lw_okq (⟨"GlobeWorksModel", "goes", "(IIIII)V"⟩, 26) := ⟨⟨by decide +kernel, by decide +kernel⟩, List.mem_of_getElem? (i := 569) (by decide +kernel), List.mem_of_getElem? (i := 702) (by decide +kernel), List.mem_of_getElem? (i := 703) (by decide +kernel)⟩
theorem lw_p27 : lw_okq (⟨"GlobeWorksModel", "sideWest", "(II)I"⟩, 26) := ⟨⟨by decide +kernel, by decide +kernel⟩, List.mem_of_getElem? (i := 569) (by decide +kernel), List.mem_of_getElem? (i := 706) (by decide +kernel), List.mem_of_getElem? (i := 707) (by decide +kernel)⟩
theorem lw_p28 : lw_okq (⟨"GlobeWorksModel", "isGore", "(I)Z"⟩, 26) := ⟨⟨by decide +kernel, by decide +kernel⟩, List.mem_of_getElem? (i := 569) (by decide +kernel), List.mem_of_getElem? (i := 720) (by decide +kernel), List.mem_of_getElem? (i := 721) (by decide +kernel)⟩
theorem lw_p29 : lw_okq (⟨"GlobeWorksModel", "grown", "(I)I"⟩, 26) := ⟨⟨by decide +kernel, by decide +kernel⟩, List.mem_of_getElem? (i := 569) (by decide +kernel), List.mem_of_getElem? (i := 736) (by decide +kernel), List.mem_of_getElem? (i := 737) (by decide +kernel)⟩
theorem lw_p30 : lw_okq (⟨"GlobeWorksModel", "namesIn", "(I)I"⟩, 26) := ⟨⟨by decide +kernel, by decide +kernel⟩, List.mem_of_getElem? (i := 569) (by decide +kernel), List.mem_of_getElem? (i := 748) (by decide +kernel), List.mem_of_getElem? (i := 749) (by decide +kernel)⟩
theorem lw_p31 : lw_okq (⟨"GlobeWorksModel", "isName", "(I)Z"⟩, 26) := ⟨⟨by decide +kernel, by decide +kernel⟩, List.mem_of_getElem? (i := 569) (by decide +kernel), List.mem_of_getElem? (i := 756) (by decide +kernel), List.mem_of_getElem? (i := 757) (by decide +kernel)⟩
def lw_privs_2 : List (MethodName × Nat) := [(⟨"GlobeWorks", "nameOf", "(I)LGlobeWorks$Name;"⟩, 9), (⟨"java/util/ArrayList", "fastRemove", "([Ljava/lang/Object;I)V"⟩, 3), (⟨"GlobeWorks", "namesThere", "()I"⟩, 9), (⟨"GlobeWorks", "freshGores", "()I"⟩, 9), (⟨"GlobeWorksModel", "narrowOf", "(I)I"⟩, 26), (⟨"GlobeWorksModel", "acrossOf", "(II)I"⟩, 26), (⟨"GlobeWorksModel", "parts", "(II)I"⟩, 26), (⟨"GlobeWorksModel", "isEdge", "(I)Z"⟩, 26), (⟨"GlobeWorksModel", "stays", "(IIII)V"⟩, 26), (⟨"GlobeWorksModel", "adds", "(IIIIII)V"⟩, 26), (⟨"GlobeWorksModel", "goes", "(IIIII)V"⟩, 26), (⟨"GlobeWorksModel", "sideWest", "(II)I"⟩, 26), (⟨"GlobeWorksModel", "isGore", "(I)Z"⟩, 26), (⟨"GlobeWorksModel", "grown", "(I)I"⟩, 26), (⟨"GlobeWorksModel", "namesIn", "(I)I"⟩, 26), (⟨"GlobeWorksModel", "isName", "(I)Z"⟩, 26)]
theorem lw_r2 : ∀ q ∈ lw_privs_2, lw_okq q := List.forall_mem_cons.mpr ⟨lw_p16, List.forall_mem_cons.mpr ⟨lw_p17, List.forall_mem_cons.mpr ⟨lw_p18, List.forall_mem_cons.mpr ⟨lw_p19, List.forall_mem_cons.mpr ⟨lw_p20, List.forall_mem_cons.mpr ⟨lw_p21, List.forall_mem_cons.mpr ⟨lw_p22, List.forall_mem_cons.mpr ⟨lw_p23, List.forall_mem_cons.mpr ⟨lw_p24, List.forall_mem_cons.mpr ⟨lw_p25, List.forall_mem_cons.mpr ⟨lw_p26, List.forall_mem_cons.mpr ⟨lw_p27, List.forall_mem_cons.mpr ⟨lw_p28, List.forall_mem_cons.mpr ⟨lw_p29, List.forall_mem_cons.mpr ⟨lw_p30, List.forall_mem_cons.mpr ⟨lw_p31, fun _ h => absurd h List.not_mem_nil⟩⟩⟩⟩⟩⟩⟩⟩⟩⟩⟩⟩⟩⟩⟩⟩
theorem lw_p32 : lw_okq (⟨"GlobeWorksModel", "canBe", "(II)Z"⟩, 26) := ⟨⟨by decide +kernel, by decide +kernel⟩, List.mem_of_getElem? (i := 569) (by decide +kernel), List.mem_of_getElem? (i := 764) (by decide +kernel), List.mem_of_getElem? (i := 765) (by decide +kernel)⟩
theorem lw_p33 : lw_okq (⟨"GlobeWorksModel", "left", "(II)I"⟩, 26) := ⟨⟨by decide +kernel, by decide +kernel⟩, List.mem_of_getElem? (i := 569) (by decide +kernel), List.mem_of_getElem? (i := 768) (by decide +kernel), List.mem_of_getElem? (i := 769) (by decide +kernel)⟩
theorem lw_p34 : lw_okq (⟨"GlobeWorksModel", "low", "(II)I"⟩, 26) := ⟨⟨by decide +kernel, by decide +kernel⟩, List.mem_of_getElem? (i := 569) (by decide +kernel), List.mem_of_getElem? (i := 772) (by decide +kernel), List.mem_of_getElem? (i := 773) (by decide +kernel)⟩
theorem lw_p35 : lw_okq (⟨"GlobeWorksModel", "isWithin", "(II)Z"⟩, 26) := ⟨⟨by decide +kernel, by decide +kernel⟩, List.mem_of_getElem? (i := 569) (by decide +kernel), List.mem_of_getElem? (i := 776) (by decide +kernel), List.mem_of_getElem? (i := 777) (by decide +kernel)⟩
theorem lw_p36 : lw_okq (⟨"GlobeWorksModel", "sets", "(I)I"⟩, 26) := ⟨⟨by decide +kernel, by decide +kernel⟩, List.mem_of_getElem? (i := 569) (by decide +kernel), List.mem_of_getElem? (i := 784) (by decide +kernel), List.mem_of_getElem? (i := 785) (by decide +kernel)⟩
theorem lw_p37 : lw_okq (⟨"GlobeWorksModel", "isGood", "(I)Z"⟩, 26) := ⟨⟨by decide +kernel, by decide +kernel⟩, List.mem_of_getElem? (i := 569) (by decide +kernel), List.mem_of_getElem? (i := 788) (by decide +kernel), List.mem_of_getElem? (i := 789) (by decide +kernel)⟩
theorem lw_p38 : lw_okq (⟨"GlobeWorksModel", "areApart", "(IIII)Z"⟩, 26) := ⟨⟨by decide +kernel, by decide +kernel⟩, List.mem_of_getElem? (i := 569) (by decide +kernel), List.mem_of_getElem? (i := 792) (by decide +kernel), List.mem_of_getElem? (i := 793) (by decide +kernel)⟩
def lw_privs_3 : List (MethodName × Nat) := [(⟨"GlobeWorksModel", "canBe", "(II)Z"⟩, 26), (⟨"GlobeWorksModel", "left", "(II)I"⟩, 26), (⟨"GlobeWorksModel", "low", "(II)I"⟩, 26), (⟨"GlobeWorksModel", "isWithin", "(II)Z"⟩, 26), (⟨"GlobeWorksModel", "sets", "(I)I"⟩, 26), (⟨"GlobeWorksModel", "isGood", "(I)Z"⟩, 26), (⟨"GlobeWorksModel", "areApart", "(IIII)Z"⟩, 26)]
theorem lw_r3 : ∀ q ∈ lw_privs_3, lw_okq q := List.forall_mem_cons.mpr ⟨lw_p32, List.forall_mem_cons.mpr ⟨lw_p33, List.forall_mem_cons.mpr ⟨lw_p34, List.forall_mem_cons.mpr ⟨lw_p35, List.forall_mem_cons.mpr ⟨lw_p36, List.forall_mem_cons.mpr ⟨lw_p37, List.forall_mem_cons.mpr ⟨lw_p38, fun _ h => absurd h List.not_mem_nil⟩⟩⟩⟩⟩⟩⟩
def lw_privs : List (MethodName × Nat) := lw_privs_1 ++ (lw_privs_2 ++ (lw_privs_3))
def lw_tbl : List Cond := k2_sels lw_privs ++ tables_1
theorem lw_privs_ok : ∀ q ∈ lw_privs, lw_okq q := by
  show ∀ q ∈ lw_privs_1 ++ (lw_privs_2 ++ (lw_privs_3)), lw_okq q
  exact List.forall_mem_append.mpr ⟨lw_r1, List.forall_mem_append.mpr ⟨lw_r2, lw_r3⟩⟩
end
section
/-! ===== BEGIN words of one list among another's, by their places ===== -/
theorem goodIn_r {big : List Cond} (ws : List Cond) (ps : List Nat) (hp : ws = ps.filterMap (fun i => big[i]?)) (h : ws.all goodWord = true) : GoodIn big ws := by
  intro w hw
  have h1 := List.all_eq_true.mp h w hw
  rw [hp] at hw
  obtain ⟨i, -, hi⟩ := List.mem_filterMap.mp hw
  have hm : w ∈ big := by first | exact List.mem_of_getElem? hi | exact List.getElem?_mem hi
  exact ⟨hm, good_of_word h1⟩
theorem goodIn_app {big a b : List Cond} (ha : GoodIn big a) (hb : GoodIn big b) : GoodIn big (a ++ b) := fun w h => (List.mem_append.mp h).elim (ha w) (hb w)
theorem goodIn_ca {big a b : List Cond} {c : Cond} (ha : GoodIn big (c :: a)) (hb : GoodIn big b) : GoodIn big (c :: (a ++ b)) := fun w h => (List.mem_cons.mp h).elim (fun e => ha w (List.mem_cons.mpr (Or.inl e))) (fun h => (List.mem_append.mp h).elim (fun h => ha w (List.mem_cons.mpr (Or.inr h))) (hb w))
theorem goodIn_sub {big ws : List Cond} (hm : ∀ w ∈ ws, w ∈ big) (h : ws.all goodWord = true) : GoodIn big ws := fun w hw => ⟨hm w hw, good_of_word (List.all_eq_true.mp h w hw)⟩
/-! ===== END ===== -/

/-! ===== BEGIN printed: names, fields, word lists, decode rows ===== -/
def RX0 : String := "GlobeWorks$Coast"
def TX0 : u_T := fun k => match k with
  | 0 => ("GlobeWorks$Coast", "longitude", "I", false)
  | _ => ("GlobeWorks$Coast", "latitude", "I", false)
def tyX0 : Nat → FieldType := fun k => match k with
  | 0 => .int
  | _ => .int
abbrev wsX00 : List Cond := u_ws RX0 TX0 2
theorem nmX0 : ∀ a, a < 2 → ∀ b, b < 2 → a ≠ b → (TX0 a).2.1 ≠ (TX0 b).2.1 := by decide +kernel
theorem tyX0_ok : ∀ k, k < 2 → parseFieldDescriptor (TX0 k).2.2.1 = some (tyX0 k) := by decide +kernel
abbrev cX0_init : ByteArray := prog_2_method_1_code
def yX0_init : MethodName := ⟨RX0, "<init>", "(II)V"⟩
abbrev cX0_isAt : ByteArray := prog_2_method_2_code
def yX0_isAt : MethodName := ⟨RX0, "isAt", "(II)Z"⟩
def RX1 : String := "GlobeWorks$Gore"
def TX1 : u_T := fun k => match k with
  | 0 => ("GlobeWorks$Gore", "pieces", "Ljava/util/ArrayList;", true)
  | 1 => ("GlobeWorks$Gore", "names", "Ljava/util/ArrayList;", true)
  | 2 => ("GlobeWorks$Gore", "settingCost", "I", false)
  | 3 => ("GlobeWorks$Gore", "isFresh", "Z", false)
  | _ => ("GlobeWorks$Gore", "lastEdition", "I", false)
def tyX1 : Nat → FieldType := fun k => match k with
  | 0 => .object "java/util/ArrayList"
  | 1 => .object "java/util/ArrayList"
  | 2 => .int
  | 3 => .boolean
  | _ => .int
abbrev wsX10 : List Cond := u_ws RX1 TX1 5
theorem nmX1 : ∀ a, a < 5 → ∀ b, b < 5 → a ≠ b → (TX1 a).2.1 ≠ (TX1 b).2.1 := by decide +kernel
theorem tyX1_ok : ∀ k, k < 5 → parseFieldDescriptor (TX1 k).2.2.1 = some (tyX1 k) := by decide +kernel
abbrev cX1_init : ByteArray := prog_3_method_1_code
def yX1_init : MethodName := ⟨RX1, "<init>", "()V"⟩
abbrev cX1_takeOut : ByteArray := prog_3_method_2_code
def yX1_takeOut : MethodName := ⟨RX1, "takeOut", "(LGlobeWorks$Name;)V"⟩
def RX2 : String := "GlobeWorks$Name"
def TX2 : u_T := fun k => match k with
  | 0 => ("GlobeWorks$Name", "gore", "I", true)
  | 1 => ("GlobeWorks$Name", "side", "I", true)
  | 2 => ("GlobeWorks$Name", "height", "I", true)
  | 3 => ("GlobeWorks$Name", "x", "I", true)
  | 4 => ("GlobeWorks$Name", "letters", "I", true)
  | 5 => ("GlobeWorks$Name", "price", "I", true)
  | 6 => ("GlobeWorks$Name", "ways", "I", false)
  | 7 => ("GlobeWorks$Name", "setWay", "I", false)
  | _ => ("GlobeWorks$Name", "isStruck", "Z", false)
def tyX2 : Nat → FieldType := fun k => match k with
  | 0 => .int
  | 1 => .int
  | 2 => .int
  | 3 => .int
  | 4 => .int
  | 5 => .int
  | 6 => .int
  | 7 => .int
  | _ => .boolean
abbrev wsX20 : List Cond := u_ws RX2 TX2 9
theorem nmX2 : ∀ a, a < 9 → ∀ b, b < 9 → a ≠ b → (TX2 a).2.1 ≠ (TX2 b).2.1 := by decide +kernel
theorem tyX2_ok : ∀ k, k < 9 → parseFieldDescriptor (TX2 k).2.2.1 = some (tyX2 k) := by decide +kernel
abbrev cX2_init : ByteArray := prog_4_method_1_code
def yX2_init : MethodName := ⟨RX2, "<init>", "(IIIIII)V"⟩
abbrev cX2_allows : ByteArray := prog_4_method_2_code
def yX2_allows : MethodName := ⟨RX2, "allows", "(I)Z"⟩
abbrev cX2_costOf : ByteArray := prog_4_method_3_code
def yX2_costOf : MethodName := ⟨RX2, "costOf", "(I)I"⟩
abbrev cX2_left : ByteArray := prog_4_method_4_code
def yX2_left : MethodName := ⟨RX2, "left", "(I)I"⟩
abbrev cX2_right : ByteArray := prog_4_method_5_code
def yX2_right : MethodName := ⟨RX2, "right", "(I)I"⟩
abbrev cX2_bottom : ByteArray := prog_4_method_6_code
def yX2_bottom : MethodName := ⟨RX2, "bottom", "(I)I"⟩
abbrev cX2_covers : ByteArray := prog_4_method_7_code
def yX2_covers : MethodName := ⟨RX2, "covers", "(ILGlobeWorks$Name;I)Z"⟩
def RX3 : String := "GlobeWorks$Piece"
def TX3 : u_T := fun k => match k with
  | 0 => ("GlobeWorks$Piece", "coast", "I", true)
  | 1 => ("GlobeWorks$Piece", "beginSide", "I", true)
  | 2 => ("GlobeWorks$Piece", "beginHeight", "I", true)
  | 3 => ("GlobeWorks$Piece", "endSide", "I", true)
  | _ => ("GlobeWorks$Piece", "endHeight", "I", true)
def tyX3 : Nat → FieldType := fun k => match k with
  | 0 => .int
  | 1 => .int
  | 2 => .int
  | 3 => .int
  | _ => .int
abbrev wsX30 : List Cond := u_ws RX3 TX3 5
theorem nmX3 : ∀ a, a < 5 → ∀ b, b < 5 → a ≠ b → (TX3 a).2.1 ≠ (TX3 b).2.1 := by decide +kernel
theorem tyX3_ok : ∀ k, k < 5 → parseFieldDescriptor (TX3 k).2.2.1 = some (tyX3 k) := by decide +kernel
abbrev cX3_init : ByteArray := prog_5_method_1_code
def yX3_init : MethodName := ⟨RX3, "<init>", "(IIIII)V"⟩
def RX4 : String := "GlobeWorks$Search"
def TX4 : u_T := fun k => match k with
  | 0 => ("GlobeWorks$Search", "trial", "[I", true)
  | 1 => ("GlobeWorks$Search", "best", "[I", true)
  | _ => ("GlobeWorks$Search", "leastCost", "I", false)
def tyX4 : Nat → FieldType := fun k => match k with
  | 0 => .array .int
  | 1 => .array .int
  | _ => .int
abbrev wsX40 : List Cond := u_ws RX4 TX4 3
theorem nmX4 : ∀ a, a < 3 → ∀ b, b < 3 → a ≠ b → (TX4 a).2.1 ≠ (TX4 b).2.1 := by decide +kernel
theorem tyX4_ok : ∀ k, k < 3 → parseFieldDescriptor (TX4 k).2.2.1 = some (tyX4 k) := by decide +kernel
abbrev cX4_init : ByteArray := prog_6_method_1_code
def yX4_init : MethodName := ⟨RX4, "<init>", "()V"⟩
abbrev cX4_keep : ByteArray := prog_6_method_2_code
def yX4_keep : MethodName := ⟨RX4, "keep", "(I)V"⟩
def RX5 : String := "GlobeWorks$Step"
def TX5 : u_T := fun k => match k with
  | 0 => ("GlobeWorks$Step", "longitude", "I", true)
  | 1 => ("GlobeWorks$Step", "height", "I", true)
  | 2 => ("GlobeWorks$Step", "rise", "I", true)
  | 3 => ("GlobeWorks$Step", "length", "I", true)
  | _ => ("GlobeWorks$Step", "direction", "I", true)
def tyX5 : Nat → FieldType := fun k => match k with
  | 0 => .int
  | 1 => .int
  | 2 => .int
  | 3 => .int
  | _ => .int
abbrev wsX50 : List Cond := u_ws RX5 TX5 5
theorem nmX5 : ∀ a, a < 5 → ∀ b, b < 5 → a ≠ b → (TX5 a).2.1 ≠ (TX5 b).2.1 := by decide +kernel
theorem tyX5_ok : ∀ k, k < 5 → parseFieldDescriptor (TX5 k).2.2.1 = some (tyX5 k) := by decide +kernel
abbrev cX5_init : ByteArray := prog_7_method_1_code
def yX5_init : MethodName := ⟨RX5, "<init>", "(LGlobeWorks$Coast;II)V"⟩
abbrev cX5_longitudeAt : ByteArray := prog_7_method_2_code
def yX5_longitudeAt : MethodName := ⟨RX5, "longitudeAt", "(I)I"⟩
abbrev cX5_heightAt : ByteArray := prog_7_method_3_code
def yX5_heightAt : MethodName := ⟨RX5, "heightAt", "(I)I"⟩
def RX6 : String := "GlobeWorks"
def TX6 : u_T := fun k => match k with
  | 0 => ("GlobeWorks", "width", "I", true)
  | 1 => ("GlobeWorks", "gores", "[LGlobeWorks$Gore;", true)
  | 2 => ("GlobeWorks", "coasts", "Ljava/util/ArrayList;", true)
  | 3 => ("GlobeWorks", "names", "Ljava/util/ArrayList;", true)
  | 4 => ("GlobeWorks", "search", "LGlobeWorks$Search;", true)
  | 5 => ("GlobeWorks", "pieceCount", "I", false)
  | 6 => ("GlobeWorks", "growsAcross", "I", false)
  | 7 => ("GlobeWorks", "growsAlong", "I", false)
  | _ => ("GlobeWorks", "editions", "I", false)
def tyX6 : Nat → FieldType := fun k => match k with
  | 0 => .int
  | 1 => .array (.object "GlobeWorks$Gore")
  | 2 => .object "java/util/ArrayList"
  | 3 => .object "java/util/ArrayList"
  | 4 => .object "GlobeWorks$Search"
  | 5 => .int
  | 6 => .int
  | 7 => .int
  | _ => .int
abbrev wsX60 : List Cond := u_ws RX6 TX6 9
theorem nmX6 : ∀ a, a < 9 → ∀ b, b < 9 → a ≠ b → (TX6 a).2.1 ≠ (TX6 b).2.1 := by decide +kernel
theorem tyX6_ok : ∀ k, k < 9 → parseFieldDescriptor (TX6 k).2.2.1 = some (tyX6 k) := by decide +kernel
abbrev cX6_init : ByteArray := prog_1_method_1_code
def yX6_init : MethodName := ⟨RX6, "<init>", "(I)V"⟩
abbrev cX6_narrow : ByteArray := prog_1_method_2_code
def yX6_narrow : MethodName := ⟨RX6, "narrow", "(I)I"⟩
abbrev cX6_across : ByteArray := prog_1_method_3_code
def yX6_across : MethodName := ⟨RX6, "across", "(II)I"⟩
abbrev cX6_coast : ByteArray := prog_1_method_4_code
def yX6_coast : MethodName := ⟨RX6, "coast", "(II)I"⟩
abbrev cX6_to : ByteArray := prog_1_method_5_code
def yX6_to : MethodName := ⟨RX6, "to", "(III)I"⟩
abbrev cX6_pieces : ByteArray := prog_1_method_6_code
def yX6_pieces : MethodName := ⟨RX6, "pieces", "(I)I"⟩
abbrev cX6_piece : ByteArray := prog_1_method_7_code
def yX6_piece : MethodName := ⟨RX6, "piece", "(III)I"⟩
abbrev cX6_paper : ByteArray := prog_1_method_8_code
def yX6_paper : MethodName := ⟨RX6, "paper", "(II)Z"⟩
abbrev cX6_drawn : ByteArray := prog_1_method_9_code
def yX6_drawn : MethodName := ⟨RX6, "drawn", "(II)I"⟩
abbrev cX6_wet : ByteArray := prog_1_method_10_code
def yX6_wet : MethodName := ⟨RX6, "wet", "(II)I"⟩
abbrev cX6_name : ByteArray := prog_1_method_11_code
def yX6_name : MethodName := ⟨RX6, "name", "(IIII)I"⟩
abbrev cX6_strike : ByteArray := prog_1_method_12_code
def yX6_strike : MethodName := ⟨RX6, "strike", "(I)Z"⟩
abbrev cX6_may : ByteArray := prog_1_method_13_code
def yX6_may : MethodName := ⟨RX6, "may", "(II)Z"⟩
abbrev cX6_set : ByteArray := prog_1_method_14_code
def yX6_set : MethodName := ⟨RX6, "set", "(I)I"⟩
abbrev cX6_cost : ByteArray := prog_1_method_15_code
def yX6_cost : MethodName := ⟨RX6, "cost", "(I)I"⟩
abbrev cX6_told : ByteArray := prog_1_method_16_code
def yX6_told : MethodName := ⟨RX6, "told", "(II)I"⟩
abbrev cX6_fresh : ByteArray := prog_1_method_17_code
def yX6_fresh : MethodName := ⟨RX6, "fresh", "(I)Z"⟩
abbrev cX6_edition : ByteArray := prog_1_method_18_code
def yX6_edition : MethodName := ⟨RX6, "edition", "()I"⟩
abbrev cX6_printed : ByteArray := prog_1_method_19_code
def yX6_printed : MethodName := ⟨RX6, "printed", "(I)I"⟩
abbrev cX6_count : ByteArray := prog_1_method_20_code
def yX6_count : MethodName := ⟨RX6, "count", "(I)I"⟩
abbrev cX6_goreNumber : ByteArray := prog_1_method_21_code
def yX6_goreNumber : MethodName := ⟨RX6, "goreNumber", "(I)I"⟩
abbrev cX6_isPlace : ByteArray := prog_1_method_22_code
def yX6_isPlace : MethodName := ⟨RX6, "isPlace", "(II)Z"⟩
abbrev cX6_isHeight : ByteArray := prog_1_method_23_code
def yX6_isHeight : MethodName := ⟨RX6, "isHeight", "(I)Z"⟩
abbrev cX6_isGrowth : ByteArray := prog_1_method_24_code
def yX6_isGrowth : MethodName := ⟨RX6, "isGrowth", "(I)Z"⟩
abbrev cX6_isOnPaper : ByteArray := prog_1_method_25_code
def yX6_isOnPaper : MethodName := ⟨RX6, "isOnPaper", "(II)Z"⟩
abbrev cX6_roundBy : ByteArray := prog_1_method_26_code
def yX6_roundBy : MethodName := ⟨RX6, "roundBy", "(II)I"⟩
abbrev cX6_cosOf : ByteArray := prog_1_method_27_code
def yX6_cosOf : MethodName := ⟨RX6, "cosOf", "(I)I"⟩
abbrev cX6_narrowAt : ByteArray := prog_1_method_28_code
def yX6_narrowAt : MethodName := ⟨RX6, "narrowAt", "(I)I"⟩
abbrev cX6_xOf : ByteArray := prog_1_method_29_code
def yX6_xOf : MethodName := ⟨RX6, "xOf", "(II)I"⟩
abbrev cX6_grownThousand : ByteArray := prog_1_method_30_code
def yX6_grownThousand : MethodName := ⟨RX6, "grownThousand", "(I)I"⟩
abbrev cX6_goreOf : ByteArray := prog_1_method_31_code
def yX6_goreOf : MethodName := ⟨RX6, "goreOf", "(I)LGlobeWorks$Gore;"⟩
abbrev cX6_coastOf : ByteArray := prog_1_method_32_code
def yX6_coastOf : MethodName := ⟨RX6, "coastOf", "(I)LGlobeWorks$Coast;"⟩
abbrev cX6_nameOf : ByteArray := prog_1_method_33_code
def yX6_nameOf : MethodName := ⟨RX6, "nameOf", "(I)LGlobeWorks$Name;"⟩
abbrev cX6_namesThere : ByteArray := prog_1_method_34_code
def yX6_namesThere : MethodName := ⟨RX6, "namesThere", "()I"⟩
abbrev cX6_freshGores : ByteArray := prog_1_method_35_code
def yX6_freshGores : MethodName := ⟨RX6, "freshGores", "()I"⟩
abbrev cX6_sideOf : ByteArray := prog_1_method_36_code
def yX6_sideOf : MethodName := ⟨RX6, "sideOf", "(II)I"⟩
abbrev cX6_goneFromEdge : ByteArray := prog_1_method_37_code
def yX6_goneFromEdge : MethodName := ⟨RX6, "goneFromEdge", "(LGlobeWorks$Step;)I"⟩
abbrev cX6_piecesOf : ByteArray := prog_1_method_38_code
def yX6_piecesOf : MethodName := ⟨RX6, "piecesOf", "(LGlobeWorks$Step;)I"⟩
abbrev cX6_cutUpright : ByteArray := prog_1_method_39_code
def yX6_cutUpright : MethodName := ⟨RX6, "cutUpright", "(ILGlobeWorks$Step;)V"⟩
abbrev cX6_layUpright : ByteArray := prog_1_method_40_code
def yX6_layUpright : MethodName := ⟨RX6, "layUpright", "(ILGlobeWorks$Step;I)V"⟩
abbrev cX6_cutSlanting : ByteArray := prog_1_method_41_code
def yX6_cutSlanting : MethodName := ⟨RX6, "cutSlanting", "(ILGlobeWorks$Step;I)V"⟩
abbrev cX6_lay : ByteArray := prog_1_method_42_code
def yX6_lay : MethodName := ⟨RX6, "lay", "(ILGlobeWorks$Piece;)V"⟩
abbrev cX6_waysWithinEdges : ByteArray := prog_1_method_43_code
def yX6_waysWithinEdges : MethodName := ⟨RX6, "waysWithinEdges", "(LGlobeWorks$Name;)I"⟩
abbrev cX6_isWithinEdges : ByteArray := prog_1_method_44_code
def yX6_isWithinEdges : MethodName := ⟨RX6, "isWithinEdges", "(LGlobeWorks$Name;II)Z"⟩
abbrev cX6_changeNames : ByteArray := prog_1_method_45_code
def yX6_changeNames : MethodName := ⟨RX6, "changeNames", "(LGlobeWorks$Gore;)V"⟩
abbrev cX6_tryWays : ByteArray := prog_1_method_46_code
def yX6_tryWays : MethodName := ⟨RX6, "tryWays", "(LGlobeWorks$Gore;LGlobeWorks$Search;II)V"⟩
abbrev cX6_isClear : ByteArray := prog_1_method_47_code
def yX6_isClear : MethodName := ⟨RX6, "isClear", "(LGlobeWorks$Name;ILGlobeWorks$Gore;LGlobeWorks$Search;I)Z"⟩
def RX7 : String := "GlobeWorksModel"
def TX7 : u_T := fun k => match k with
  | 0 => ("GlobeWorksModel", "cos", "[I", true)
  | 1 => ("GlobeWorksModel", "gores", "I", true)
  | 2 => ("GlobeWorksModel", "wide", "I", true)
  | 3 => ("GlobeWorksModel", "coasts", "I", false)
  | 4 => ("GlobeWorksModel", "coastAt", "[I", true)
  | 5 => ("GlobeWorksModel", "coastHigh", "[I", true)
  | 6 => ("GlobeWorksModel", "pieces", "I", false)
  | 7 => ("GlobeWorksModel", "pieceGore", "[I", true)
  | 8 => ("GlobeWorksModel", "pieceCoast", "[I", true)
  | 9 => ("GlobeWorksModel", "pieceEnds", "[I", true)
  | 10 => ("GlobeWorksModel", "growsAcross", "I", false)
  | 11 => ("GlobeWorksModel", "growsAlong", "I", false)
  | 12 => ("GlobeWorksModel", "names", "I", false)
  | 13 => ("GlobeWorksModel", "isThere", "[Z", true)
  | 14 => ("GlobeWorksModel", "nameGore", "[I", true)
  | 15 => ("GlobeWorksModel", "nameSide", "[I", true)
  | 16 => ("GlobeWorksModel", "nameHigh", "[I", true)
  | 17 => ("GlobeWorksModel", "letters", "[I", true)
  | 18 => ("GlobeWorksModel", "price", "[I", true)
  | 19 => ("GlobeWorksModel", "isFresh", "[Z", true)
  | 20 => ("GlobeWorksModel", "printedIn", "[I", true)
  | 21 => ("GlobeWorksModel", "editions", "I", false)
  | 22 => ("GlobeWorksModel", "here", "[I", true)
  | 23 => ("GlobeWorksModel", "ways", "[I", true)
  | 24 => ("GlobeWorksModel", "bestWays", "[I", true)
  | _ => ("GlobeWorksModel", "bestCost", "I", false)
def tyX7 : Nat → FieldType := fun k => match k with
  | 0 => .array .int
  | 1 => .int
  | 2 => .int
  | 3 => .int
  | 4 => .array .int
  | 5 => .array .int
  | 6 => .int
  | 7 => .array .int
  | 8 => .array .int
  | 9 => .array .int
  | 10 => .int
  | 11 => .int
  | 12 => .int
  | 13 => .array .boolean
  | 14 => .array .int
  | 15 => .array .int
  | 16 => .array .int
  | 17 => .array .int
  | 18 => .array .int
  | 19 => .array .boolean
  | 20 => .array .int
  | 21 => .int
  | 22 => .array .int
  | 23 => .array .int
  | 24 => .array .int
  | _ => .int
abbrev wsX70 : List Cond := u_ws RX7 TX7 26
theorem nmX7 : ∀ a, a < 26 → ∀ b, b < 26 → a ≠ b → (TX7 a).2.1 ≠ (TX7 b).2.1 := by decide +kernel
theorem tyX7_ok : ∀ k, k < 26 → parseFieldDescriptor (TX7 k).2.2.1 = some (tyX7 k) := by decide +kernel
abbrev cX7_init : ByteArray := prog_9_method_1_code
def yX7_init : MethodName := ⟨RX7, "<init>", "(I)V"⟩
abbrev cX7_in : ByteArray := prog_9_method_2_code
def yX7_in : MethodName := ⟨RX7, "in", "(III)Z"⟩
abbrev cX7_isGore : ByteArray := prog_9_method_3_code
def yX7_isGore : MethodName := ⟨RX7, "isGore", "(I)Z"⟩
abbrev cX7_round : ByteArray := prog_9_method_4_code
def yX7_round : MethodName := ⟨RX7, "round", "(II)I"⟩
abbrev cX7_narrowOf : ByteArray := prog_9_method_5_code
def yX7_narrowOf : MethodName := ⟨RX7, "narrowOf", "(I)I"⟩
abbrev cX7_acrossOf : ByteArray := prog_9_method_6_code
def yX7_acrossOf : MethodName := ⟨RX7, "acrossOf", "(II)I"⟩
abbrev cX7_narrow : ByteArray := prog_9_method_7_code
def yX7_narrow : MethodName := ⟨RX7, "narrow", "(I)I"⟩
abbrev cX7_across : ByteArray := prog_9_method_8_code
def yX7_across : MethodName := ⟨RX7, "across", "(II)I"⟩
abbrev cX7_isPlace : ByteArray := prog_9_method_9_code
def yX7_isPlace : MethodName := ⟨RX7, "isPlace", "(II)Z"⟩
abbrev cX7_coast : ByteArray := prog_9_method_10_code
def yX7_coast : MethodName := ⟨RX7, "coast", "(II)I"⟩
abbrev cX7_heightAt : ByteArray := prog_9_method_11_code
def yX7_heightAt : MethodName := ⟨RX7, "heightAt", "(IIII)I"⟩
abbrev cX7_adds : ByteArray := prog_9_method_12_code
def yX7_adds : MethodName := ⟨RX7, "adds", "(IIIIII)V"⟩
abbrev cX7_isEdge : ByteArray := prog_9_method_13_code
def yX7_isEdge : MethodName := ⟨RX7, "isEdge", "(I)Z"⟩
abbrev cX7_parts : ByteArray := prog_9_method_14_code
def yX7_parts : MethodName := ⟨RX7, "parts", "(II)I"⟩
abbrev cX7_to : ByteArray := prog_9_method_15_code
def yX7_to : MethodName := ⟨RX7, "to", "(III)I"⟩
abbrev cX7_stays : ByteArray := prog_9_method_16_code
def yX7_stays : MethodName := ⟨RX7, "stays", "(IIII)V"⟩
abbrev cX7_goes : ByteArray := prog_9_method_17_code
def yX7_goes : MethodName := ⟨RX7, "goes", "(IIIII)V"⟩
abbrev cX7_sideWest : ByteArray := prog_9_method_18_code
def yX7_sideWest : MethodName := ⟨RX7, "sideWest", "(II)I"⟩
abbrev cX7_pieces : ByteArray := prog_9_method_19_code
def yX7_pieces : MethodName := ⟨RX7, "pieces", "(I)I"⟩
abbrev cX7_piece : ByteArray := prog_9_method_20_code
def yX7_piece : MethodName := ⟨RX7, "piece", "(III)I"⟩
abbrev cX7_paper : ByteArray := prog_9_method_21_code
def yX7_paper : MethodName := ⟨RX7, "paper", "(II)Z"⟩
abbrev cX7_grown : ByteArray := prog_9_method_22_code
def yX7_grown : MethodName := ⟨RX7, "grown", "(I)I"⟩
abbrev cX7_drawn : ByteArray := prog_9_method_23_code
def yX7_drawn : MethodName := ⟨RX7, "drawn", "(II)I"⟩
abbrev cX7_wet : ByteArray := prog_9_method_24_code
def yX7_wet : MethodName := ⟨RX7, "wet", "(II)I"⟩
abbrev cX7_isName : ByteArray := prog_9_method_25_code
def yX7_isName : MethodName := ⟨RX7, "isName", "(I)Z"⟩
abbrev cX7_namesIn : ByteArray := prog_9_method_26_code
def yX7_namesIn : MethodName := ⟨RX7, "namesIn", "(I)I"⟩
abbrev cX7_name : ByteArray := prog_9_method_27_code
def yX7_name : MethodName := ⟨RX7, "name", "(IIII)I"⟩
abbrev cX7_strike : ByteArray := prog_9_method_28_code
def yX7_strike : MethodName := ⟨RX7, "strike", "(I)Z"⟩
abbrev cX7_left : ByteArray := prog_9_method_29_code
def yX7_left : MethodName := ⟨RX7, "left", "(II)I"⟩
abbrev cX7_low : ByteArray := prog_9_method_30_code
def yX7_low : MethodName := ⟨RX7, "low", "(II)I"⟩
abbrev cX7_isWithin : ByteArray := prog_9_method_31_code
def yX7_isWithin : MethodName := ⟨RX7, "isWithin", "(II)Z"⟩
abbrev cX7_canBe : ByteArray := prog_9_method_32_code
def yX7_canBe : MethodName := ⟨RX7, "canBe", "(II)Z"⟩
abbrev cX7_may : ByteArray := prog_9_method_33_code
def yX7_may : MethodName := ⟨RX7, "may", "(II)Z"⟩
abbrev cX7_areApart : ByteArray := prog_9_method_34_code
def yX7_areApart : MethodName := ⟨RX7, "areApart", "(IIII)Z"⟩
abbrev cX7_sets : ByteArray := prog_9_method_35_code
def yX7_sets : MethodName := ⟨RX7, "sets", "(I)I"⟩
abbrev cX7_isGood : ByteArray := prog_9_method_36_code
def yX7_isGood : MethodName := ⟨RX7, "isGood", "(I)Z"⟩
abbrev cX7_set : ByteArray := prog_9_method_37_code
def yX7_set : MethodName := ⟨RX7, "set", "(I)I"⟩
abbrev cX7_cost : ByteArray := prog_9_method_38_code
def yX7_cost : MethodName := ⟨RX7, "cost", "(I)I"⟩
abbrev cX7_told : ByteArray := prog_9_method_39_code
def yX7_told : MethodName := ⟨RX7, "told", "(II)I"⟩
abbrev cX7_fresh : ByteArray := prog_9_method_40_code
def yX7_fresh : MethodName := ⟨RX7, "fresh", "(I)Z"⟩
abbrev cX7_edition : ByteArray := prog_9_method_41_code
def yX7_edition : MethodName := ⟨RX7, "edition", "()I"⟩
abbrev cX7_printed : ByteArray := prog_9_method_42_code
def yX7_printed : MethodName := ⟨RX7, "printed", "(I)I"⟩
abbrev cX7_count : ByteArray := prog_9_method_43_code
def yX7_count : MethodName := ⟨RX7, "count", "(I)I"⟩
def RJx145de : String := "java/io/Serializable"
def TJx145de : u_T := fun k => match k with
  | _ => ("", "", "", false)
def tyJx145de : Nat → FieldType := fun k => match k with
  | _ => .int
abbrev wsJx145de0 : List Cond := u_ws RJx145de TJx145de 0
theorem nmJx145de : ∀ a, a < 0 → ∀ b, b < 0 → a ≠ b → (TJx145de a).2.1 ≠ (TJx145de b).2.1 := by decide +kernel
theorem tyJx145de_ok : ∀ k, k < 0 → parseFieldDescriptor (TJx145de k).2.2.1 = some (tyJx145de k) := by decide +kernel
def RJx8e188 : String := "java/lang/Cloneable"
def TJx8e188 : u_T := fun k => match k with
  | _ => ("", "", "", false)
def tyJx8e188 : Nat → FieldType := fun k => match k with
  | _ => .int
abbrev wsJx8e1880 : List Cond := u_ws RJx8e188 TJx8e188 0
theorem nmJx8e188 : ∀ a, a < 0 → ∀ b, b < 0 → a ≠ b → (TJx8e188 a).2.1 ≠ (TJx8e188 b).2.1 := by decide +kernel
theorem tyJx8e188_ok : ∀ k, k < 0 → parseFieldDescriptor (TJx8e188 k).2.2.1 = some (tyJx8e188 k) := by decide +kernel
def RJxab1ab : String := "java/lang/Iterable"
def TJxab1ab : u_T := fun k => match k with
  | _ => ("", "", "", false)
def tyJxab1ab : Nat → FieldType := fun k => match k with
  | _ => .int
abbrev wsJxab1ab0 : List Cond := u_ws RJxab1ab TJxab1ab 0
theorem nmJxab1ab : ∀ a, a < 0 → ∀ b, b < 0 → a ≠ b → (TJxab1ab a).2.1 ≠ (TJxab1ab b).2.1 := by decide +kernel
theorem tyJxab1ab_ok : ∀ k, k < 0 → parseFieldDescriptor (TJxab1ab k).2.2.1 = some (tyJxab1ab k) := by decide +kernel
def RJ9 : String := "java/lang/Math"
def TJ9 : u_T := fun k => match k with
  | _ => ("", "", "", false)
def tyJ9 : Nat → FieldType := fun k => match k with
  | _ => .int
abbrev wsJ90 : List Cond := u_ws RJ9 TJ9 0
theorem nmJ9 : ∀ a, a < 0 → ∀ b, b < 0 → a ≠ b → (TJ9 a).2.1 ≠ (TJ9 b).2.1 := by decide +kernel
theorem tyJ9_ok : ∀ k, k < 0 → parseFieldDescriptor (TJ9 k).2.2.1 = some (tyJ9 k) := by decide +kernel
abbrev cJ9_floorDiv_7cf53 : ByteArray := prog_13_method_47_code
def yJ9_floorDiv_7cf53 : MethodName := ⟨RJ9, "floorDiv", "(II)I"⟩
abbrev cJ9_floorMod_7cf53 : ByteArray := prog_13_method_50_code
def yJ9_floorMod_7cf53 : MethodName := ⟨RJ9, "floorMod", "(II)I"⟩
abbrev cJ9_abs_0f7a4 : ByteArray := prog_13_method_59_code
def yJ9_abs_0f7a4 : MethodName := ⟨RJ9, "abs", "(I)I"⟩
abbrev cJ9_max_7cf53 : ByteArray := prog_13_method_65_code
def yJ9_max_7cf53 : MethodName := ⟨RJ9, "max", "(II)I"⟩
abbrev cJ9_min_7cf53 : ByteArray := prog_13_method_69_code
def yJ9_min_7cf53 : MethodName := ⟨RJ9, "min", "(II)I"⟩
def RJ10 : String := "java/lang/System"
def TJ10 : u_T := fun k => match k with
  | _ => ("", "", "", false)
def tyJ10 : Nat → FieldType := fun k => match k with
  | _ => .int
abbrev wsJ100 : List Cond := u_ws RJ10 TJ10 0
theorem nmJ10 : ∀ a, a < 0 → ∀ b, b < 0 → a ≠ b → (TJ10 a).2.1 ≠ (TJ10 b).2.1 := by decide +kernel
theorem tyJ10_ok : ∀ k, k < 0 → parseFieldDescriptor (TJ10 k).2.2.1 = some (tyJ10 k) := by decide +kernel
def RJxa1e45 : String := "java/util/AbstractCollection"
def TJxa1e45 : u_T := fun k => match k with
  | _ => ("", "", "", false)
def tyJxa1e45 : Nat → FieldType := fun k => match k with
  | _ => .int
abbrev wsJxa1e450 : List Cond := u_ws RJxa1e45 TJxa1e45 0
theorem nmJxa1e45 : ∀ a, a < 0 → ∀ b, b < 0 → a ≠ b → (TJxa1e45 a).2.1 ≠ (TJxa1e45 b).2.1 := by decide +kernel
theorem tyJxa1e45_ok : ∀ k, k < 0 → parseFieldDescriptor (TJxa1e45 k).2.2.1 = some (tyJxa1e45 k) := by decide +kernel
abbrev cJxa1e45_init_da8c8 : ByteArray := prog_15_method_1_code
def yJxa1e45_init_da8c8 : MethodName := ⟨RJxa1e45, "<init>", "()V"⟩
def RJxc12de : String := "java/util/AbstractList"
def TJxc12de : u_T := fun k => match k with
  | _ => ("", "", "", false)
def tyJxc12de : Nat → FieldType := fun k => match k with
  | _ => .int
abbrev wsJxc12de0 : List Cond := u_ws RJxc12de TJxc12de 0
theorem nmJxc12de : ∀ a, a < 0 → ∀ b, b < 0 → a ≠ b → (TJxc12de a).2.1 ≠ (TJxc12de b).2.1 := by decide +kernel
theorem tyJxc12de_ok : ∀ k, k < 0 → parseFieldDescriptor (TJxc12de k).2.2.1 = some (tyJxc12de k) := by decide +kernel
abbrev cJxc12de_init_da8c8 : ByteArray := prog_16_method_1_code
def yJxc12de_init_da8c8 : MethodName := ⟨RJxc12de, "<init>", "()V"⟩
def RJx4a65c : String := "java/util/ArrayList"
def TJx4a65c : u_T := fun k => match k with
  | 0 => ("java/util/AbstractList", "modCount", "I", false)
  | 1 => ("java/util/ArrayList", "elementData", "[Ljava/lang/Object;", false)
  | _ => ("java/util/ArrayList", "size", "I", false)
def tyJx4a65c : Nat → FieldType := fun k => match k with
  | 0 => .int
  | 1 => .array (.object "java/lang/Object")
  | _ => .int
abbrev wsJx4a65c0 : List Cond := u_ws RJx4a65c TJx4a65c 3
theorem nmJx4a65c : ∀ a, a < 3 → ∀ b, b < 3 → a ≠ b → (TJx4a65c a).2.1 ≠ (TJx4a65c b).2.1 := by decide +kernel
theorem tyJx4a65c_ok : ∀ k, k < 3 → parseFieldDescriptor (TJx4a65c k).2.2.1 = some (tyJx4a65c k) := by decide +kernel
abbrev cJx4a65c_init_da8c8 : ByteArray := prog_17_method_2_code
def yJx4a65c_init_da8c8 : MethodName := ⟨RJx4a65c, "<init>", "()V"⟩
abbrev cJx4a65c_grow_92f84 : ByteArray := prog_17_method_6_code
def yJx4a65c_grow_92f84 : MethodName := ⟨RJx4a65c, "grow", "(I)[Ljava/lang/Object;"⟩
abbrev cJx4a65c_grow_d5877 : ByteArray := prog_17_method_7_code
def yJx4a65c_grow_d5877 : MethodName := ⟨RJx4a65c, "grow", "()[Ljava/lang/Object;"⟩
abbrev cJx4a65c_size_8abf5 : ByteArray := prog_17_method_8_code
def yJx4a65c_size_8abf5 : MethodName := ⟨RJx4a65c, "size", "()I"⟩
abbrev cJx4a65c_elementData_915e3 : ByteArray := prog_17_method_18_code
def yJx4a65c_elementData_915e3 : MethodName := ⟨RJx4a65c, "elementData", "(I)Ljava/lang/Object;"⟩
abbrev cJx4a65c_get_915e3 : ByteArray := prog_17_method_20_code
def yJx4a65c_get_915e3 : MethodName := ⟨RJx4a65c, "get", "(I)Ljava/lang/Object;"⟩
abbrev cJx4a65c_add_72be8 : ByteArray := prog_17_method_24_code
def yJx4a65c_add_72be8 : MethodName := ⟨RJx4a65c, "add", "(Ljava/lang/Object;[Ljava/lang/Object;I)V"⟩
abbrev cJx4a65c_add_9ea2d : ByteArray := prog_17_method_25_code
def yJx4a65c_add_9ea2d : MethodName := ⟨RJx4a65c, "add", "(Ljava/lang/Object;)Z"⟩
abbrev cJx4a65c_remove_915e3 : ByteArray := prog_17_method_29_code
def yJx4a65c_remove_915e3 : MethodName := ⟨RJx4a65c, "remove", "(I)Ljava/lang/Object;"⟩
abbrev cJx4a65c_fastRemove_b59b0 : ByteArray := prog_17_method_39_code
def yJx4a65c_fastRemove_b59b0 : MethodName := ⟨RJx4a65c, "fastRemove", "([Ljava/lang/Object;I)V"⟩
def RJ7 : String := "java/util/Arrays"
def TJ7 : u_T := fun k => match k with
  | _ => ("", "", "", false)
def tyJ7 : Nat → FieldType := fun k => match k with
  | _ => .int
abbrev wsJ70 : List Cond := u_ws RJ7 TJ7 0
theorem nmJ7 : ∀ a, a < 0 → ∀ b, b < 0 → a ≠ b → (TJ7 a).2.1 ≠ (TJ7 b).2.1 := by decide +kernel
theorem tyJ7_ok : ∀ k, k < 0 → parseFieldDescriptor (TJ7 k).2.2.1 = some (tyJ7 k) := by decide +kernel
abbrev cJ7_copyOf_1904c : ByteArray := prog_18_method_119_code
def yJ7_copyOf_1904c : MethodName := ⟨RJ7, "copyOf", "([Ljava/lang/Object;I)[Ljava/lang/Object;"⟩
abbrev cJ7_copyOf_6403c : ByteArray := prog_18_method_120_code
def yJ7_copyOf_6403c : MethodName := ⟨RJ7, "copyOf", "([Ljava/lang/Object;ILjava/lang/Class;)[Ljava/lang/Object;"⟩
def RJx5ef63 : String := "java/util/Collection"
def TJx5ef63 : u_T := fun k => match k with
  | _ => ("", "", "", false)
def tyJx5ef63 : Nat → FieldType := fun k => match k with
  | _ => .int
abbrev wsJx5ef630 : List Cond := u_ws RJx5ef63 TJx5ef63 0
theorem nmJx5ef63 : ∀ a, a < 0 → ∀ b, b < 0 → a ≠ b → (TJx5ef63 a).2.1 ≠ (TJx5ef63 b).2.1 := by decide +kernel
theorem tyJx5ef63_ok : ∀ k, k < 0 → parseFieldDescriptor (TJx5ef63 k).2.2.1 = some (tyJx5ef63 k) := by decide +kernel
def RJxbd725 : String := "java/util/List"
def TJxbd725 : u_T := fun k => match k with
  | _ => ("", "", "", false)
def tyJxbd725 : Nat → FieldType := fun k => match k with
  | _ => .int
abbrev wsJxbd7250 : List Cond := u_ws RJxbd725 TJxbd725 0
theorem nmJxbd725 : ∀ a, a < 0 → ∀ b, b < 0 → a ≠ b → (TJxbd725 a).2.1 ≠ (TJxbd725 b).2.1 := by decide +kernel
theorem tyJxbd725_ok : ∀ k, k < 0 → parseFieldDescriptor (TJxbd725 k).2.2.1 = some (tyJxbd725 k) := by decide +kernel
def RJ15 : String := "java/util/Objects"
def TJ15 : u_T := fun k => match k with
  | _ => ("", "", "", false)
def tyJ15 : Nat → FieldType := fun k => match k with
  | _ => .int
abbrev wsJ150 : List Cond := u_ws RJ15 TJ15 0
theorem nmJ15 : ∀ a, a < 0 → ∀ b, b < 0 → a ≠ b → (TJ15 a).2.1 ≠ (TJ15 b).2.1 := by decide +kernel
theorem tyJ15_ok : ∀ k, k < 0 → parseFieldDescriptor (TJ15 k).2.2.1 = some (tyJ15 k) := by decide +kernel
abbrev cJ15_checkIndex_7cf53 : ByteArray := prog_21_method_17_code
def yJ15_checkIndex_7cf53 : MethodName := ⟨RJ15, "checkIndex", "(II)I"⟩
def RJxf0a74 : String := "java/util/RandomAccess"
def TJxf0a74 : u_T := fun k => match k with
  | _ => ("", "", "", false)
def tyJxf0a74 : Nat → FieldType := fun k => match k with
  | _ => .int
abbrev wsJxf0a740 : List Cond := u_ws RJxf0a74 TJxf0a74 0
theorem nmJxf0a74 : ∀ a, a < 0 → ∀ b, b < 0 → a ≠ b → (TJxf0a74 a).2.1 ≠ (TJxf0a74 b).2.1 := by decide +kernel
theorem tyJxf0a74_ok : ∀ k, k < 0 → parseFieldDescriptor (TJxf0a74 k).2.2.1 = some (tyJxf0a74 k) := by decide +kernel
def RJxa66e6 : String := "java/util/SequencedCollection"
def TJxa66e6 : u_T := fun k => match k with
  | _ => ("", "", "", false)
def tyJxa66e6 : Nat → FieldType := fun k => match k with
  | _ => .int
abbrev wsJxa66e60 : List Cond := u_ws RJxa66e6 TJxa66e6 0
theorem nmJxa66e6 : ∀ a, a < 0 → ∀ b, b < 0 → a ≠ b → (TJxa66e6 a).2.1 ≠ (TJxa66e6 b).2.1 := by decide +kernel
theorem tyJxa66e6_ok : ∀ k, k < 0 → parseFieldDescriptor (TJxa66e6 k).2.2.1 = some (tyJxa66e6 k) := by decide +kernel
def RJ8 : String := "jdk/internal/util/ArraysSupport"
def TJ8 : u_T := fun k => match k with
  | _ => ("", "", "", false)
def tyJ8 : Nat → FieldType := fun k => match k with
  | _ => .int
abbrev wsJ80 : List Cond := u_ws RJ8 TJ8 0
theorem nmJ8 : ∀ a, a < 0 → ∀ b, b < 0 → a ≠ b → (TJ8 a).2.1 ≠ (TJ8 b).2.1 := by decide +kernel
theorem tyJ8_ok : ∀ k, k < 0 → parseFieldDescriptor (TJ8 k).2.2.1 = some (tyJ8 k) := by decide +kernel
abbrev cJ8_newLength_cabcc : ByteArray := prog_24_method_27_code
def yJ8_newLength_cabcc : MethodName := ⟨RJ8, "newLength", "(III)I"⟩
abbrev cJ8_hugeLength_7cf53 : ByteArray := prog_24_method_28_code
def yJ8_hugeLength_7cf53 : MethodName := ⟨RJ8, "hugeLength", "(II)I"⟩
def RJ3 : String := "jdk/internal/util/Preconditions"
def TJ3 : u_T := fun k => match k with
  | _ => ("", "", "", false)
def tyJ3 : Nat → FieldType := fun k => match k with
  | _ => .int
abbrev wsJ30 : List Cond := u_ws RJ3 TJ3 0
theorem nmJ3 : ∀ a, a < 0 → ∀ b, b < 0 → a ≠ b → (TJ3 a).2.1 ≠ (TJ3 b).2.1 := by decide +kernel
theorem tyJ3_ok : ∀ k, k < 0 → parseFieldDescriptor (TJ3 k).2.2.1 = some (tyJ3 k) := by decide +kernel
abbrev cJ3_checkIndex_8e157 : ByteArray := prog_25_method_11_code
def yJ3_checkIndex_8e157 : MethodName := ⟨RJ3, "checkIndex", "(IILjava/util/function/BiFunction;)I"⟩
def RL : String := "GlobeWorksLaw"
abbrev cL_cell : ByteArray := method_2_code
def yL_cell : MethodName := ⟨RL, "cell", "([II)I"⟩
abbrev cL_law : ByteArray := code
def yL_law : MethodName := ⟨RL, "law", "([I)Z"⟩
def wsJx4a65c_fastRemove_b59b0 : List Cond := .code yJx4a65c_fastRemove_b59b0 cJx4a65c_fastRemove_b59b0 4 none :: ([.fieldLink RJx4a65c 63 "java/util/ArrayList" "modCount" "I", .sameField "java/util/ArrayList" "java/util/AbstractList" "modCount" "I", .fieldLink RJx4a65c 48 "java/util/ArrayList" "size" "I", .methodLink RJx4a65c 112 arraycopyName, .native arraycopyName, .static arraycopyName, .initialized "java/lang/System"] ++ wsJx4a65c0)
def wsL_law_r1 : List Cond := [Cond.classLink RL 7 RX6, Cond.instantiable RX6 9, Cond.initialized RX6, Cond.classLink RL 18 RX7, Cond.instantiable RX7 26, Cond.initialized RX7, Cond.methodLink RL 9 yL_cell, Cond.static yL_cell, Cond.initialized RL, Cond.code yL_cell cL_cell 2 (some .int), Cond.methodLink RL 15 yX6_init, Cond.instanceMethod yX6_init, Cond.code yX6_init cX6_init 4 none, Cond.methodLink RX6 3 objectInit, Cond.instanceMethod objectInit, Cond.code objectInit ⟨#[0xb1]⟩ 1 none, Cond.classLink RX6 9 RJx4a65c, Cond.instantiable RJx4a65c 3, Cond.initialized RJx4a65c, Cond.fieldLink RX6 12 "GlobeWorks" "coasts" "Ljava/util/ArrayList;", Cond.fieldLink RX6 16 "GlobeWorks" "names" "Ljava/util/ArrayList;", Cond.classLink RX6 19 RX4, Cond.instantiable RX4 3, Cond.initialized RX4]
def wsL_law_r2 : List Cond := [Cond.fieldLink RX6 22 "GlobeWorks" "search" "LGlobeWorks$Search;", Cond.fieldLink RX6 30 "GlobeWorks" "width" "I", Cond.classLink RX6 34 RX1, Cond.fieldLink RX6 36 "GlobeWorks" "gores" "[LGlobeWorks$Gore;", Cond.instantiable RX1 5, Cond.initialized RX1, Cond.methodLink RX6 11 yJx4a65c_init_da8c8, Cond.instanceMethod yJx4a65c_init_da8c8, Cond.code yJx4a65c_init_da8c8 cJx4a65c_init_da8c8 1 none, Cond.fieldLink RJx4a65c 39 "java/util/ArrayList" "DEFAULTCAPACITY_EMPTY_ELEMENTDATA" "[Ljava/lang/Object;", Cond.fieldLink RJx4a65c 9 "java/util/ArrayList" "elementData" "[Ljava/lang/Object;", Cond.methodLink RJx4a65c 1 yJxc12de_init_da8c8, Cond.instanceMethod yJxc12de_init_da8c8, Cond.initialized RJxc12de, Cond.code yJxc12de_init_da8c8 cJxc12de_init_da8c8 1 none, Cond.fieldLink RJxc12de 7 "java/util/AbstractList" "modCount" "I", Cond.methodLink RJxc12de 1 yJxa1e45_init_da8c8, Cond.instanceMethod yJxa1e45_init_da8c8, Cond.initialized RJxa1e45, Cond.code yJxa1e45_init_da8c8 cJxa1e45_init_da8c8 1 none, Cond.methodLink RJxa1e45 1 objectInit, Cond.instanceMethod yX4_init, Cond.code yX4_init cX4_init 1 none, Cond.methodLink RX4 3 objectInit]
def wsL_law_r3 : List Cond := [Cond.arrayClass .int, Cond.fieldLink RX4 9 "GlobeWorks$Search" "trial" "[I", Cond.fieldLink RX4 15 "GlobeWorks$Search" "best" "[I", Cond.methodLink RX6 26 yX6_goreNumber, Cond.static yX6_goreNumber, Cond.code yX6_goreNumber cX6_goreNumber 3 (some .int), Cond.fieldLink RX6 223 "GlobeWorks" "GORE_NUMBERS" "[I", Cond.instanceMethod yX1_init, Cond.code yX1_init cX1_init 1 none, Cond.methodLink RX1 1 objectInit, Cond.classLink RX1 7 RJx4a65c, Cond.fieldLink RX1 10 "GlobeWorks$Gore" "pieces" "Ljava/util/ArrayList;", Cond.fieldLink RX1 16 "GlobeWorks$Gore" "names" "Ljava/util/ArrayList;", Cond.fieldLink RX1 19 "GlobeWorks$Gore" "isFresh" "Z", Cond.methodLink RX1 9 yJx4a65c_init_da8c8, Cond.methodLink RL 20 yX7_init, Cond.instanceMethod yX7_init, Cond.code yX7_init cX7_init 5 none, Cond.methodLink RX7 1 objectInit, Cond.fieldLink RX7 7 "GlobeWorksModel" "cos" "[I", Cond.fieldLink RX7 13 "GlobeWorksModel" "coastAt" "[I", Cond.fieldLink RX7 16 "GlobeWorksModel" "coastHigh" "[I", Cond.fieldLink RX7 19 "GlobeWorksModel" "pieceGore" "[I", Cond.fieldLink RX7 22 "GlobeWorksModel" "pieceCoast" "[I"]
def wsL_law_r4 : List Cond := [Cond.fieldLink RX7 25 "GlobeWorksModel" "pieceEnds" "[I", Cond.arrayClass .boolean, Cond.fieldLink RX7 28 "GlobeWorksModel" "isThere" "[Z", Cond.fieldLink RX7 32 "GlobeWorksModel" "nameGore" "[I", Cond.fieldLink RX7 35 "GlobeWorksModel" "nameSide" "[I", Cond.fieldLink RX7 38 "GlobeWorksModel" "nameHigh" "[I", Cond.fieldLink RX7 41 "GlobeWorksModel" "letters" "[I", Cond.fieldLink RX7 44 "GlobeWorksModel" "price" "[I", Cond.fieldLink RX7 47 "GlobeWorksModel" "isFresh" "[Z", Cond.fieldLink RX7 50 "GlobeWorksModel" "printedIn" "[I", Cond.fieldLink RX7 53 "GlobeWorksModel" "here" "[I", Cond.fieldLink RX7 56 "GlobeWorksModel" "ways" "[I", Cond.fieldLink RX7 59 "GlobeWorksModel" "bestWays" "[I", Cond.fieldLink RX7 62 "GlobeWorksModel" "gores" "I", Cond.fieldLink RX7 66 "GlobeWorksModel" "wide" "I", Cond.methodLink RL 21 yX6_narrow, Cond.instanceMethod yX6_narrow, Cond.selects RX6 yX6_narrow yX6_narrow, Cond.code yX6_narrow cX6_narrow 2 (some .int), Cond.methodLink RX6 41 yX6_isHeight, Cond.static yX6_isHeight, Cond.code yX6_isHeight cX6_isHeight 1 (some .boolean), Cond.methodLink RX6 45 yX6_narrowAt, Cond.static yX6_narrowAt]
def wsL_law_r5 : List Cond := [Cond.code yX6_narrowAt cX6_narrowAt 4 (some .int), Cond.methodLink RX6 235 Lib.Math.abs.name, Cond.static Lib.Math.abs.name, Cond.initialized "java/lang/Math", Cond.code Lib.Math.abs.name Lib.Math.abs.code 1 (some .int), Cond.methodLink RX6 238 yX6_cosOf, Cond.static yX6_cosOf, Cond.code yX6_cosOf cX6_cosOf 1 (some .int), Cond.fieldLink RX6 232 "GlobeWorks" "COS" "[I", Cond.methodLink RL 25 yX7_narrow, Cond.instanceMethod yX7_narrow, Cond.selects RX7 yX7_narrow yX7_narrow, Cond.code yX7_narrow cX7_narrow 2 (some .int), Cond.methodLink RX7 69 yX7_in, Cond.static yX7_in, Cond.code yX7_in cX7_in 3 (some .boolean), Cond.methodLink RX7 73 yX7_narrowOf, Cond.instanceMethod yX7_narrowOf, Cond.selects RX7 yX7_narrowOf yX7_narrowOf, Cond.code yX7_narrowOf cX7_narrowOf 3 (some .int), Cond.methodLink RL 26 yX6_across, Cond.instanceMethod yX6_across, Cond.selects RX6 yX6_across yX6_across, Cond.code yX6_across cX6_across 4 (some .int)]
def wsL_law_r6 : List Cond := [Cond.constant RX6 52 (-2147483648), Cond.methodLink RX6 48 yX6_xOf, Cond.static yX6_xOf, Cond.code yX6_xOf cX6_xOf 2 (some .int), Cond.methodLink RL 30 yX7_across, Cond.instanceMethod yX7_across, Cond.selects RX7 yX7_across yX7_across, Cond.code yX7_across cX7_across 3 (some .int), Cond.constant RX7 81 (-2147483648), Cond.methodLink RX7 77 yX7_acrossOf, Cond.instanceMethod yX7_acrossOf, Cond.selects RX7 yX7_acrossOf yX7_acrossOf, Cond.code yX7_acrossOf cX7_acrossOf 3 (some .int), Cond.methodLink RL 31 yX6_coast, Cond.instanceMethod yX6_coast, Cond.selects RX6 yX6_coast yX6_coast, Cond.code yX6_coast cX6_coast 3 (some .int), Cond.classLink RX6 61 RX0, Cond.instantiable RX0 2, Cond.initialized RX0, Cond.methodLink RX6 53 yX6_isPlace, Cond.static yX6_isPlace, Cond.code yX6_isPlace cX6_isPlace 2 (some .boolean), Cond.methodLink RX6 57 yJx4a65c_size_8abf5]
def wsL_law_r7 : List Cond := [Cond.instanceMethod yJx4a65c_size_8abf5, Cond.selects RJx4a65c yJx4a65c_size_8abf5 yJx4a65c_size_8abf5, Cond.code yJx4a65c_size_8abf5 cJx4a65c_size_8abf5 1 (some .int), Cond.fieldLink RJx4a65c 48 "java/util/ArrayList" "size" "I", Cond.methodLink RX6 63 yX0_init, Cond.instanceMethod yX0_init, Cond.code yX0_init cX0_init 3 none, Cond.methodLink RX0 1 objectInit, Cond.fieldLink RX0 7 "GlobeWorks$Coast" "longitude" "I", Cond.fieldLink RX0 13 "GlobeWorks$Coast" "latitude" "I", Cond.methodLink RX6 66 yJx4a65c_add_9ea2d, Cond.instanceMethod yJx4a65c_add_9ea2d, Cond.selects RJx4a65c yJx4a65c_add_9ea2d yJx4a65c_add_9ea2d, Cond.code yJx4a65c_add_9ea2d cJx4a65c_add_9ea2d 2 (some .boolean), Cond.fieldLink RJx4a65c 63 "java/util/ArrayList" "modCount" "I", Cond.sameField "java/util/ArrayList" "java/util/AbstractList" "modCount" "I", Cond.methodLink RJx4a65c 131 yJx4a65c_add_72be8, Cond.instanceMethod yJx4a65c_add_72be8, Cond.selects RJx4a65c yJx4a65c_add_72be8 yJx4a65c_add_72be8, Cond.code yJx4a65c_add_72be8 cJx4a65c_add_72be8 4 none, Cond.methodLink RJx4a65c 129 yJx4a65c_grow_d5877, Cond.instanceMethod yJx4a65c_grow_d5877, Cond.selects RJx4a65c yJx4a65c_grow_d5877 yJx4a65c_grow_d5877, Cond.code yJx4a65c_grow_d5877 cJx4a65c_grow_d5877 1 (some (.array (.object "java/lang/Object")))]
def wsL_law_r8 : List Cond := [Cond.methodLink RJx4a65c 69 yJx4a65c_grow_92f84, Cond.instanceMethod yJx4a65c_grow_92f84, Cond.selects RJx4a65c yJx4a65c_grow_92f84 yJx4a65c_grow_92f84, Cond.code yJx4a65c_grow_92f84 cJx4a65c_grow_92f84 4 (some (.array (.object "java/lang/Object"))), Cond.methodLink RJx4a65c 79 Lib.Math.max.name, Cond.static Lib.Math.max.name, Cond.code Lib.Math.max.name Lib.Math.max.code 2 (some .int), Cond.classLink RJx4a65c 7 "java/lang/Object", Cond.methodLink RJx4a65c 73 yJ8_newLength_cabcc, Cond.static yJ8_newLength_cabcc, Cond.initialized RJ8, Cond.code yJ8_newLength_cabcc cJ8_newLength_cabcc 4 (some .int), Cond.methodLink RJ8 194 Lib.Math.max.name, Cond.constant RJ8 200 (2147483639), Cond.methodLink RJ8 201 yJ8_hugeLength_7cf53, Cond.static yJ8_hugeLength_7cf53, Cond.code yJ8_hugeLength_7cf53 cJ8_hugeLength_7cf53 3 (some .int), Cond.methodLink RJx4a65c 66 yJ7_copyOf_1904c, Cond.static yJ7_copyOf_1904c, Cond.initialized RJ7, Cond.code yJ7_copyOf_1904c cJ7_copyOf_1904c 2 (some (.array (.object "java/lang/Object"))), Cond.methodLink RJ7 86 ⟨"java/lang/Object", "getClass", "()Ljava/lang/Class;"⟩, Cond.selects "[Ljava/lang/Object;" ⟨"java/lang/Object", "getClass", "()Ljava/lang/Class;"⟩ ⟨"java/lang/Object", "getClass", "()Ljava/lang/Class;"⟩, Cond.instanceMethod ⟨"java/lang/Object", "getClass", "()Ljava/lang/Class;"⟩]
def wsL_law_r9 : List Cond := [Cond.native ⟨"java/lang/Object", "getClass", "()Ljava/lang/Class;"⟩, Cond.methodLink RJ7 300 yJ7_copyOf_6403c, Cond.static yJ7_copyOf_6403c, Cond.code yJ7_copyOf_6403c cJ7_copyOf_6403c 4 (some (.array (.object "java/lang/Object"))), Cond.classLink RJ7 110 "[Ljava/lang/Object;", Cond.classLink RJ7 2 "java/lang/Object", Cond.methodLink RJ7 304 Lib.Math.min.name, Cond.static Lib.Math.min.name, Cond.code Lib.Math.min.name Lib.Math.min.code 2 (some .int), Cond.methodLink RJ7 150 arraycopyName, Cond.native arraycopyName, Cond.static arraycopyName, Cond.initialized "java/lang/System", Cond.methodLink RL 34 yX7_coast, Cond.instanceMethod yX7_coast, Cond.selects RX7 yX7_coast yX7_coast, Cond.code yX7_coast cX7_coast 3 (some .int), Cond.fieldLink RX7 86 "GlobeWorksModel" "coasts" "I", Cond.methodLink RX7 82 yX7_isPlace, Cond.static yX7_isPlace, Cond.code yX7_isPlace cX7_isPlace 2 (some .boolean), Cond.methodLink RL 35 yX6_to, Cond.instanceMethod yX6_to, Cond.selects RX6 yX6_to yX6_to]
def wsL_law_r10 : List Cond := [Cond.code yX6_to cX6_to 7 (some .int), Cond.classLink RX6 77 RX5, Cond.instantiable RX5 5, Cond.initialized RX5, Cond.fieldLink RX6 82 "GlobeWorks$Step" "length" "I", Cond.fieldLink RX6 89 "GlobeWorks" "pieceCount" "I", Cond.fieldLink RX6 100 "GlobeWorks$Coast" "longitude" "I", Cond.fieldLink RX6 103 "GlobeWorks$Coast" "latitude" "I", Cond.methodLink RX6 70 yX6_coastOf, Cond.instanceMethod yX6_coastOf, Cond.selects RX6 yX6_coastOf yX6_coastOf, Cond.code yX6_coastOf cX6_coastOf 2 (some (.object "GlobeWorks$Coast")), Cond.classLink RX6 61 "GlobeWorks$Coast", Cond.methodLink RX6 113 yJx4a65c_get_915e3, Cond.instanceMethod yJx4a65c_get_915e3, Cond.selects RJx4a65c yJx4a65c_get_915e3 yJx4a65c_get_915e3, Cond.code yJx4a65c_get_915e3 cJx4a65c_get_915e3 2 (some (.object "java/lang/Object")), Cond.methodLink RJx4a65c 118 yJ15_checkIndex_7cf53, Cond.static yJ15_checkIndex_7cf53, Cond.initialized RJ15, Cond.code yJ15_checkIndex_7cf53 cJ15_checkIndex_7cf53 2 (some .int), Cond.methodLink RJ15 105 yJ3_checkIndex_8e157, Cond.static yJ3_checkIndex_8e157, Cond.initialized RJ3]
def wsL_law_r11 : List Cond := [Cond.code yJ3_checkIndex_8e157 cJ3_checkIndex_8e157 3 (some .int), Cond.methodLink RJx4a65c 123 yJx4a65c_elementData_915e3, Cond.instanceMethod yJx4a65c_elementData_915e3, Cond.selects RJx4a65c yJx4a65c_elementData_915e3 yJx4a65c_elementData_915e3, Cond.code yJx4a65c_elementData_915e3 cJx4a65c_elementData_915e3 2 (some (.object "java/lang/Object")), Cond.methodLink RX6 74 yX0_isAt, Cond.instanceMethod yX0_isAt, Cond.selects RX0 yX0_isAt yX0_isAt, Cond.code yX0_isAt cX0_isAt 3 (some .boolean), Cond.methodLink RX6 79 yX5_init, Cond.instanceMethod yX5_init, Cond.code yX5_init cX5_init 5 none, Cond.methodLink RX5 3 objectInit, Cond.fieldLink RX5 9 "GlobeWorks$Coast" "longitude" "I", Cond.fieldLink RX5 15 "GlobeWorks$Step" "longitude" "I", Cond.fieldLink RX5 18 "GlobeWorks$Coast" "latitude" "I", Cond.fieldLink RX5 21 "GlobeWorks$Step" "height" "I", Cond.fieldLink RX5 24 "GlobeWorks$Step" "rise" "I", Cond.fieldLink RX5 33 "GlobeWorks$Step" "direction" "I", Cond.methodLink RX5 36 Lib.Math.min.name, Cond.fieldLink RX5 39 "GlobeWorks$Step" "length" "I", Cond.methodLink RX5 27 yJ9_floorMod_7cf53, Cond.static yJ9_floorMod_7cf53, Cond.initialized RJ9]
def wsL_law_r12 : List Cond := [Cond.code yJ9_floorMod_7cf53 cJ9_floorMod_7cf53 3 (some .int), Cond.methodLink RX6 85 yX6_piecesOf, Cond.instanceMethod yX6_piecesOf, Cond.selects RX6 yX6_piecesOf yX6_piecesOf, Cond.code yX6_piecesOf cX6_piecesOf 3 (some .int), Cond.methodLink RX6 248 yX6_goneFromEdge, Cond.instanceMethod yX6_goneFromEdge, Cond.selects RX6 yX6_goneFromEdge yX6_goneFromEdge, Cond.code yX6_goneFromEdge cX6_goneFromEdge 2 (some .int), Cond.fieldLink RX6 244 "GlobeWorks$Step" "direction" "I", Cond.fieldLink RX6 247 "GlobeWorks$Step" "longitude" "I", Cond.methodLink RX6 241 yJ9_floorMod_7cf53, Cond.methodLink RX6 92 yX6_cutUpright, Cond.instanceMethod yX6_cutUpright, Cond.selects RX6 yX6_cutUpright yX6_cutUpright, Cond.code yX6_cutUpright cX6_cutUpright 4 none, Cond.methodLink RX6 251 yX6_layUpright, Cond.instanceMethod yX6_layUpright, Cond.selects RX6 yX6_layUpright yX6_layUpright, Cond.code yX6_layUpright cX6_layUpright 5 none, Cond.classLink RX6 117 RX3, Cond.instantiable RX3 5, Cond.initialized RX3, Cond.fieldLink RX6 254 "GlobeWorks$Step" "height" "I"]
def wsL_law_r13 : List Cond := [Cond.fieldLink RX6 255 "GlobeWorks$Step" "rise" "I", Cond.methodLink RX6 157 yX6_sideOf, Cond.instanceMethod yX6_sideOf, Cond.selects RX6 yX6_sideOf yX6_sideOf, Cond.code yX6_sideOf cX6_sideOf 3 (some .int), Cond.methodLink RX6 258 yX3_init, Cond.instanceMethod yX3_init, Cond.code yX3_init cX3_init 6 none, Cond.methodLink RX3 1 objectInit, Cond.fieldLink RX3 7 "GlobeWorks$Piece" "coast" "I", Cond.fieldLink RX3 13 "GlobeWorks$Piece" "beginSide" "I", Cond.fieldLink RX3 16 "GlobeWorks$Piece" "beginHeight" "I", Cond.fieldLink RX3 19 "GlobeWorks$Piece" "endSide" "I", Cond.fieldLink RX3 22 "GlobeWorks$Piece" "endHeight" "I", Cond.methodLink RX6 261 yX6_lay, Cond.instanceMethod yX6_lay, Cond.selects RX6 yX6_lay yX6_lay, Cond.code yX6_lay cX6_lay 4 none, Cond.fieldLink RX6 110 "GlobeWorks$Gore" "pieces" "Ljava/util/ArrayList;", Cond.fieldLink RX6 143 "GlobeWorks$Gore" "isFresh" "Z", Cond.methodLink RX6 106 yX6_goreOf, Cond.instanceMethod yX6_goreOf, Cond.selects RX6 yX6_goreOf yX6_goreOf, Cond.code yX6_goreOf cX6_goreOf 2 (some (.object "GlobeWorks$Gore"))]
def wsL_law_r14 : List Cond := [Cond.methodLink RX6 96 yX6_cutSlanting, Cond.instanceMethod yX6_cutSlanting, Cond.selects RX6 yX6_cutSlanting yX6_cutSlanting, Cond.code yX6_cutSlanting cX6_cutSlanting 10 none, Cond.methodLink RX6 265 Lib.Math.max.name, Cond.methodLink RX6 268 Lib.Math.min.name, Cond.methodLink RX6 227 yJ9_floorDiv_7cf53, Cond.static yJ9_floorDiv_7cf53, Cond.code yJ9_floorDiv_7cf53 cJ9_floorDiv_7cf53 3 (some .int), Cond.methodLink RX6 271 yX5_longitudeAt, Cond.instanceMethod yX5_longitudeAt, Cond.selects RX5 yX5_longitudeAt yX5_longitudeAt, Cond.code yX5_longitudeAt cX5_longitudeAt 2 (some .int), Cond.methodLink RX6 274 yX5_heightAt, Cond.instanceMethod yX5_heightAt, Cond.selects RX5 yX5_heightAt yX5_heightAt, Cond.code yX5_heightAt cX5_heightAt 2 (some .int), Cond.static yX6_roundBy, Cond.code yX6_roundBy cX6_roundBy 2 (some .int), Cond.methodLink RL 39 yX7_to, Cond.instanceMethod yX7_to, Cond.selects RX7 yX7_to yX7_to, Cond.code yX7_to cX7_to 9 (some .int), Cond.fieldLink RX7 92 "GlobeWorksModel" "pieces" "I"]
def wsL_law_r15 : List Cond := [Cond.methodLink RX7 99 yX7_parts, Cond.instanceMethod yX7_parts, Cond.selects RX7 yX7_parts yX7_parts, Cond.code yX7_parts cX7_parts 6 (some .int), Cond.methodLink RX7 95 yX7_isEdge, Cond.instanceMethod yX7_isEdge, Cond.selects RX7 yX7_isEdge yX7_isEdge, Cond.code yX7_isEdge cX7_isEdge 2 (some .boolean), Cond.methodLink RX7 102 yX7_stays, Cond.instanceMethod yX7_stays, Cond.selects RX7 yX7_stays yX7_stays, Cond.code yX7_stays cX7_stays 7 none, Cond.methodLink RX7 110 yX7_adds, Cond.instanceMethod yX7_adds, Cond.selects RX7 yX7_adds yX7_adds, Cond.code yX7_adds cX7_adds 7 none, Cond.methodLink RX7 106 yX7_goes, Cond.instanceMethod yX7_goes, Cond.selects RX7 yX7_goes yX7_goes, Cond.code yX7_goes cX7_goes 15 none, Cond.methodLink RX7 114 yX7_sideWest, Cond.instanceMethod yX7_sideWest, Cond.selects RX7 yX7_sideWest yX7_sideWest, Cond.code yX7_sideWest cX7_sideWest 3 (some .int)]
def wsL_law_r16 : List Cond := [Cond.methodLink RX7 117 yX7_heightAt, Cond.static yX7_heightAt, Cond.code yX7_heightAt cX7_heightAt 4 (some .int), Cond.methodLink RX7 89 yX7_round, Cond.static yX7_round, Cond.code yX7_round cX7_round 5 (some .int), Cond.methodLink RL 40 yX6_pieces, Cond.instanceMethod yX6_pieces, Cond.selects RX6 yX6_pieces yX6_pieces, Cond.code yX6_pieces cX6_pieces 3 (some .int), Cond.methodLink RL 43 yX7_pieces, Cond.instanceMethod yX7_pieces, Cond.selects RX7 yX7_pieces yX7_pieces, Cond.code yX7_pieces cX7_pieces 4 (some .int), Cond.methodLink RX7 121 yX7_isGore, Cond.instanceMethod yX7_isGore, Cond.selects RX7 yX7_isGore yX7_isGore, Cond.code yX7_isGore cX7_isGore 2 (some .boolean), Cond.methodLink RL 44 yX6_piece, Cond.instanceMethod yX6_piece, Cond.selects RX6 yX6_piece yX6_piece, Cond.code yX6_piece cX6_piece 6 (some .int), Cond.classLink RX6 117 "GlobeWorks$Piece", Cond.fieldLink RX6 119 "GlobeWorks$Piece" "coast" "I"]
def wsL_law_r17 : List Cond := [Cond.fieldLink RX6 122 "GlobeWorks$Piece" "beginSide" "I", Cond.fieldLink RX6 125 "GlobeWorks$Piece" "beginHeight" "I", Cond.fieldLink RX6 128 "GlobeWorks$Piece" "endSide" "I", Cond.fieldLink RX6 131 "GlobeWorks$Piece" "endHeight" "I", Cond.methodLink RL 47 yX7_piece, Cond.instanceMethod yX7_piece, Cond.selects RX7 yX7_piece yX7_piece, Cond.code yX7_piece cX7_piece 6 (some .int), Cond.methodLink RL 48 yX6_paper, Cond.instanceMethod yX6_paper, Cond.selects RX6 yX6_paper yX6_paper, Cond.code yX6_paper cX6_paper 7 (some .boolean), Cond.fieldLink RX6 137 "GlobeWorks" "growsAcross" "I", Cond.fieldLink RX6 140 "GlobeWorks" "growsAlong" "I", Cond.methodLink RX6 134 yX6_isGrowth, Cond.static yX6_isGrowth, Cond.code yX6_isGrowth cX6_isGrowth 1 (some .boolean), Cond.methodLink RL 52 yX7_paper, Cond.instanceMethod yX7_paper, Cond.selects RX7 yX7_paper yX7_paper, Cond.code yX7_paper cX7_paper 4 (some .boolean), Cond.fieldLink RX7 124 "GlobeWorksModel" "growsAcross" "I", Cond.fieldLink RX7 127 "GlobeWorksModel" "growsAlong" "I", Cond.methodLink RL 53 yX6_drawn]
def wsL_law_r18 : List Cond := [Cond.instanceMethod yX6_drawn, Cond.selects RX6 yX6_drawn yX6_drawn, Cond.code yX6_drawn cX6_drawn 3 (some .int), Cond.methodLink RX6 147 yX6_isOnPaper, Cond.static yX6_isOnPaper, Cond.code yX6_isOnPaper cX6_isOnPaper 2 (some .boolean), Cond.methodLink RX6 150 yX6_grownThousand, Cond.instanceMethod yX6_grownThousand, Cond.selects RX6 yX6_grownThousand yX6_grownThousand, Cond.code yX6_grownThousand cX6_grownThousand 2 (some .int), Cond.methodLink RX6 153 yX6_roundBy, Cond.methodLink RL 56 yX7_drawn, Cond.instanceMethod yX7_drawn, Cond.selects RX7 yX7_drawn yX7_drawn, Cond.code yX7_drawn cX7_drawn 3 (some .int), Cond.methodLink RX7 130 yX7_grown, Cond.instanceMethod yX7_grown, Cond.selects RX7 yX7_grown yX7_grown, Cond.code yX7_grown cX7_grown 2 (some .int), Cond.methodLink RL 57 yX6_wet, Cond.instanceMethod yX6_wet, Cond.selects RX6 yX6_wet yX6_wet, Cond.code yX6_wet cX6_wet 3 (some .int), Cond.methodLink RL 60 yX7_wet]
def wsL_law_r19 : List Cond := [Cond.instanceMethod yX7_wet, Cond.selects RX7 yX7_wet yX7_wet, Cond.code yX7_wet cX7_wet 3 (some .int), Cond.methodLink RL 61 yX6_name, Cond.instanceMethod yX6_name, Cond.selects RX6 yX6_name yX6_name, Cond.code yX6_name cX6_name 10 (some .int), Cond.fieldLink RX6 156 "GlobeWorks$Gore" "names" "Ljava/util/ArrayList;", Cond.classLink RX6 160 RX2, Cond.instantiable RX2 9, Cond.initialized RX2, Cond.fieldLink RX6 169 "GlobeWorks$Name" "ways" "I", Cond.methodLink RX6 162 yX2_init, Cond.instanceMethod yX2_init, Cond.code yX2_init cX2_init 7 none, Cond.methodLink RX2 3 objectInit, Cond.fieldLink RX2 9 "GlobeWorks$Name" "gore" "I", Cond.fieldLink RX2 15 "GlobeWorks$Name" "side" "I", Cond.fieldLink RX2 18 "GlobeWorks$Name" "height" "I", Cond.fieldLink RX2 21 "GlobeWorks$Name" "x" "I", Cond.fieldLink RX2 24 "GlobeWorks$Name" "letters" "I", Cond.fieldLink RX2 27 "GlobeWorks$Name" "price" "I", Cond.methodLink RX6 165 yX6_waysWithinEdges, Cond.instanceMethod yX6_waysWithinEdges]
def wsL_law_r20 : List Cond := [Cond.selects RX6 yX6_waysWithinEdges yX6_waysWithinEdges, Cond.code yX6_waysWithinEdges cX6_waysWithinEdges 5 (some .int), Cond.methodLink RX6 277 yX2_bottom, Cond.instanceMethod yX2_bottom, Cond.selects RX2 yX2_bottom yX2_bottom, Cond.code yX2_bottom cX2_bottom 2 (some .int), Cond.methodLink RX6 280 yX6_isWithinEdges, Cond.instanceMethod yX6_isWithinEdges, Cond.selects RX6 yX6_isWithinEdges yX6_isWithinEdges, Cond.code yX6_isWithinEdges cX6_isWithinEdges 5 (some .boolean), Cond.methodLink RX6 284 yX2_left, Cond.instanceMethod yX2_left, Cond.selects RX2 yX2_left yX2_left, Cond.code yX2_left cX2_left 2 (some .int), Cond.methodLink RX6 287 yX2_right, Cond.instanceMethod yX2_right, Cond.selects RX2 yX2_right yX2_right, Cond.code yX2_right cX2_right 2 (some .int), Cond.methodLink RX2 33 yX2_left, Cond.methodLink RX6 172 yX6_changeNames, Cond.instanceMethod yX6_changeNames, Cond.selects RX6 yX6_changeNames yX6_changeNames, Cond.code yX6_changeNames cX6_changeNames 3 none, Cond.fieldLink RX6 290 "GlobeWorks$Search" "leastCost" "I"]
def wsL_law_r21 : List Cond := [Cond.fieldLink RX6 297 "GlobeWorks$Search" "best" "[I", Cond.classLink RX6 160 "GlobeWorks$Name", Cond.fieldLink RX6 193 "GlobeWorks$Name" "setWay" "I", Cond.fieldLink RX6 196 "GlobeWorks$Gore" "settingCost" "I", Cond.methodLink RX6 293 yX6_tryWays, Cond.static yX6_tryWays, Cond.code yX6_tryWays cX6_tryWays 6 none, Cond.fieldLink RX6 308 "GlobeWorks$Search" "trial" "[I", Cond.methodLink RX6 300 yX4_keep, Cond.instanceMethod yX4_keep, Cond.selects RX4 yX4_keep yX4_keep, Cond.code yX4_keep cX4_keep 2 none, Cond.methodLink RX4 18 arraycopyName, Cond.fieldLink RX4 24 "GlobeWorks$Search" "leastCost" "I", Cond.methodLink RX6 190 yX2_allows, Cond.instanceMethod yX2_allows, Cond.selects RX2 yX2_allows yX2_allows, Cond.code yX2_allows cX2_allows 2 (some .boolean), Cond.fieldLink RX2 30 "GlobeWorks$Name" "ways" "I", Cond.methodLink RX6 304 yX6_isClear, Cond.static yX6_isClear, Cond.code yX6_isClear cX6_isClear 6 (some .boolean), Cond.methodLink RX6 314 yX2_covers, Cond.instanceMethod yX2_covers]
def wsL_law_r22 : List Cond := [Cond.selects RX2 yX2_covers yX2_covers, Cond.code yX2_covers cX2_covers 4 (some .boolean), Cond.methodLink RX2 43 Lib.Math.abs.name, Cond.methodLink RX2 37 yX2_right, Cond.methodLink RX2 40 yX2_bottom, Cond.methodLink RX6 311 yX2_costOf, Cond.instanceMethod yX2_costOf, Cond.selects RX2 yX2_costOf yX2_costOf, Cond.code yX2_costOf cX2_costOf 2 (some .int), Cond.methodLink RL 65 yX7_name, Cond.instanceMethod yX7_name, Cond.selects RX7 yX7_name yX7_name, Cond.code yX7_name cX7_name 6 (some .int), Cond.fieldLink RX7 133 "GlobeWorksModel" "names" "I", Cond.methodLink RX7 136 yX7_namesIn, Cond.instanceMethod yX7_namesIn, Cond.selects RX7 yX7_namesIn yX7_namesIn, Cond.code yX7_namesIn cX7_namesIn 4 (some .int), Cond.methodLink RL 66 yX6_strike, Cond.instanceMethod yX6_strike, Cond.selects RX6 yX6_strike yX6_strike, Cond.code yX6_strike cX6_strike 4 (some .boolean), Cond.fieldLink RX6 180 "GlobeWorks$Name" "isStruck" "Z", Cond.fieldLink RX6 183 "GlobeWorks$Name" "gore" "I"]
def wsL_law_r23 : List Cond := [Cond.methodLink RX6 176 yX6_nameOf, Cond.instanceMethod yX6_nameOf, Cond.selects RX6 yX6_nameOf yX6_nameOf, Cond.code yX6_nameOf cX6_nameOf 3 (some (.object "GlobeWorks$Name")), Cond.methodLink RX6 186 yX1_takeOut, Cond.instanceMethod yX1_takeOut, Cond.selects RX1 yX1_takeOut yX1_takeOut, Cond.code yX1_takeOut cX1_takeOut 3 none, Cond.methodLink RX1 23 yJx4a65c_size_8abf5, Cond.methodLink RX1 27 yJx4a65c_get_915e3, Cond.methodLink RX1 31 yJx4a65c_remove_915e3, Cond.instanceMethod yJx4a65c_remove_915e3, Cond.selects RJx4a65c yJx4a65c_remove_915e3 yJx4a65c_remove_915e3, Cond.code yJx4a65c_remove_915e3 cJx4a65c_remove_915e3 4 (some (.object "java/lang/Object")), Cond.methodLink RJx4a65c 144 yJx4a65c_fastRemove_b59b0, Cond.instanceMethod yJx4a65c_fastRemove_b59b0, Cond.selects RJx4a65c yJx4a65c_fastRemove_b59b0 yJx4a65c_fastRemove_b59b0, Cond.code yJx4a65c_fastRemove_b59b0 cJx4a65c_fastRemove_b59b0 4 none, Cond.methodLink RJx4a65c 112 arraycopyName, Cond.methodLink RL 70 yX7_strike, Cond.instanceMethod yX7_strike, Cond.selects RX7 yX7_strike yX7_strike, Cond.code yX7_strike cX7_strike 2 (some .boolean), Cond.methodLink RX7 139 yX7_isName]
def wsL_law_r24 : List Cond := [Cond.instanceMethod yX7_isName, Cond.selects RX7 yX7_isName yX7_isName, Cond.code yX7_isName cX7_isName 2 (some .boolean), Cond.methodLink RL 71 yX6_may, Cond.instanceMethod yX6_may, Cond.selects RX6 yX6_may yX6_may, Cond.code yX6_may cX6_may 4 (some .boolean), Cond.methodLink RL 74 yX7_may, Cond.instanceMethod yX7_may, Cond.selects RX7 yX7_may yX7_may, Cond.code yX7_may cX7_may 3 (some .boolean), Cond.methodLink RX7 151 yX7_canBe, Cond.instanceMethod yX7_canBe, Cond.selects RX7 yX7_canBe yX7_canBe, Cond.code yX7_canBe cX7_canBe 6 (some .boolean), Cond.methodLink RX7 142 yX7_left, Cond.instanceMethod yX7_left, Cond.selects RX7 yX7_left yX7_left, Cond.code yX7_left cX7_left 4 (some .int), Cond.methodLink RX7 145 yX7_low, Cond.instanceMethod yX7_low, Cond.selects RX7 yX7_low yX7_low, Cond.code yX7_low cX7_low 3 (some .int), Cond.methodLink RX7 148 yX7_isWithin]
def wsL_law_r25 : List Cond := [Cond.instanceMethod yX7_isWithin, Cond.selects RX7 yX7_isWithin yX7_isWithin, Cond.code yX7_isWithin cX7_isWithin 4 (some .boolean), Cond.methodLink RL 75 yX6_set, Cond.instanceMethod yX6_set, Cond.selects RX6 yX6_set yX6_set, Cond.code yX6_set cX6_set 3 (some .int), Cond.methodLink RL 78 yX7_set, Cond.instanceMethod yX7_set, Cond.selects RX7 yX7_set yX7_set, Cond.code yX7_set cX7_set 4 (some .int), Cond.methodLink RX7 164 yX7_sets, Cond.instanceMethod yX7_sets, Cond.selects RX7 yX7_sets yX7_sets, Cond.code yX7_sets cX7_sets 8 (some .int), Cond.fieldLink RX7 154 "GlobeWorksModel" "bestCost" "I", Cond.methodLink RX7 157 yX7_isGood, Cond.instanceMethod yX7_isGood, Cond.selects RX7 yX7_isGood yX7_isGood, Cond.code yX7_isGood cX7_isGood 4 (some .boolean), Cond.methodLink RX7 160 yX7_areApart, Cond.instanceMethod yX7_areApart, Cond.selects RX7 yX7_areApart yX7_areApart, Cond.code yX7_areApart cX7_areApart 7 (some .boolean)]
def wsL_law_r26 : List Cond := [Cond.methodLink RL 79 yX6_cost, Cond.instanceMethod yX6_cost, Cond.selects RX6 yX6_cost yX6_cost, Cond.code yX6_cost cX6_cost 3 (some .int), Cond.methodLink RL 82 yX7_cost, Cond.instanceMethod yX7_cost, Cond.selects RX7 yX7_cost yX7_cost, Cond.code yX7_cost cX7_cost 2 (some .int), Cond.methodLink RL 83 yX6_told, Cond.instanceMethod yX6_told, Cond.selects RX6 yX6_told yX6_told, Cond.code yX6_told cX6_told 4 (some .int), Cond.fieldLink RX6 199 "GlobeWorks$Name" "side" "I", Cond.fieldLink RX6 202 "GlobeWorks$Name" "height" "I", Cond.fieldLink RX6 205 "GlobeWorks$Name" "letters" "I", Cond.fieldLink RX6 208 "GlobeWorks$Name" "price" "I", Cond.methodLink RL 86 yX7_told, Cond.instanceMethod yX7_told, Cond.selects RX7 yX7_told yX7_told, Cond.code yX7_told cX7_told 3 (some .int), Cond.methodLink RL 87 yX6_fresh, Cond.instanceMethod yX6_fresh, Cond.selects RX6 yX6_fresh yX6_fresh, Cond.code yX6_fresh cX6_fresh 3 (some .boolean)]
def wsL_law_r27 : List Cond := [Cond.methodLink RL 90 yX7_fresh, Cond.instanceMethod yX7_fresh, Cond.selects RX7 yX7_fresh yX7_fresh, Cond.code yX7_fresh cX7_fresh 2 (some .boolean), Cond.methodLink RL 91 yX6_edition, Cond.instanceMethod yX6_edition, Cond.selects RX6 yX6_edition yX6_edition, Cond.code yX6_edition cX6_edition 6 (some .int), Cond.fieldLink RX6 211 "GlobeWorks" "editions" "I", Cond.fieldLink RX6 214 "GlobeWorks$Gore" "lastEdition" "I", Cond.methodLink RL 95 yX7_edition, Cond.instanceMethod yX7_edition, Cond.selects RX7 yX7_edition yX7_edition, Cond.code yX7_edition cX7_edition 3 (some .int), Cond.fieldLink RX7 167 "GlobeWorksModel" "editions" "I", Cond.methodLink RL 96 yX6_printed, Cond.instanceMethod yX6_printed, Cond.selects RX6 yX6_printed yX6_printed, Cond.code yX6_printed cX6_printed 3 (some .int), Cond.methodLink RL 99 yX7_printed, Cond.instanceMethod yX7_printed, Cond.selects RX7 yX7_printed yX7_printed, Cond.code yX7_printed cX7_printed 2 (some .int), Cond.methodLink RL 100 yX6_count]
def wsL_law_r28 : List Cond := [Cond.instanceMethod yX6_count, Cond.selects RX6 yX6_count yX6_count, Cond.code yX6_count cX6_count 2 (some .int), Cond.methodLink RX6 217 yX6_namesThere, Cond.instanceMethod yX6_namesThere, Cond.selects RX6 yX6_namesThere yX6_namesThere, Cond.code yX6_namesThere cX6_namesThere 6 (some .int), Cond.methodLink RX6 220 yX6_freshGores, Cond.instanceMethod yX6_freshGores, Cond.selects RX6 yX6_freshGores yX6_freshGores, Cond.code yX6_freshGores cX6_freshGores 6 (some .int), Cond.methodLink RL 103 yX7_count, Cond.instanceMethod yX7_count, Cond.selects RX7 yX7_count yX7_count, Cond.code yX7_count cX7_count 4 (some .int)]
def wsL_law : List Cond := (wsL_law_r1 ++ (wsL_law_r2 ++ (wsL_law_r3 ++ (wsL_law_r4 ++ (wsL_law_r5 ++ (wsL_law_r6 ++ (wsL_law_r7 ++ (wsL_law_r8 ++ (wsL_law_r9 ++ (wsL_law_r10 ++ (wsL_law_r11 ++ (wsL_law_r12 ++ (wsL_law_r13 ++ (wsL_law_r14 ++ (wsL_law_r15 ++ (wsL_law_r16 ++ (wsL_law_r17 ++ (wsL_law_r18 ++ (wsL_law_r19 ++ (wsL_law_r20 ++ (wsL_law_r21 ++ (wsL_law_r22 ++ (wsL_law_r23 ++ (wsL_law_r24 ++ (wsL_law_r25 ++ (wsL_law_r26 ++ (wsL_law_r27 ++ wsL_law_r28))))))))))))))))))))))))))) ++ wsX60 ++ wsX70 ++ wsJx4a65c0 ++ wsX40 ++ wsX10 ++ wsX00 ++ wsX50 ++ wsX30 ++ wsX20 ++ ([] : List Cond)
set_option maxRecDepth 20000 in
theorem in_wsL_law_r1 : ∀ w ∈ wsL_law_r1, w ∈ lw_tbl := List.forall_mem_cons.mpr ⟨List.mem_of_getElem? (i := 57) rfl, List.forall_mem_cons.mpr ⟨List.mem_of_getElem? (i := 58) rfl, List.forall_mem_cons.mpr ⟨List.mem_of_getElem? (i := 40) rfl, List.forall_mem_cons.mpr ⟨List.mem_of_getElem? (i := 607) rfl, List.forall_mem_cons.mpr ⟨List.mem_of_getElem? (i := 608) rfl, List.forall_mem_cons.mpr ⟨List.mem_of_getElem? (i := 46) rfl, List.forall_mem_cons.mpr ⟨List.mem_of_getElem? (i := 604) rfl, List.forall_mem_cons.mpr ⟨List.mem_of_getElem? (i := 605) rfl, List.forall_mem_cons.mpr ⟨List.mem_of_getElem? (i := 39) rfl, List.forall_mem_cons.mpr ⟨List.mem_of_getElem? (i := 606) rfl, List.forall_mem_cons.mpr ⟨List.mem_of_getElem? (i := 59) rfl, List.forall_mem_cons.mpr ⟨List.mem_of_getElem? (i := 60) rfl, List.forall_mem_cons.mpr ⟨List.mem_of_getElem? (i := 61) rfl, List.forall_mem_cons.mpr ⟨List.mem_of_getElem? (i := 62) rfl, List.forall_mem_cons.mpr ⟨List.mem_of_getElem? (i := 63) rfl, List.forall_mem_cons.mpr ⟨List.mem_of_getElem? (i := 64) rfl, List.forall_mem_cons.mpr ⟨List.mem_of_getElem? (i := 65) rfl, List.forall_mem_cons.mpr ⟨List.mem_of_getElem? (i := 66) rfl, List.forall_mem_cons.mpr ⟨List.mem_of_getElem? (i := 43) rfl, List.forall_mem_cons.mpr ⟨List.mem_of_getElem? (i := 146) rfl, List.forall_mem_cons.mpr ⟨List.mem_of_getElem? (i := 147) rfl, List.forall_mem_cons.mpr ⟨List.mem_of_getElem? (i := 91) rfl, List.forall_mem_cons.mpr ⟨List.mem_of_getElem? (i := 92) rfl, List.forall_mem_cons.mpr ⟨List.mem_of_getElem? (i := 44) rfl, fun _ h => absurd h List.not_mem_nil⟩⟩⟩⟩⟩⟩⟩⟩⟩⟩⟩⟩⟩⟩⟩⟩⟩⟩⟩⟩⟩⟩⟩⟩
set_option maxRecDepth 20000 in
theorem in_wsL_law_r2 : ∀ w ∈ wsL_law_r2, w ∈ lw_tbl := List.forall_mem_cons.mpr ⟨List.mem_of_getElem? (i := 148) rfl, List.forall_mem_cons.mpr ⟨List.mem_of_getElem? (i := 144) rfl, List.forall_mem_cons.mpr ⟨List.mem_of_getElem? (i := 116) rfl, List.forall_mem_cons.mpr ⟨List.mem_of_getElem? (i := 145) rfl, List.forall_mem_cons.mpr ⟨List.mem_of_getElem? (i := 118) rfl, List.forall_mem_cons.mpr ⟨List.mem_of_getElem? (i := 45) rfl, List.forall_mem_cons.mpr ⟨List.mem_of_getElem? (i := 67) rfl, List.forall_mem_cons.mpr ⟨List.mem_of_getElem? (i := 68) rfl, List.forall_mem_cons.mpr ⟨List.mem_of_getElem? (i := 69) rfl, List.forall_mem_cons.mpr ⟨List.mem_of_getElem? (i := 77) rfl, List.forall_mem_cons.mpr ⟨List.mem_of_getElem? (i := 79) rfl, List.forall_mem_cons.mpr ⟨List.mem_of_getElem? (i := 70) rfl, List.forall_mem_cons.mpr ⟨List.mem_of_getElem? (i := 71) rfl, List.forall_mem_cons.mpr ⟨List.mem_of_getElem? (i := 42) rfl, List.forall_mem_cons.mpr ⟨List.mem_of_getElem? (i := 72) rfl, List.forall_mem_cons.mpr ⟨List.mem_of_getElem? (i := 81) rfl, List.forall_mem_cons.mpr ⟨List.mem_of_getElem? (i := 73) rfl, List.forall_mem_cons.mpr ⟨List.mem_of_getElem? (i := 74) rfl, List.forall_mem_cons.mpr ⟨List.mem_of_getElem? (i := 41) rfl, List.forall_mem_cons.mpr ⟨List.mem_of_getElem? (i := 75) rfl, List.forall_mem_cons.mpr ⟨List.mem_of_getElem? (i := 76) rfl, List.forall_mem_cons.mpr ⟨List.mem_of_getElem? (i := 94) rfl, List.forall_mem_cons.mpr ⟨List.mem_of_getElem? (i := 95) rfl, List.forall_mem_cons.mpr ⟨List.mem_of_getElem? (i := 96) rfl, fun _ h => absurd h List.not_mem_nil⟩⟩⟩⟩⟩⟩⟩⟩⟩⟩⟩⟩⟩⟩⟩⟩⟩⟩⟩⟩⟩⟩⟩⟩
set_option maxRecDepth 20000 in
theorem in_wsL_law_r3 : ∀ w ∈ wsL_law_r3, w ∈ lw_tbl := List.forall_mem_cons.mpr ⟨List.mem_of_getElem? (i := 110) rfl, List.forall_mem_cons.mpr ⟨List.mem_of_getElem? (i := 97) rfl, List.forall_mem_cons.mpr ⟨List.mem_of_getElem? (i := 99) rfl, List.forall_mem_cons.mpr ⟨List.mem_of_getElem? (i := 111) rfl, List.forall_mem_cons.mpr ⟨List.mem_of_getElem? (i := 112) rfl, List.forall_mem_cons.mpr ⟨List.mem_of_getElem? (i := 113) rfl, List.forall_mem_cons.mpr ⟨List.mem_of_getElem? (i := 114) rfl, List.forall_mem_cons.mpr ⟨List.mem_of_getElem? (i := 120) rfl, List.forall_mem_cons.mpr ⟨List.mem_of_getElem? (i := 121) rfl, List.forall_mem_cons.mpr ⟨List.mem_of_getElem? (i := 122) rfl, List.forall_mem_cons.mpr ⟨List.mem_of_getElem? (i := 123) rfl, List.forall_mem_cons.mpr ⟨List.mem_of_getElem? (i := 125) rfl, List.forall_mem_cons.mpr ⟨List.mem_of_getElem? (i := 127) rfl, List.forall_mem_cons.mpr ⟨List.mem_of_getElem? (i := 130) rfl, List.forall_mem_cons.mpr ⟨List.mem_of_getElem? (i := 124) rfl, List.forall_mem_cons.mpr ⟨List.mem_of_getElem? (i := 609) rfl, List.forall_mem_cons.mpr ⟨List.mem_of_getElem? (i := 610) rfl, List.forall_mem_cons.mpr ⟨List.mem_of_getElem? (i := 611) rfl, List.forall_mem_cons.mpr ⟨List.mem_of_getElem? (i := 612) rfl, List.forall_mem_cons.mpr ⟨List.mem_of_getElem? (i := 613) rfl, List.forall_mem_cons.mpr ⟨List.mem_of_getElem? (i := 617) rfl, List.forall_mem_cons.mpr ⟨List.mem_of_getElem? (i := 618) rfl, List.forall_mem_cons.mpr ⟨List.mem_of_getElem? (i := 620) rfl, List.forall_mem_cons.mpr ⟨List.mem_of_getElem? (i := 621) rfl, fun _ h => absurd h List.not_mem_nil⟩⟩⟩⟩⟩⟩⟩⟩⟩⟩⟩⟩⟩⟩⟩⟩⟩⟩⟩⟩⟩⟩⟩⟩
set_option maxRecDepth 20000 in
theorem in_wsL_law_r4 : ∀ w ∈ wsL_law_r4, w ∈ lw_tbl := List.forall_mem_cons.mpr ⟨List.mem_of_getElem? (i := 622) rfl, List.forall_mem_cons.mpr ⟨List.mem_of_getElem? (i := 692) rfl, List.forall_mem_cons.mpr ⟨List.mem_of_getElem? (i := 626) rfl, List.forall_mem_cons.mpr ⟨List.mem_of_getElem? (i := 627) rfl, List.forall_mem_cons.mpr ⟨List.mem_of_getElem? (i := 628) rfl, List.forall_mem_cons.mpr ⟨List.mem_of_getElem? (i := 629) rfl, List.forall_mem_cons.mpr ⟨List.mem_of_getElem? (i := 630) rfl, List.forall_mem_cons.mpr ⟨List.mem_of_getElem? (i := 631) rfl, List.forall_mem_cons.mpr ⟨List.mem_of_getElem? (i := 632) rfl, List.forall_mem_cons.mpr ⟨List.mem_of_getElem? (i := 633) rfl, List.forall_mem_cons.mpr ⟨List.mem_of_getElem? (i := 635) rfl, List.forall_mem_cons.mpr ⟨List.mem_of_getElem? (i := 636) rfl, List.forall_mem_cons.mpr ⟨List.mem_of_getElem? (i := 637) rfl, List.forall_mem_cons.mpr ⟨List.mem_of_getElem? (i := 614) rfl, List.forall_mem_cons.mpr ⟨List.mem_of_getElem? (i := 615) rfl, List.forall_mem_cons.mpr ⟨List.mem_of_getElem? (i := 172) rfl, List.forall_mem_cons.mpr ⟨List.mem_of_getElem? (i := 173) rfl, List.forall_mem_cons.mpr ⟨List.mem_of_getElem? (i := 174) rfl, List.forall_mem_cons.mpr ⟨List.mem_of_getElem? (i := 175) rfl, List.forall_mem_cons.mpr ⟨List.mem_of_getElem? (i := 176) rfl, List.forall_mem_cons.mpr ⟨List.mem_of_getElem? (i := 177) rfl, List.forall_mem_cons.mpr ⟨List.mem_of_getElem? (i := 178) rfl, List.forall_mem_cons.mpr ⟨List.mem_of_getElem? (i := 179) rfl, List.forall_mem_cons.mpr ⟨List.mem_of_getElem? (i := 180) rfl, fun _ h => absurd h List.not_mem_nil⟩⟩⟩⟩⟩⟩⟩⟩⟩⟩⟩⟩⟩⟩⟩⟩⟩⟩⟩⟩⟩⟩⟩⟩
set_option maxRecDepth 20000 in
theorem in_wsL_law_r5 : ∀ w ∈ wsL_law_r5, w ∈ lw_tbl := List.forall_mem_cons.mpr ⟨List.mem_of_getElem? (i := 181) rfl, List.forall_mem_cons.mpr ⟨List.mem_of_getElem? (i := 182) rfl, List.forall_mem_cons.mpr ⟨List.mem_of_getElem? (i := 183) rfl, List.forall_mem_cons.mpr ⟨List.mem_of_getElem? (i := 47) rfl, List.forall_mem_cons.mpr ⟨List.mem_of_getElem? (i := 184) rfl, List.forall_mem_cons.mpr ⟨List.mem_of_getElem? (i := 185) rfl, List.forall_mem_cons.mpr ⟨List.mem_of_getElem? (i := 186) rfl, List.forall_mem_cons.mpr ⟨List.mem_of_getElem? (i := 187) rfl, List.forall_mem_cons.mpr ⟨List.mem_of_getElem? (i := 188) rfl, List.forall_mem_cons.mpr ⟨List.mem_of_getElem? (i := 693) rfl, List.forall_mem_cons.mpr ⟨List.mem_of_getElem? (i := 694) rfl, List.forall_mem_cons.mpr ⟨List.mem_of_getElem? (i := 695) rfl, List.forall_mem_cons.mpr ⟨List.mem_of_getElem? (i := 696) rfl, List.forall_mem_cons.mpr ⟨List.mem_of_getElem? (i := 697) rfl, List.forall_mem_cons.mpr ⟨List.mem_of_getElem? (i := 698) rfl, List.forall_mem_cons.mpr ⟨List.mem_of_getElem? (i := 699) rfl, List.forall_mem_cons.mpr ⟨List.mem_of_getElem? (i := 700) rfl, List.forall_mem_cons.mpr ⟨List.mem_of_getElem? (i := 702) rfl, List.forall_mem_cons.mpr ⟨List.mem_of_getElem? (i := 20) rfl, List.forall_mem_cons.mpr ⟨List.mem_of_getElem? (i := 703) rfl, List.forall_mem_cons.mpr ⟨List.mem_of_getElem? (i := 190) rfl, List.forall_mem_cons.mpr ⟨List.mem_of_getElem? (i := 191) rfl, List.forall_mem_cons.mpr ⟨List.mem_of_getElem? (i := 192) rfl, List.forall_mem_cons.mpr ⟨List.mem_of_getElem? (i := 193) rfl, fun _ h => absurd h List.not_mem_nil⟩⟩⟩⟩⟩⟩⟩⟩⟩⟩⟩⟩⟩⟩⟩⟩⟩⟩⟩⟩⟩⟩⟩⟩
set_option maxRecDepth 20000 in
theorem in_wsL_law_r6 : ∀ w ∈ wsL_law_r6, w ∈ lw_tbl := List.forall_mem_cons.mpr ⟨List.mem_of_getElem? (i := 197) rfl, List.forall_mem_cons.mpr ⟨List.mem_of_getElem? (i := 194) rfl, List.forall_mem_cons.mpr ⟨List.mem_of_getElem? (i := 195) rfl, List.forall_mem_cons.mpr ⟨List.mem_of_getElem? (i := 196) rfl, List.forall_mem_cons.mpr ⟨List.mem_of_getElem? (i := 704) rfl, List.forall_mem_cons.mpr ⟨List.mem_of_getElem? (i := 705) rfl, List.forall_mem_cons.mpr ⟨List.mem_of_getElem? (i := 706) rfl, List.forall_mem_cons.mpr ⟨List.mem_of_getElem? (i := 707) rfl, List.forall_mem_cons.mpr ⟨List.mem_of_getElem? (i := 712) rfl, List.forall_mem_cons.mpr ⟨List.mem_of_getElem? (i := 708) rfl, List.forall_mem_cons.mpr ⟨List.mem_of_getElem? (i := 710) rfl, List.forall_mem_cons.mpr ⟨List.mem_of_getElem? (i := 21) rfl, List.forall_mem_cons.mpr ⟨List.mem_of_getElem? (i := 711) rfl, List.forall_mem_cons.mpr ⟨List.mem_of_getElem? (i := 198) rfl, List.forall_mem_cons.mpr ⟨List.mem_of_getElem? (i := 199) rfl, List.forall_mem_cons.mpr ⟨List.mem_of_getElem? (i := 200) rfl, List.forall_mem_cons.mpr ⟨List.mem_of_getElem? (i := 201) rfl, List.forall_mem_cons.mpr ⟨List.mem_of_getElem? (i := 209) rfl, List.forall_mem_cons.mpr ⟨List.mem_of_getElem? (i := 210) rfl, List.forall_mem_cons.mpr ⟨List.mem_of_getElem? (i := 48) rfl, List.forall_mem_cons.mpr ⟨List.mem_of_getElem? (i := 202) rfl, List.forall_mem_cons.mpr ⟨List.mem_of_getElem? (i := 203) rfl, List.forall_mem_cons.mpr ⟨List.mem_of_getElem? (i := 204) rfl, List.forall_mem_cons.mpr ⟨List.mem_of_getElem? (i := 205) rfl, fun _ h => absurd h List.not_mem_nil⟩⟩⟩⟩⟩⟩⟩⟩⟩⟩⟩⟩⟩⟩⟩⟩⟩⟩⟩⟩⟩⟩⟩⟩
set_option maxRecDepth 20000 in
theorem in_wsL_law_r7 : ∀ w ∈ wsL_law_r7, w ∈ lw_tbl := List.forall_mem_cons.mpr ⟨List.mem_of_getElem? (i := 206) rfl, List.forall_mem_cons.mpr ⟨List.mem_of_getElem? (i := 207) rfl, List.forall_mem_cons.mpr ⟨List.mem_of_getElem? (i := 208) rfl, List.forall_mem_cons.mpr ⟨List.mem_of_getElem? (i := 80) rfl, List.forall_mem_cons.mpr ⟨List.mem_of_getElem? (i := 211) rfl, List.forall_mem_cons.mpr ⟨List.mem_of_getElem? (i := 212) rfl, List.forall_mem_cons.mpr ⟨List.mem_of_getElem? (i := 213) rfl, List.forall_mem_cons.mpr ⟨List.mem_of_getElem? (i := 214) rfl, List.forall_mem_cons.mpr ⟨List.mem_of_getElem? (i := 215) rfl, List.forall_mem_cons.mpr ⟨List.mem_of_getElem? (i := 218) rfl, List.forall_mem_cons.mpr ⟨List.mem_of_getElem? (i := 226) rfl, List.forall_mem_cons.mpr ⟨List.mem_of_getElem? (i := 227) rfl, List.forall_mem_cons.mpr ⟨List.mem_of_getElem? (i := 228) rfl, List.forall_mem_cons.mpr ⟨List.mem_of_getElem? (i := 229) rfl, List.forall_mem_cons.mpr ⟨List.mem_of_getElem? (i := 82) rfl, List.forall_mem_cons.mpr ⟨List.mem_of_getElem? (i := 83) rfl, List.forall_mem_cons.mpr ⟨List.mem_of_getElem? (i := 230) rfl, List.forall_mem_cons.mpr ⟨List.mem_of_getElem? (i := 232) rfl, List.forall_mem_cons.mpr ⟨List.mem_of_getElem? (i := 0) rfl, List.forall_mem_cons.mpr ⟨List.mem_of_getElem? (i := 233) rfl, List.forall_mem_cons.mpr ⟨List.mem_of_getElem? (i := 234) rfl, List.forall_mem_cons.mpr ⟨List.mem_of_getElem? (i := 236) rfl, List.forall_mem_cons.mpr ⟨List.mem_of_getElem? (i := 1) rfl, List.forall_mem_cons.mpr ⟨List.mem_of_getElem? (i := 237) rfl, fun _ h => absurd h List.not_mem_nil⟩⟩⟩⟩⟩⟩⟩⟩⟩⟩⟩⟩⟩⟩⟩⟩⟩⟩⟩⟩⟩⟩⟩⟩
set_option maxRecDepth 20000 in
theorem in_wsL_law_r8 : ∀ w ∈ wsL_law_r8, w ∈ lw_tbl := List.forall_mem_cons.mpr ⟨List.mem_of_getElem? (i := 238) rfl, List.forall_mem_cons.mpr ⟨List.mem_of_getElem? (i := 240) rfl, List.forall_mem_cons.mpr ⟨List.mem_of_getElem? (i := 2) rfl, List.forall_mem_cons.mpr ⟨List.mem_of_getElem? (i := 241) rfl, List.forall_mem_cons.mpr ⟨List.mem_of_getElem? (i := 280) rfl, List.forall_mem_cons.mpr ⟨List.mem_of_getElem? (i := 246) rfl, List.forall_mem_cons.mpr ⟨List.mem_of_getElem? (i := 247) rfl, List.forall_mem_cons.mpr ⟨List.mem_of_getElem? (i := 281) rfl, List.forall_mem_cons.mpr ⟨List.mem_of_getElem? (i := 242) rfl, List.forall_mem_cons.mpr ⟨List.mem_of_getElem? (i := 243) rfl, List.forall_mem_cons.mpr ⟨List.mem_of_getElem? (i := 49) rfl, List.forall_mem_cons.mpr ⟨List.mem_of_getElem? (i := 244) rfl, List.forall_mem_cons.mpr ⟨List.mem_of_getElem? (i := 245) rfl, List.forall_mem_cons.mpr ⟨List.mem_of_getElem? (i := 248) rfl, List.forall_mem_cons.mpr ⟨List.mem_of_getElem? (i := 249) rfl, List.forall_mem_cons.mpr ⟨List.mem_of_getElem? (i := 250) rfl, List.forall_mem_cons.mpr ⟨List.mem_of_getElem? (i := 251) rfl, List.forall_mem_cons.mpr ⟨List.mem_of_getElem? (i := 252) rfl, List.forall_mem_cons.mpr ⟨List.mem_of_getElem? (i := 253) rfl, List.forall_mem_cons.mpr ⟨List.mem_of_getElem? (i := 50) rfl, List.forall_mem_cons.mpr ⟨List.mem_of_getElem? (i := 254) rfl, List.forall_mem_cons.mpr ⟨List.mem_of_getElem? (i := 255) rfl, List.forall_mem_cons.mpr ⟨List.mem_of_getElem? (i := 868) rfl, List.forall_mem_cons.mpr ⟨List.mem_of_getElem? (i := 256) rfl, fun _ h => absurd h List.not_mem_nil⟩⟩⟩⟩⟩⟩⟩⟩⟩⟩⟩⟩⟩⟩⟩⟩⟩⟩⟩⟩⟩⟩⟩⟩
set_option maxRecDepth 20000 in
theorem in_wsL_law_r9 : ∀ w ∈ wsL_law_r9, w ∈ lw_tbl := List.forall_mem_cons.mpr ⟨List.mem_of_getElem? (i := 267) rfl, List.forall_mem_cons.mpr ⟨List.mem_of_getElem? (i := 268) rfl, List.forall_mem_cons.mpr ⟨List.mem_of_getElem? (i := 269) rfl, List.forall_mem_cons.mpr ⟨List.mem_of_getElem? (i := 270) rfl, List.forall_mem_cons.mpr ⟨List.mem_of_getElem? (i := 271) rfl, List.forall_mem_cons.mpr ⟨List.mem_of_getElem? (i := 273) rfl, List.forall_mem_cons.mpr ⟨List.mem_of_getElem? (i := 274) rfl, List.forall_mem_cons.mpr ⟨List.mem_of_getElem? (i := 275) rfl, List.forall_mem_cons.mpr ⟨List.mem_of_getElem? (i := 276) rfl, List.forall_mem_cons.mpr ⟨List.mem_of_getElem? (i := 277) rfl, List.forall_mem_cons.mpr ⟨List.mem_of_getElem? (i := 279) rfl, List.forall_mem_cons.mpr ⟨List.mem_of_getElem? (i := 278) rfl, List.forall_mem_cons.mpr ⟨List.mem_of_getElem? (i := 51) rfl, List.forall_mem_cons.mpr ⟨List.mem_of_getElem? (i := 713) rfl, List.forall_mem_cons.mpr ⟨List.mem_of_getElem? (i := 714) rfl, List.forall_mem_cons.mpr ⟨List.mem_of_getElem? (i := 715) rfl, List.forall_mem_cons.mpr ⟨List.mem_of_getElem? (i := 716) rfl, List.forall_mem_cons.mpr ⟨List.mem_of_getElem? (i := 616) rfl, List.forall_mem_cons.mpr ⟨List.mem_of_getElem? (i := 717) rfl, List.forall_mem_cons.mpr ⟨List.mem_of_getElem? (i := 718) rfl, List.forall_mem_cons.mpr ⟨List.mem_of_getElem? (i := 719) rfl, List.forall_mem_cons.mpr ⟨List.mem_of_getElem? (i := 282) rfl, List.forall_mem_cons.mpr ⟨List.mem_of_getElem? (i := 283) rfl, List.forall_mem_cons.mpr ⟨List.mem_of_getElem? (i := 284) rfl, fun _ h => absurd h List.not_mem_nil⟩⟩⟩⟩⟩⟩⟩⟩⟩⟩⟩⟩⟩⟩⟩⟩⟩⟩⟩⟩⟩⟩⟩⟩
set_option maxRecDepth 20000 in
theorem in_wsL_law_r10 : ∀ w ∈ wsL_law_r10, w ∈ lw_tbl := List.forall_mem_cons.mpr ⟨List.mem_of_getElem? (i := 285) rfl, List.forall_mem_cons.mpr ⟨List.mem_of_getElem? (i := 308) rfl, List.forall_mem_cons.mpr ⟨List.mem_of_getElem? (i := 309) rfl, List.forall_mem_cons.mpr ⟨List.mem_of_getElem? (i := 54) rfl, List.forall_mem_cons.mpr ⟨List.mem_of_getElem? (i := 325) rfl, List.forall_mem_cons.mpr ⟨List.mem_of_getElem? (i := 149) rfl, List.forall_mem_cons.mpr ⟨List.mem_of_getElem? (i := 217) rfl, List.forall_mem_cons.mpr ⟨List.mem_of_getElem? (i := 220) rfl, List.forall_mem_cons.mpr ⟨List.mem_of_getElem? (i := 286) rfl, List.forall_mem_cons.mpr ⟨List.mem_of_getElem? (i := 288) rfl, List.forall_mem_cons.mpr ⟨List.mem_of_getElem? (i := 3) rfl, List.forall_mem_cons.mpr ⟨List.mem_of_getElem? (i := 289) rfl, List.forall_mem_cons.mpr ⟨List.mem_of_getElem? (i := 209) rfl, List.forall_mem_cons.mpr ⟨List.mem_of_getElem? (i := 290) rfl, List.forall_mem_cons.mpr ⟨List.mem_of_getElem? (i := 291) rfl, List.forall_mem_cons.mpr ⟨List.mem_of_getElem? (i := 292) rfl, List.forall_mem_cons.mpr ⟨List.mem_of_getElem? (i := 293) rfl, List.forall_mem_cons.mpr ⟨List.mem_of_getElem? (i := 294) rfl, List.forall_mem_cons.mpr ⟨List.mem_of_getElem? (i := 295) rfl, List.forall_mem_cons.mpr ⟨List.mem_of_getElem? (i := 52) rfl, List.forall_mem_cons.mpr ⟨List.mem_of_getElem? (i := 296) rfl, List.forall_mem_cons.mpr ⟨List.mem_of_getElem? (i := 297) rfl, List.forall_mem_cons.mpr ⟨List.mem_of_getElem? (i := 298) rfl, List.forall_mem_cons.mpr ⟨List.mem_of_getElem? (i := 53) rfl, fun _ h => absurd h List.not_mem_nil⟩⟩⟩⟩⟩⟩⟩⟩⟩⟩⟩⟩⟩⟩⟩⟩⟩⟩⟩⟩⟩⟩⟩⟩
set_option maxRecDepth 20000 in
theorem in_wsL_law_r11 : ∀ w ∈ wsL_law_r11, w ∈ lw_tbl := List.forall_mem_cons.mpr ⟨List.mem_of_getElem? (i := 299) rfl, List.forall_mem_cons.mpr ⟨List.mem_of_getElem? (i := 300) rfl, List.forall_mem_cons.mpr ⟨List.mem_of_getElem? (i := 301) rfl, List.forall_mem_cons.mpr ⟨List.mem_of_getElem? (i := 302) rfl, List.forall_mem_cons.mpr ⟨List.mem_of_getElem? (i := 303) rfl, List.forall_mem_cons.mpr ⟨List.mem_of_getElem? (i := 304) rfl, List.forall_mem_cons.mpr ⟨List.mem_of_getElem? (i := 305) rfl, List.forall_mem_cons.mpr ⟨List.mem_of_getElem? (i := 306) rfl, List.forall_mem_cons.mpr ⟨List.mem_of_getElem? (i := 307) rfl, List.forall_mem_cons.mpr ⟨List.mem_of_getElem? (i := 310) rfl, List.forall_mem_cons.mpr ⟨List.mem_of_getElem? (i := 311) rfl, List.forall_mem_cons.mpr ⟨List.mem_of_getElem? (i := 312) rfl, List.forall_mem_cons.mpr ⟨List.mem_of_getElem? (i := 313) rfl, List.forall_mem_cons.mpr ⟨List.mem_of_getElem? (i := 216) rfl, List.forall_mem_cons.mpr ⟨List.mem_of_getElem? (i := 318) rfl, List.forall_mem_cons.mpr ⟨List.mem_of_getElem? (i := 219) rfl, List.forall_mem_cons.mpr ⟨List.mem_of_getElem? (i := 320) rfl, List.forall_mem_cons.mpr ⟨List.mem_of_getElem? (i := 322) rfl, List.forall_mem_cons.mpr ⟨List.mem_of_getElem? (i := 326) rfl, List.forall_mem_cons.mpr ⟨List.mem_of_getElem? (i := 317) rfl, List.forall_mem_cons.mpr ⟨List.mem_of_getElem? (i := 324) rfl, List.forall_mem_cons.mpr ⟨List.mem_of_getElem? (i := 314) rfl, List.forall_mem_cons.mpr ⟨List.mem_of_getElem? (i := 315) rfl, List.forall_mem_cons.mpr ⟨List.mem_of_getElem? (i := 47) rfl, fun _ h => absurd h List.not_mem_nil⟩⟩⟩⟩⟩⟩⟩⟩⟩⟩⟩⟩⟩⟩⟩⟩⟩⟩⟩⟩⟩⟩⟩⟩
set_option maxRecDepth 20000 in
theorem in_wsL_law_r12 : ∀ w ∈ wsL_law_r12, w ∈ lw_tbl := List.forall_mem_cons.mpr ⟨List.mem_of_getElem? (i := 316) rfl, List.forall_mem_cons.mpr ⟨List.mem_of_getElem? (i := 339) rfl, List.forall_mem_cons.mpr ⟨List.mem_of_getElem? (i := 341) rfl, List.forall_mem_cons.mpr ⟨List.mem_of_getElem? (i := 4) rfl, List.forall_mem_cons.mpr ⟨List.mem_of_getElem? (i := 342) rfl, List.forall_mem_cons.mpr ⟨List.mem_of_getElem? (i := 343) rfl, List.forall_mem_cons.mpr ⟨List.mem_of_getElem? (i := 345) rfl, List.forall_mem_cons.mpr ⟨List.mem_of_getElem? (i := 5) rfl, List.forall_mem_cons.mpr ⟨List.mem_of_getElem? (i := 346) rfl, List.forall_mem_cons.mpr ⟨List.mem_of_getElem? (i := 327) rfl, List.forall_mem_cons.mpr ⟨List.mem_of_getElem? (i := 319) rfl, List.forall_mem_cons.mpr ⟨List.mem_of_getElem? (i := 347) rfl, List.forall_mem_cons.mpr ⟨List.mem_of_getElem? (i := 348) rfl, List.forall_mem_cons.mpr ⟨List.mem_of_getElem? (i := 350) rfl, List.forall_mem_cons.mpr ⟨List.mem_of_getElem? (i := 6) rfl, List.forall_mem_cons.mpr ⟨List.mem_of_getElem? (i := 351) rfl, List.forall_mem_cons.mpr ⟨List.mem_of_getElem? (i := 352) rfl, List.forall_mem_cons.mpr ⟨List.mem_of_getElem? (i := 354) rfl, List.forall_mem_cons.mpr ⟨List.mem_of_getElem? (i := 7) rfl, List.forall_mem_cons.mpr ⟨List.mem_of_getElem? (i := 355) rfl, List.forall_mem_cons.mpr ⟨List.mem_of_getElem? (i := 360) rfl, List.forall_mem_cons.mpr ⟨List.mem_of_getElem? (i := 361) rfl, List.forall_mem_cons.mpr ⟨List.mem_of_getElem? (i := 55) rfl, List.forall_mem_cons.mpr ⟨List.mem_of_getElem? (i := 321) rfl, fun _ h => absurd h List.not_mem_nil⟩⟩⟩⟩⟩⟩⟩⟩⟩⟩⟩⟩⟩⟩⟩⟩⟩⟩⟩⟩⟩⟩⟩⟩
set_option maxRecDepth 20000 in
theorem in_wsL_law_r13 : ∀ w ∈ wsL_law_r13, w ∈ lw_tbl := List.forall_mem_cons.mpr ⟨List.mem_of_getElem? (i := 323) rfl, List.forall_mem_cons.mpr ⟨List.mem_of_getElem? (i := 356) rfl, List.forall_mem_cons.mpr ⟨List.mem_of_getElem? (i := 358) rfl, List.forall_mem_cons.mpr ⟨List.mem_of_getElem? (i := 8) rfl, List.forall_mem_cons.mpr ⟨List.mem_of_getElem? (i := 359) rfl, List.forall_mem_cons.mpr ⟨List.mem_of_getElem? (i := 362) rfl, List.forall_mem_cons.mpr ⟨List.mem_of_getElem? (i := 363) rfl, List.forall_mem_cons.mpr ⟨List.mem_of_getElem? (i := 364) rfl, List.forall_mem_cons.mpr ⟨List.mem_of_getElem? (i := 365) rfl, List.forall_mem_cons.mpr ⟨List.mem_of_getElem? (i := 366) rfl, List.forall_mem_cons.mpr ⟨List.mem_of_getElem? (i := 368) rfl, List.forall_mem_cons.mpr ⟨List.mem_of_getElem? (i := 370) rfl, List.forall_mem_cons.mpr ⟨List.mem_of_getElem? (i := 372) rfl, List.forall_mem_cons.mpr ⟨List.mem_of_getElem? (i := 374) rfl, List.forall_mem_cons.mpr ⟨List.mem_of_getElem? (i := 387) rfl, List.forall_mem_cons.mpr ⟨List.mem_of_getElem? (i := 389) rfl, List.forall_mem_cons.mpr ⟨List.mem_of_getElem? (i := 9) rfl, List.forall_mem_cons.mpr ⟨List.mem_of_getElem? (i := 390) rfl, List.forall_mem_cons.mpr ⟨List.mem_of_getElem? (i := 126) rfl, List.forall_mem_cons.mpr ⟨List.mem_of_getElem? (i := 131) rfl, List.forall_mem_cons.mpr ⟨List.mem_of_getElem? (i := 391) rfl, List.forall_mem_cons.mpr ⟨List.mem_of_getElem? (i := 393) rfl, List.forall_mem_cons.mpr ⟨List.mem_of_getElem? (i := 10) rfl, List.forall_mem_cons.mpr ⟨List.mem_of_getElem? (i := 394) rfl, fun _ h => absurd h List.not_mem_nil⟩⟩⟩⟩⟩⟩⟩⟩⟩⟩⟩⟩⟩⟩⟩⟩⟩⟩⟩⟩⟩⟩⟩⟩
set_option maxRecDepth 20000 in
theorem in_wsL_law_r14 : ∀ w ∈ wsL_law_r14, w ∈ lw_tbl := List.forall_mem_cons.mpr ⟨List.mem_of_getElem? (i := 395) rfl, List.forall_mem_cons.mpr ⟨List.mem_of_getElem? (i := 397) rfl, List.forall_mem_cons.mpr ⟨List.mem_of_getElem? (i := 11) rfl, List.forall_mem_cons.mpr ⟨List.mem_of_getElem? (i := 398) rfl, List.forall_mem_cons.mpr ⟨List.mem_of_getElem? (i := 402) rfl, List.forall_mem_cons.mpr ⟨List.mem_of_getElem? (i := 403) rfl, List.forall_mem_cons.mpr ⟨List.mem_of_getElem? (i := 399) rfl, List.forall_mem_cons.mpr ⟨List.mem_of_getElem? (i := 400) rfl, List.forall_mem_cons.mpr ⟨List.mem_of_getElem? (i := 401) rfl, List.forall_mem_cons.mpr ⟨List.mem_of_getElem? (i := 404) rfl, List.forall_mem_cons.mpr ⟨List.mem_of_getElem? (i := 405) rfl, List.forall_mem_cons.mpr ⟨List.mem_of_getElem? (i := 406) rfl, List.forall_mem_cons.mpr ⟨List.mem_of_getElem? (i := 407) rfl, List.forall_mem_cons.mpr ⟨List.mem_of_getElem? (i := 408) rfl, List.forall_mem_cons.mpr ⟨List.mem_of_getElem? (i := 409) rfl, List.forall_mem_cons.mpr ⟨List.mem_of_getElem? (i := 410) rfl, List.forall_mem_cons.mpr ⟨List.mem_of_getElem? (i := 411) rfl, List.forall_mem_cons.mpr ⟨List.mem_of_getElem? (i := 413) rfl, List.forall_mem_cons.mpr ⟨List.mem_of_getElem? (i := 414) rfl, List.forall_mem_cons.mpr ⟨List.mem_of_getElem? (i := 720) rfl, List.forall_mem_cons.mpr ⟨List.mem_of_getElem? (i := 721) rfl, List.forall_mem_cons.mpr ⟨List.mem_of_getElem? (i := 722) rfl, List.forall_mem_cons.mpr ⟨List.mem_of_getElem? (i := 723) rfl, List.forall_mem_cons.mpr ⟨List.mem_of_getElem? (i := 619) rfl, fun _ h => absurd h List.not_mem_nil⟩⟩⟩⟩⟩⟩⟩⟩⟩⟩⟩⟩⟩⟩⟩⟩⟩⟩⟩⟩⟩⟩⟩⟩
set_option maxRecDepth 20000 in
theorem in_wsL_law_r15 : ∀ w ∈ wsL_law_r15, w ∈ lw_tbl := List.forall_mem_cons.mpr ⟨List.mem_of_getElem? (i := 724) rfl, List.forall_mem_cons.mpr ⟨List.mem_of_getElem? (i := 726) rfl, List.forall_mem_cons.mpr ⟨List.mem_of_getElem? (i := 22) rfl, List.forall_mem_cons.mpr ⟨List.mem_of_getElem? (i := 727) rfl, List.forall_mem_cons.mpr ⟨List.mem_of_getElem? (i := 728) rfl, List.forall_mem_cons.mpr ⟨List.mem_of_getElem? (i := 730) rfl, List.forall_mem_cons.mpr ⟨List.mem_of_getElem? (i := 23) rfl, List.forall_mem_cons.mpr ⟨List.mem_of_getElem? (i := 731) rfl, List.forall_mem_cons.mpr ⟨List.mem_of_getElem? (i := 732) rfl, List.forall_mem_cons.mpr ⟨List.mem_of_getElem? (i := 734) rfl, List.forall_mem_cons.mpr ⟨List.mem_of_getElem? (i := 24) rfl, List.forall_mem_cons.mpr ⟨List.mem_of_getElem? (i := 735) rfl, List.forall_mem_cons.mpr ⟨List.mem_of_getElem? (i := 736) rfl, List.forall_mem_cons.mpr ⟨List.mem_of_getElem? (i := 738) rfl, List.forall_mem_cons.mpr ⟨List.mem_of_getElem? (i := 25) rfl, List.forall_mem_cons.mpr ⟨List.mem_of_getElem? (i := 739) rfl, List.forall_mem_cons.mpr ⟨List.mem_of_getElem? (i := 740) rfl, List.forall_mem_cons.mpr ⟨List.mem_of_getElem? (i := 742) rfl, List.forall_mem_cons.mpr ⟨List.mem_of_getElem? (i := 26) rfl, List.forall_mem_cons.mpr ⟨List.mem_of_getElem? (i := 743) rfl, List.forall_mem_cons.mpr ⟨List.mem_of_getElem? (i := 744) rfl, List.forall_mem_cons.mpr ⟨List.mem_of_getElem? (i := 746) rfl, List.forall_mem_cons.mpr ⟨List.mem_of_getElem? (i := 27) rfl, List.forall_mem_cons.mpr ⟨List.mem_of_getElem? (i := 747) rfl, fun _ h => absurd h List.not_mem_nil⟩⟩⟩⟩⟩⟩⟩⟩⟩⟩⟩⟩⟩⟩⟩⟩⟩⟩⟩⟩⟩⟩⟩⟩
set_option maxRecDepth 20000 in
theorem in_wsL_law_r16 : ∀ w ∈ wsL_law_r16, w ∈ lw_tbl := List.forall_mem_cons.mpr ⟨List.mem_of_getElem? (i := 748) rfl, List.forall_mem_cons.mpr ⟨List.mem_of_getElem? (i := 749) rfl, List.forall_mem_cons.mpr ⟨List.mem_of_getElem? (i := 750) rfl, List.forall_mem_cons.mpr ⟨List.mem_of_getElem? (i := 751) rfl, List.forall_mem_cons.mpr ⟨List.mem_of_getElem? (i := 752) rfl, List.forall_mem_cons.mpr ⟨List.mem_of_getElem? (i := 753) rfl, List.forall_mem_cons.mpr ⟨List.mem_of_getElem? (i := 415) rfl, List.forall_mem_cons.mpr ⟨List.mem_of_getElem? (i := 416) rfl, List.forall_mem_cons.mpr ⟨List.mem_of_getElem? (i := 417) rfl, List.forall_mem_cons.mpr ⟨List.mem_of_getElem? (i := 418) rfl, List.forall_mem_cons.mpr ⟨List.mem_of_getElem? (i := 754) rfl, List.forall_mem_cons.mpr ⟨List.mem_of_getElem? (i := 755) rfl, List.forall_mem_cons.mpr ⟨List.mem_of_getElem? (i := 756) rfl, List.forall_mem_cons.mpr ⟨List.mem_of_getElem? (i := 757) rfl, List.forall_mem_cons.mpr ⟨List.mem_of_getElem? (i := 758) rfl, List.forall_mem_cons.mpr ⟨List.mem_of_getElem? (i := 760) rfl, List.forall_mem_cons.mpr ⟨List.mem_of_getElem? (i := 28) rfl, List.forall_mem_cons.mpr ⟨List.mem_of_getElem? (i := 761) rfl, List.forall_mem_cons.mpr ⟨List.mem_of_getElem? (i := 419) rfl, List.forall_mem_cons.mpr ⟨List.mem_of_getElem? (i := 420) rfl, List.forall_mem_cons.mpr ⟨List.mem_of_getElem? (i := 421) rfl, List.forall_mem_cons.mpr ⟨List.mem_of_getElem? (i := 422) rfl, List.forall_mem_cons.mpr ⟨List.mem_of_getElem? (i := 360) rfl, List.forall_mem_cons.mpr ⟨List.mem_of_getElem? (i := 367) rfl, fun _ h => absurd h List.not_mem_nil⟩⟩⟩⟩⟩⟩⟩⟩⟩⟩⟩⟩⟩⟩⟩⟩⟩⟩⟩⟩⟩⟩⟩⟩
set_option maxRecDepth 20000 in
theorem in_wsL_law_r17 : ∀ w ∈ wsL_law_r17, w ∈ lw_tbl := List.forall_mem_cons.mpr ⟨List.mem_of_getElem? (i := 369) rfl, List.forall_mem_cons.mpr ⟨List.mem_of_getElem? (i := 371) rfl, List.forall_mem_cons.mpr ⟨List.mem_of_getElem? (i := 373) rfl, List.forall_mem_cons.mpr ⟨List.mem_of_getElem? (i := 375) rfl, List.forall_mem_cons.mpr ⟨List.mem_of_getElem? (i := 762) rfl, List.forall_mem_cons.mpr ⟨List.mem_of_getElem? (i := 763) rfl, List.forall_mem_cons.mpr ⟨List.mem_of_getElem? (i := 764) rfl, List.forall_mem_cons.mpr ⟨List.mem_of_getElem? (i := 765) rfl, List.forall_mem_cons.mpr ⟨List.mem_of_getElem? (i := 423) rfl, List.forall_mem_cons.mpr ⟨List.mem_of_getElem? (i := 424) rfl, List.forall_mem_cons.mpr ⟨List.mem_of_getElem? (i := 425) rfl, List.forall_mem_cons.mpr ⟨List.mem_of_getElem? (i := 426) rfl, List.forall_mem_cons.mpr ⟨List.mem_of_getElem? (i := 150) rfl, List.forall_mem_cons.mpr ⟨List.mem_of_getElem? (i := 151) rfl, List.forall_mem_cons.mpr ⟨List.mem_of_getElem? (i := 427) rfl, List.forall_mem_cons.mpr ⟨List.mem_of_getElem? (i := 428) rfl, List.forall_mem_cons.mpr ⟨List.mem_of_getElem? (i := 429) rfl, List.forall_mem_cons.mpr ⟨List.mem_of_getElem? (i := 766) rfl, List.forall_mem_cons.mpr ⟨List.mem_of_getElem? (i := 767) rfl, List.forall_mem_cons.mpr ⟨List.mem_of_getElem? (i := 768) rfl, List.forall_mem_cons.mpr ⟨List.mem_of_getElem? (i := 769) rfl, List.forall_mem_cons.mpr ⟨List.mem_of_getElem? (i := 623) rfl, List.forall_mem_cons.mpr ⟨List.mem_of_getElem? (i := 624) rfl, List.forall_mem_cons.mpr ⟨List.mem_of_getElem? (i := 430) rfl, fun _ h => absurd h List.not_mem_nil⟩⟩⟩⟩⟩⟩⟩⟩⟩⟩⟩⟩⟩⟩⟩⟩⟩⟩⟩⟩⟩⟩⟩⟩
set_option maxRecDepth 20000 in
theorem in_wsL_law_r18 : ∀ w ∈ wsL_law_r18, w ∈ lw_tbl := List.forall_mem_cons.mpr ⟨List.mem_of_getElem? (i := 431) rfl, List.forall_mem_cons.mpr ⟨List.mem_of_getElem? (i := 432) rfl, List.forall_mem_cons.mpr ⟨List.mem_of_getElem? (i := 433) rfl, List.forall_mem_cons.mpr ⟨List.mem_of_getElem? (i := 434) rfl, List.forall_mem_cons.mpr ⟨List.mem_of_getElem? (i := 435) rfl, List.forall_mem_cons.mpr ⟨List.mem_of_getElem? (i := 436) rfl, List.forall_mem_cons.mpr ⟨List.mem_of_getElem? (i := 437) rfl, List.forall_mem_cons.mpr ⟨List.mem_of_getElem? (i := 439) rfl, List.forall_mem_cons.mpr ⟨List.mem_of_getElem? (i := 12) rfl, List.forall_mem_cons.mpr ⟨List.mem_of_getElem? (i := 440) rfl, List.forall_mem_cons.mpr ⟨List.mem_of_getElem? (i := 441) rfl, List.forall_mem_cons.mpr ⟨List.mem_of_getElem? (i := 770) rfl, List.forall_mem_cons.mpr ⟨List.mem_of_getElem? (i := 771) rfl, List.forall_mem_cons.mpr ⟨List.mem_of_getElem? (i := 772) rfl, List.forall_mem_cons.mpr ⟨List.mem_of_getElem? (i := 773) rfl, List.forall_mem_cons.mpr ⟨List.mem_of_getElem? (i := 774) rfl, List.forall_mem_cons.mpr ⟨List.mem_of_getElem? (i := 776) rfl, List.forall_mem_cons.mpr ⟨List.mem_of_getElem? (i := 29) rfl, List.forall_mem_cons.mpr ⟨List.mem_of_getElem? (i := 777) rfl, List.forall_mem_cons.mpr ⟨List.mem_of_getElem? (i := 442) rfl, List.forall_mem_cons.mpr ⟨List.mem_of_getElem? (i := 443) rfl, List.forall_mem_cons.mpr ⟨List.mem_of_getElem? (i := 444) rfl, List.forall_mem_cons.mpr ⟨List.mem_of_getElem? (i := 445) rfl, List.forall_mem_cons.mpr ⟨List.mem_of_getElem? (i := 778) rfl, fun _ h => absurd h List.not_mem_nil⟩⟩⟩⟩⟩⟩⟩⟩⟩⟩⟩⟩⟩⟩⟩⟩⟩⟩⟩⟩⟩⟩⟩⟩
set_option maxRecDepth 20000 in
theorem in_wsL_law_r19 : ∀ w ∈ wsL_law_r19, w ∈ lw_tbl := List.forall_mem_cons.mpr ⟨List.mem_of_getElem? (i := 779) rfl, List.forall_mem_cons.mpr ⟨List.mem_of_getElem? (i := 780) rfl, List.forall_mem_cons.mpr ⟨List.mem_of_getElem? (i := 781) rfl, List.forall_mem_cons.mpr ⟨List.mem_of_getElem? (i := 446) rfl, List.forall_mem_cons.mpr ⟨List.mem_of_getElem? (i := 447) rfl, List.forall_mem_cons.mpr ⟨List.mem_of_getElem? (i := 448) rfl, List.forall_mem_cons.mpr ⟨List.mem_of_getElem? (i := 449) rfl, List.forall_mem_cons.mpr ⟨List.mem_of_getElem? (i := 128) rfl, List.forall_mem_cons.mpr ⟨List.mem_of_getElem? (i := 450) rfl, List.forall_mem_cons.mpr ⟨List.mem_of_getElem? (i := 451) rfl, List.forall_mem_cons.mpr ⟨List.mem_of_getElem? (i := 56) rfl, List.forall_mem_cons.mpr ⟨List.mem_of_getElem? (i := 468) rfl, List.forall_mem_cons.mpr ⟨List.mem_of_getElem? (i := 452) rfl, List.forall_mem_cons.mpr ⟨List.mem_of_getElem? (i := 453) rfl, List.forall_mem_cons.mpr ⟨List.mem_of_getElem? (i := 454) rfl, List.forall_mem_cons.mpr ⟨List.mem_of_getElem? (i := 455) rfl, List.forall_mem_cons.mpr ⟨List.mem_of_getElem? (i := 456) rfl, List.forall_mem_cons.mpr ⟨List.mem_of_getElem? (i := 458) rfl, List.forall_mem_cons.mpr ⟨List.mem_of_getElem? (i := 460) rfl, List.forall_mem_cons.mpr ⟨List.mem_of_getElem? (i := 462) rfl, List.forall_mem_cons.mpr ⟨List.mem_of_getElem? (i := 463) rfl, List.forall_mem_cons.mpr ⟨List.mem_of_getElem? (i := 465) rfl, List.forall_mem_cons.mpr ⟨List.mem_of_getElem? (i := 490) rfl, List.forall_mem_cons.mpr ⟨List.mem_of_getElem? (i := 492) rfl, fun _ h => absurd h List.not_mem_nil⟩⟩⟩⟩⟩⟩⟩⟩⟩⟩⟩⟩⟩⟩⟩⟩⟩⟩⟩⟩⟩⟩⟩⟩
set_option maxRecDepth 20000 in
theorem in_wsL_law_r20 : ∀ w ∈ wsL_law_r20, w ∈ lw_tbl := List.forall_mem_cons.mpr ⟨List.mem_of_getElem? (i := 13) rfl, List.forall_mem_cons.mpr ⟨List.mem_of_getElem? (i := 493) rfl, List.forall_mem_cons.mpr ⟨List.mem_of_getElem? (i := 494) rfl, List.forall_mem_cons.mpr ⟨List.mem_of_getElem? (i := 495) rfl, List.forall_mem_cons.mpr ⟨List.mem_of_getElem? (i := 496) rfl, List.forall_mem_cons.mpr ⟨List.mem_of_getElem? (i := 497) rfl, List.forall_mem_cons.mpr ⟨List.mem_of_getElem? (i := 498) rfl, List.forall_mem_cons.mpr ⟨List.mem_of_getElem? (i := 500) rfl, List.forall_mem_cons.mpr ⟨List.mem_of_getElem? (i := 14) rfl, List.forall_mem_cons.mpr ⟨List.mem_of_getElem? (i := 501) rfl, List.forall_mem_cons.mpr ⟨List.mem_of_getElem? (i := 502) rfl, List.forall_mem_cons.mpr ⟨List.mem_of_getElem? (i := 503) rfl, List.forall_mem_cons.mpr ⟨List.mem_of_getElem? (i := 504) rfl, List.forall_mem_cons.mpr ⟨List.mem_of_getElem? (i := 505) rfl, List.forall_mem_cons.mpr ⟨List.mem_of_getElem? (i := 506) rfl, List.forall_mem_cons.mpr ⟨List.mem_of_getElem? (i := 507) rfl, List.forall_mem_cons.mpr ⟨List.mem_of_getElem? (i := 508) rfl, List.forall_mem_cons.mpr ⟨List.mem_of_getElem? (i := 509) rfl, List.forall_mem_cons.mpr ⟨List.mem_of_getElem? (i := 510) rfl, List.forall_mem_cons.mpr ⟨List.mem_of_getElem? (i := 511) rfl, List.forall_mem_cons.mpr ⟨List.mem_of_getElem? (i := 513) rfl, List.forall_mem_cons.mpr ⟨List.mem_of_getElem? (i := 15) rfl, List.forall_mem_cons.mpr ⟨List.mem_of_getElem? (i := 514) rfl, List.forall_mem_cons.mpr ⟨List.mem_of_getElem? (i := 102) rfl, fun _ h => absurd h List.not_mem_nil⟩⟩⟩⟩⟩⟩⟩⟩⟩⟩⟩⟩⟩⟩⟩⟩⟩⟩⟩⟩⟩⟩⟩⟩
set_option maxRecDepth 20000 in
theorem in_wsL_law_r21 : ∀ w ∈ wsL_law_r21, w ∈ lw_tbl := List.forall_mem_cons.mpr ⟨List.mem_of_getElem? (i := 100) rfl, List.forall_mem_cons.mpr ⟨List.mem_of_getElem? (i := 450) rfl, List.forall_mem_cons.mpr ⟨List.mem_of_getElem? (i := 469) rfl, List.forall_mem_cons.mpr ⟨List.mem_of_getElem? (i := 129) rfl, List.forall_mem_cons.mpr ⟨List.mem_of_getElem? (i := 515) rfl, List.forall_mem_cons.mpr ⟨List.mem_of_getElem? (i := 516) rfl, List.forall_mem_cons.mpr ⟨List.mem_of_getElem? (i := 517) rfl, List.forall_mem_cons.mpr ⟨List.mem_of_getElem? (i := 98) rfl, List.forall_mem_cons.mpr ⟨List.mem_of_getElem? (i := 518) rfl, List.forall_mem_cons.mpr ⟨List.mem_of_getElem? (i := 519) rfl, List.forall_mem_cons.mpr ⟨List.mem_of_getElem? (i := 520) rfl, List.forall_mem_cons.mpr ⟨List.mem_of_getElem? (i := 521) rfl, List.forall_mem_cons.mpr ⟨List.mem_of_getElem? (i := 522) rfl, List.forall_mem_cons.mpr ⟨List.mem_of_getElem? (i := 101) rfl, List.forall_mem_cons.mpr ⟨List.mem_of_getElem? (i := 523) rfl, List.forall_mem_cons.mpr ⟨List.mem_of_getElem? (i := 524) rfl, List.forall_mem_cons.mpr ⟨List.mem_of_getElem? (i := 525) rfl, List.forall_mem_cons.mpr ⟨List.mem_of_getElem? (i := 526) rfl, List.forall_mem_cons.mpr ⟨List.mem_of_getElem? (i := 467) rfl, List.forall_mem_cons.mpr ⟨List.mem_of_getElem? (i := 527) rfl, List.forall_mem_cons.mpr ⟨List.mem_of_getElem? (i := 528) rfl, List.forall_mem_cons.mpr ⟨List.mem_of_getElem? (i := 529) rfl, List.forall_mem_cons.mpr ⟨List.mem_of_getElem? (i := 530) rfl, List.forall_mem_cons.mpr ⟨List.mem_of_getElem? (i := 531) rfl, fun _ h => absurd h List.not_mem_nil⟩⟩⟩⟩⟩⟩⟩⟩⟩⟩⟩⟩⟩⟩⟩⟩⟩⟩⟩⟩⟩⟩⟩⟩
set_option maxRecDepth 20000 in
theorem in_wsL_law_r22 : ∀ w ∈ wsL_law_r22, w ∈ lw_tbl := List.forall_mem_cons.mpr ⟨List.mem_of_getElem? (i := 532) rfl, List.forall_mem_cons.mpr ⟨List.mem_of_getElem? (i := 533) rfl, List.forall_mem_cons.mpr ⟨List.mem_of_getElem? (i := 536) rfl, List.forall_mem_cons.mpr ⟨List.mem_of_getElem? (i := 534) rfl, List.forall_mem_cons.mpr ⟨List.mem_of_getElem? (i := 535) rfl, List.forall_mem_cons.mpr ⟨List.mem_of_getElem? (i := 537) rfl, List.forall_mem_cons.mpr ⟨List.mem_of_getElem? (i := 538) rfl, List.forall_mem_cons.mpr ⟨List.mem_of_getElem? (i := 539) rfl, List.forall_mem_cons.mpr ⟨List.mem_of_getElem? (i := 540) rfl, List.forall_mem_cons.mpr ⟨List.mem_of_getElem? (i := 782) rfl, List.forall_mem_cons.mpr ⟨List.mem_of_getElem? (i := 783) rfl, List.forall_mem_cons.mpr ⟨List.mem_of_getElem? (i := 784) rfl, List.forall_mem_cons.mpr ⟨List.mem_of_getElem? (i := 785) rfl, List.forall_mem_cons.mpr ⟨List.mem_of_getElem? (i := 625) rfl, List.forall_mem_cons.mpr ⟨List.mem_of_getElem? (i := 786) rfl, List.forall_mem_cons.mpr ⟨List.mem_of_getElem? (i := 788) rfl, List.forall_mem_cons.mpr ⟨List.mem_of_getElem? (i := 30) rfl, List.forall_mem_cons.mpr ⟨List.mem_of_getElem? (i := 789) rfl, List.forall_mem_cons.mpr ⟨List.mem_of_getElem? (i := 541) rfl, List.forall_mem_cons.mpr ⟨List.mem_of_getElem? (i := 542) rfl, List.forall_mem_cons.mpr ⟨List.mem_of_getElem? (i := 543) rfl, List.forall_mem_cons.mpr ⟨List.mem_of_getElem? (i := 544) rfl, List.forall_mem_cons.mpr ⟨List.mem_of_getElem? (i := 470) rfl, List.forall_mem_cons.mpr ⟨List.mem_of_getElem? (i := 457) rfl, fun _ h => absurd h List.not_mem_nil⟩⟩⟩⟩⟩⟩⟩⟩⟩⟩⟩⟩⟩⟩⟩⟩⟩⟩⟩⟩⟩⟩⟩⟩
set_option maxRecDepth 20000 in
theorem in_wsL_law_r23 : ∀ w ∈ wsL_law_r23, w ∈ lw_tbl := List.forall_mem_cons.mpr ⟨List.mem_of_getElem? (i := 545) rfl, List.forall_mem_cons.mpr ⟨List.mem_of_getElem? (i := 547) rfl, List.forall_mem_cons.mpr ⟨List.mem_of_getElem? (i := 16) rfl, List.forall_mem_cons.mpr ⟨List.mem_of_getElem? (i := 548) rfl, List.forall_mem_cons.mpr ⟨List.mem_of_getElem? (i := 549) rfl, List.forall_mem_cons.mpr ⟨List.mem_of_getElem? (i := 550) rfl, List.forall_mem_cons.mpr ⟨List.mem_of_getElem? (i := 551) rfl, List.forall_mem_cons.mpr ⟨List.mem_of_getElem? (i := 552) rfl, List.forall_mem_cons.mpr ⟨List.mem_of_getElem? (i := 553) rfl, List.forall_mem_cons.mpr ⟨List.mem_of_getElem? (i := 554) rfl, List.forall_mem_cons.mpr ⟨List.mem_of_getElem? (i := 555) rfl, List.forall_mem_cons.mpr ⟨List.mem_of_getElem? (i := 556) rfl, List.forall_mem_cons.mpr ⟨List.mem_of_getElem? (i := 557) rfl, List.forall_mem_cons.mpr ⟨List.mem_of_getElem? (i := 558) rfl, List.forall_mem_cons.mpr ⟨List.mem_of_getElem? (i := 559) rfl, List.forall_mem_cons.mpr ⟨List.mem_of_getElem? (i := 561) rfl, List.forall_mem_cons.mpr ⟨List.mem_of_getElem? (i := 17) rfl, List.forall_mem_cons.mpr ⟨List.mem_of_getElem? (i := 562) rfl, List.forall_mem_cons.mpr ⟨List.mem_of_getElem? (i := 563) rfl, List.forall_mem_cons.mpr ⟨List.mem_of_getElem? (i := 790) rfl, List.forall_mem_cons.mpr ⟨List.mem_of_getElem? (i := 791) rfl, List.forall_mem_cons.mpr ⟨List.mem_of_getElem? (i := 792) rfl, List.forall_mem_cons.mpr ⟨List.mem_of_getElem? (i := 793) rfl, List.forall_mem_cons.mpr ⟨List.mem_of_getElem? (i := 794) rfl, fun _ h => absurd h List.not_mem_nil⟩⟩⟩⟩⟩⟩⟩⟩⟩⟩⟩⟩⟩⟩⟩⟩⟩⟩⟩⟩⟩⟩⟩⟩
set_option maxRecDepth 20000 in
theorem in_wsL_law_r24 : ∀ w ∈ wsL_law_r24, w ∈ lw_tbl := List.forall_mem_cons.mpr ⟨List.mem_of_getElem? (i := 796) rfl, List.forall_mem_cons.mpr ⟨List.mem_of_getElem? (i := 31) rfl, List.forall_mem_cons.mpr ⟨List.mem_of_getElem? (i := 797) rfl, List.forall_mem_cons.mpr ⟨List.mem_of_getElem? (i := 564) rfl, List.forall_mem_cons.mpr ⟨List.mem_of_getElem? (i := 565) rfl, List.forall_mem_cons.mpr ⟨List.mem_of_getElem? (i := 566) rfl, List.forall_mem_cons.mpr ⟨List.mem_of_getElem? (i := 567) rfl, List.forall_mem_cons.mpr ⟨List.mem_of_getElem? (i := 798) rfl, List.forall_mem_cons.mpr ⟨List.mem_of_getElem? (i := 799) rfl, List.forall_mem_cons.mpr ⟨List.mem_of_getElem? (i := 800) rfl, List.forall_mem_cons.mpr ⟨List.mem_of_getElem? (i := 801) rfl, List.forall_mem_cons.mpr ⟨List.mem_of_getElem? (i := 802) rfl, List.forall_mem_cons.mpr ⟨List.mem_of_getElem? (i := 804) rfl, List.forall_mem_cons.mpr ⟨List.mem_of_getElem? (i := 32) rfl, List.forall_mem_cons.mpr ⟨List.mem_of_getElem? (i := 805) rfl, List.forall_mem_cons.mpr ⟨List.mem_of_getElem? (i := 806) rfl, List.forall_mem_cons.mpr ⟨List.mem_of_getElem? (i := 808) rfl, List.forall_mem_cons.mpr ⟨List.mem_of_getElem? (i := 33) rfl, List.forall_mem_cons.mpr ⟨List.mem_of_getElem? (i := 809) rfl, List.forall_mem_cons.mpr ⟨List.mem_of_getElem? (i := 810) rfl, List.forall_mem_cons.mpr ⟨List.mem_of_getElem? (i := 812) rfl, List.forall_mem_cons.mpr ⟨List.mem_of_getElem? (i := 34) rfl, List.forall_mem_cons.mpr ⟨List.mem_of_getElem? (i := 813) rfl, List.forall_mem_cons.mpr ⟨List.mem_of_getElem? (i := 814) rfl, fun _ h => absurd h List.not_mem_nil⟩⟩⟩⟩⟩⟩⟩⟩⟩⟩⟩⟩⟩⟩⟩⟩⟩⟩⟩⟩⟩⟩⟩⟩
set_option maxRecDepth 20000 in
theorem in_wsL_law_r25 : ∀ w ∈ wsL_law_r25, w ∈ lw_tbl := List.forall_mem_cons.mpr ⟨List.mem_of_getElem? (i := 816) rfl, List.forall_mem_cons.mpr ⟨List.mem_of_getElem? (i := 35) rfl, List.forall_mem_cons.mpr ⟨List.mem_of_getElem? (i := 817) rfl, List.forall_mem_cons.mpr ⟨List.mem_of_getElem? (i := 568) rfl, List.forall_mem_cons.mpr ⟨List.mem_of_getElem? (i := 569) rfl, List.forall_mem_cons.mpr ⟨List.mem_of_getElem? (i := 570) rfl, List.forall_mem_cons.mpr ⟨List.mem_of_getElem? (i := 571) rfl, List.forall_mem_cons.mpr ⟨List.mem_of_getElem? (i := 818) rfl, List.forall_mem_cons.mpr ⟨List.mem_of_getElem? (i := 819) rfl, List.forall_mem_cons.mpr ⟨List.mem_of_getElem? (i := 820) rfl, List.forall_mem_cons.mpr ⟨List.mem_of_getElem? (i := 821) rfl, List.forall_mem_cons.mpr ⟨List.mem_of_getElem? (i := 822) rfl, List.forall_mem_cons.mpr ⟨List.mem_of_getElem? (i := 824) rfl, List.forall_mem_cons.mpr ⟨List.mem_of_getElem? (i := 36) rfl, List.forall_mem_cons.mpr ⟨List.mem_of_getElem? (i := 825) rfl, List.forall_mem_cons.mpr ⟨List.mem_of_getElem? (i := 638) rfl, List.forall_mem_cons.mpr ⟨List.mem_of_getElem? (i := 826) rfl, List.forall_mem_cons.mpr ⟨List.mem_of_getElem? (i := 828) rfl, List.forall_mem_cons.mpr ⟨List.mem_of_getElem? (i := 37) rfl, List.forall_mem_cons.mpr ⟨List.mem_of_getElem? (i := 829) rfl, List.forall_mem_cons.mpr ⟨List.mem_of_getElem? (i := 830) rfl, List.forall_mem_cons.mpr ⟨List.mem_of_getElem? (i := 832) rfl, List.forall_mem_cons.mpr ⟨List.mem_of_getElem? (i := 38) rfl, List.forall_mem_cons.mpr ⟨List.mem_of_getElem? (i := 833) rfl, fun _ h => absurd h List.not_mem_nil⟩⟩⟩⟩⟩⟩⟩⟩⟩⟩⟩⟩⟩⟩⟩⟩⟩⟩⟩⟩⟩⟩⟩⟩
set_option maxRecDepth 20000 in
theorem in_wsL_law_r26 : ∀ w ∈ wsL_law_r26, w ∈ lw_tbl := List.forall_mem_cons.mpr ⟨List.mem_of_getElem? (i := 572) rfl, List.forall_mem_cons.mpr ⟨List.mem_of_getElem? (i := 573) rfl, List.forall_mem_cons.mpr ⟨List.mem_of_getElem? (i := 574) rfl, List.forall_mem_cons.mpr ⟨List.mem_of_getElem? (i := 575) rfl, List.forall_mem_cons.mpr ⟨List.mem_of_getElem? (i := 834) rfl, List.forall_mem_cons.mpr ⟨List.mem_of_getElem? (i := 835) rfl, List.forall_mem_cons.mpr ⟨List.mem_of_getElem? (i := 836) rfl, List.forall_mem_cons.mpr ⟨List.mem_of_getElem? (i := 837) rfl, List.forall_mem_cons.mpr ⟨List.mem_of_getElem? (i := 576) rfl, List.forall_mem_cons.mpr ⟨List.mem_of_getElem? (i := 577) rfl, List.forall_mem_cons.mpr ⟨List.mem_of_getElem? (i := 578) rfl, List.forall_mem_cons.mpr ⟨List.mem_of_getElem? (i := 579) rfl, List.forall_mem_cons.mpr ⟨List.mem_of_getElem? (i := 459) rfl, List.forall_mem_cons.mpr ⟨List.mem_of_getElem? (i := 461) rfl, List.forall_mem_cons.mpr ⟨List.mem_of_getElem? (i := 464) rfl, List.forall_mem_cons.mpr ⟨List.mem_of_getElem? (i := 466) rfl, List.forall_mem_cons.mpr ⟨List.mem_of_getElem? (i := 838) rfl, List.forall_mem_cons.mpr ⟨List.mem_of_getElem? (i := 839) rfl, List.forall_mem_cons.mpr ⟨List.mem_of_getElem? (i := 840) rfl, List.forall_mem_cons.mpr ⟨List.mem_of_getElem? (i := 841) rfl, List.forall_mem_cons.mpr ⟨List.mem_of_getElem? (i := 580) rfl, List.forall_mem_cons.mpr ⟨List.mem_of_getElem? (i := 581) rfl, List.forall_mem_cons.mpr ⟨List.mem_of_getElem? (i := 582) rfl, List.forall_mem_cons.mpr ⟨List.mem_of_getElem? (i := 583) rfl, fun _ h => absurd h List.not_mem_nil⟩⟩⟩⟩⟩⟩⟩⟩⟩⟩⟩⟩⟩⟩⟩⟩⟩⟩⟩⟩⟩⟩⟩⟩
set_option maxRecDepth 20000 in
theorem in_wsL_law_r27 : ∀ w ∈ wsL_law_r27, w ∈ lw_tbl := List.forall_mem_cons.mpr ⟨List.mem_of_getElem? (i := 842) rfl, List.forall_mem_cons.mpr ⟨List.mem_of_getElem? (i := 843) rfl, List.forall_mem_cons.mpr ⟨List.mem_of_getElem? (i := 844) rfl, List.forall_mem_cons.mpr ⟨List.mem_of_getElem? (i := 845) rfl, List.forall_mem_cons.mpr ⟨List.mem_of_getElem? (i := 584) rfl, List.forall_mem_cons.mpr ⟨List.mem_of_getElem? (i := 585) rfl, List.forall_mem_cons.mpr ⟨List.mem_of_getElem? (i := 586) rfl, List.forall_mem_cons.mpr ⟨List.mem_of_getElem? (i := 587) rfl, List.forall_mem_cons.mpr ⟨List.mem_of_getElem? (i := 152) rfl, List.forall_mem_cons.mpr ⟨List.mem_of_getElem? (i := 132) rfl, List.forall_mem_cons.mpr ⟨List.mem_of_getElem? (i := 846) rfl, List.forall_mem_cons.mpr ⟨List.mem_of_getElem? (i := 847) rfl, List.forall_mem_cons.mpr ⟨List.mem_of_getElem? (i := 848) rfl, List.forall_mem_cons.mpr ⟨List.mem_of_getElem? (i := 849) rfl, List.forall_mem_cons.mpr ⟨List.mem_of_getElem? (i := 634) rfl, List.forall_mem_cons.mpr ⟨List.mem_of_getElem? (i := 588) rfl, List.forall_mem_cons.mpr ⟨List.mem_of_getElem? (i := 589) rfl, List.forall_mem_cons.mpr ⟨List.mem_of_getElem? (i := 590) rfl, List.forall_mem_cons.mpr ⟨List.mem_of_getElem? (i := 591) rfl, List.forall_mem_cons.mpr ⟨List.mem_of_getElem? (i := 850) rfl, List.forall_mem_cons.mpr ⟨List.mem_of_getElem? (i := 851) rfl, List.forall_mem_cons.mpr ⟨List.mem_of_getElem? (i := 852) rfl, List.forall_mem_cons.mpr ⟨List.mem_of_getElem? (i := 853) rfl, List.forall_mem_cons.mpr ⟨List.mem_of_getElem? (i := 592) rfl, fun _ h => absurd h List.not_mem_nil⟩⟩⟩⟩⟩⟩⟩⟩⟩⟩⟩⟩⟩⟩⟩⟩⟩⟩⟩⟩⟩⟩⟩⟩
set_option maxRecDepth 20000 in
theorem in_wsL_law_r28 : ∀ w ∈ wsL_law_r28, w ∈ lw_tbl := List.forall_mem_cons.mpr ⟨List.mem_of_getElem? (i := 593) rfl, List.forall_mem_cons.mpr ⟨List.mem_of_getElem? (i := 594) rfl, List.forall_mem_cons.mpr ⟨List.mem_of_getElem? (i := 595) rfl, List.forall_mem_cons.mpr ⟨List.mem_of_getElem? (i := 596) rfl, List.forall_mem_cons.mpr ⟨List.mem_of_getElem? (i := 598) rfl, List.forall_mem_cons.mpr ⟨List.mem_of_getElem? (i := 18) rfl, List.forall_mem_cons.mpr ⟨List.mem_of_getElem? (i := 599) rfl, List.forall_mem_cons.mpr ⟨List.mem_of_getElem? (i := 600) rfl, List.forall_mem_cons.mpr ⟨List.mem_of_getElem? (i := 602) rfl, List.forall_mem_cons.mpr ⟨List.mem_of_getElem? (i := 19) rfl, List.forall_mem_cons.mpr ⟨List.mem_of_getElem? (i := 603) rfl, List.forall_mem_cons.mpr ⟨List.mem_of_getElem? (i := 854) rfl, List.forall_mem_cons.mpr ⟨List.mem_of_getElem? (i := 855) rfl, List.forall_mem_cons.mpr ⟨List.mem_of_getElem? (i := 856) rfl, List.forall_mem_cons.mpr ⟨List.mem_of_getElem? (i := 857) rfl, fun _ h => absurd h List.not_mem_nil⟩⟩⟩⟩⟩⟩⟩⟩⟩⟩⟩⟩⟩⟩⟩
set_option maxRecDepth 20000 in
theorem in_wsX60 : ∀ w ∈ wsX60, w ∈ lw_tbl := fun w h => (goodIn_r wsX60 [153, 155, 157, 159, 161, 163, 165, 167, 169] (by decide +kernel) (by decide +kernel) w h).1
set_option maxRecDepth 20000 in
theorem in_wsX70 : ∀ w ∈ wsX70, w ∈ lw_tbl := fun w h => (goodIn_r wsX70 [639, 641, 643, 645, 647, 649, 651, 653, 655, 657, 659, 661, 663, 665, 667, 669, 671, 673, 675, 677, 679, 681, 683, 685, 687, 689] (by decide +kernel) (by decide +kernel) w h).1
set_option maxRecDepth 20000 in
theorem in_wsJx4a65c0 : ∀ w ∈ wsJx4a65c0, w ∈ lw_tbl := fun w h => (goodIn_r wsJx4a65c0 [88, 84, 86] (by decide +kernel) (by decide +kernel) w h).1
set_option maxRecDepth 20000 in
theorem in_wsX40 : ∀ w ∈ wsX40, w ∈ lw_tbl := fun w h => (goodIn_r wsX40 [103, 105, 107] (by decide +kernel) (by decide +kernel) w h).1
set_option maxRecDepth 20000 in
theorem in_wsX10 : ∀ w ∈ wsX10, w ∈ lw_tbl := fun w h => (goodIn_r wsX10 [133, 135, 137, 139, 141] (by decide +kernel) (by decide +kernel) w h).1
set_option maxRecDepth 20000 in
theorem in_wsX00 : ∀ w ∈ wsX00, w ∈ lw_tbl := fun w h => (goodIn_r wsX00 [221, 223] (by decide +kernel) (by decide +kernel) w h).1
set_option maxRecDepth 20000 in
theorem in_wsX50 : ∀ w ∈ wsX50, w ∈ lw_tbl := fun w h => (goodIn_r wsX50 [328, 330, 332, 334, 336] (by decide +kernel) (by decide +kernel) w h).1
set_option maxRecDepth 20000 in
theorem in_wsX30 : ∀ w ∈ wsX30, w ∈ lw_tbl := fun w h => (goodIn_r wsX30 [376, 378, 380, 382, 384] (by decide +kernel) (by decide +kernel) w h).1
set_option maxRecDepth 20000 in
theorem in_wsX20 : ∀ w ∈ wsX20, w ∈ lw_tbl := fun w h => (goodIn_r wsX20 [471, 473, 475, 477, 479, 481, 483, 485, 487] (by decide +kernel) (by decide +kernel) w h).1
theorem wsL_law_in : ∀ w ∈ wsL_law, w ∈ lw_tbl := List.forall_mem_append.mpr ⟨List.forall_mem_append.mpr ⟨List.forall_mem_append.mpr ⟨List.forall_mem_append.mpr ⟨List.forall_mem_append.mpr ⟨List.forall_mem_append.mpr ⟨List.forall_mem_append.mpr ⟨List.forall_mem_append.mpr ⟨List.forall_mem_append.mpr ⟨List.forall_mem_append.mpr ⟨List.forall_mem_append.mpr ⟨in_wsL_law_r1, List.forall_mem_append.mpr ⟨in_wsL_law_r2, List.forall_mem_append.mpr ⟨in_wsL_law_r3, List.forall_mem_append.mpr ⟨in_wsL_law_r4, List.forall_mem_append.mpr ⟨in_wsL_law_r5, List.forall_mem_append.mpr ⟨in_wsL_law_r6, List.forall_mem_append.mpr ⟨in_wsL_law_r7, List.forall_mem_append.mpr ⟨in_wsL_law_r8, List.forall_mem_append.mpr ⟨in_wsL_law_r9, List.forall_mem_append.mpr ⟨in_wsL_law_r10, List.forall_mem_append.mpr ⟨in_wsL_law_r11, List.forall_mem_append.mpr ⟨in_wsL_law_r12, List.forall_mem_append.mpr ⟨in_wsL_law_r13, List.forall_mem_append.mpr ⟨in_wsL_law_r14, List.forall_mem_append.mpr ⟨in_wsL_law_r15, List.forall_mem_append.mpr ⟨in_wsL_law_r16, List.forall_mem_append.mpr ⟨in_wsL_law_r17, List.forall_mem_append.mpr ⟨in_wsL_law_r18, List.forall_mem_append.mpr ⟨in_wsL_law_r19, List.forall_mem_append.mpr ⟨in_wsL_law_r20, List.forall_mem_append.mpr ⟨in_wsL_law_r21, List.forall_mem_append.mpr ⟨in_wsL_law_r22, List.forall_mem_append.mpr ⟨in_wsL_law_r23, List.forall_mem_append.mpr ⟨in_wsL_law_r24, List.forall_mem_append.mpr ⟨in_wsL_law_r25, List.forall_mem_append.mpr ⟨in_wsL_law_r26, List.forall_mem_append.mpr ⟨in_wsL_law_r27, in_wsL_law_r28⟩⟩⟩⟩⟩⟩⟩⟩⟩⟩⟩⟩⟩⟩⟩⟩⟩⟩⟩⟩⟩⟩⟩⟩⟩⟩⟩, in_wsX60⟩, in_wsX70⟩, in_wsJx4a65c0⟩, in_wsX40⟩, in_wsX10⟩, in_wsX00⟩, in_wsX50⟩, in_wsX30⟩, in_wsX20⟩, fun _ h => absurd h List.not_mem_nil⟩
theorem inlX0 : ∀ w ∈ wsX00, w ∈ wsL_law := fun _ h => List.mem_append_left _ (List.mem_append_left _ (List.mem_append_left _ (List.mem_append_left _ (List.mem_append_right _ h))))
theorem inX0 : ∀ w ∈ wsX00, w ∈ lw_tbl := fun w h => wsL_law_in w (inlX0 w h)
theorem inlX1 : ∀ w ∈ wsX10, w ∈ wsL_law := fun _ h => List.mem_append_left _ (List.mem_append_left _ (List.mem_append_left _ (List.mem_append_left _ (List.mem_append_left _ (List.mem_append_right _ h)))))
theorem inX1 : ∀ w ∈ wsX10, w ∈ lw_tbl := fun w h => wsL_law_in w (inlX1 w h)
theorem inlX2 : ∀ w ∈ wsX20, w ∈ wsL_law := fun _ h => List.mem_append_left _ (List.mem_append_right _ h)
theorem inX2 : ∀ w ∈ wsX20, w ∈ lw_tbl := fun w h => wsL_law_in w (inlX2 w h)
theorem inlX3 : ∀ w ∈ wsX30, w ∈ wsL_law := fun _ h => List.mem_append_left _ (List.mem_append_left _ (List.mem_append_right _ h))
theorem inX3 : ∀ w ∈ wsX30, w ∈ lw_tbl := fun w h => wsL_law_in w (inlX3 w h)
theorem inlX4 : ∀ w ∈ wsX40, w ∈ wsL_law := fun _ h => List.mem_append_left _ (List.mem_append_left _ (List.mem_append_left _ (List.mem_append_left _ (List.mem_append_left _ (List.mem_append_left _ (List.mem_append_right _ h))))))
theorem inX4 : ∀ w ∈ wsX40, w ∈ lw_tbl := fun w h => wsL_law_in w (inlX4 w h)
theorem inlX5 : ∀ w ∈ wsX50, w ∈ wsL_law := fun _ h => List.mem_append_left _ (List.mem_append_left _ (List.mem_append_left _ (List.mem_append_right _ h)))
theorem inX5 : ∀ w ∈ wsX50, w ∈ lw_tbl := fun w h => wsL_law_in w (inlX5 w h)
theorem inlX6 : ∀ w ∈ wsX60, w ∈ wsL_law := fun _ h => List.mem_append_left _ (List.mem_append_left _ (List.mem_append_left _ (List.mem_append_left _ (List.mem_append_left _ (List.mem_append_left _ (List.mem_append_left _ (List.mem_append_left _ (List.mem_append_left _ (List.mem_append_right _ h)))))))))
theorem inX6 : ∀ w ∈ wsX60, w ∈ lw_tbl := fun w h => wsL_law_in w (inlX6 w h)
theorem inlX7 : ∀ w ∈ wsX70, w ∈ wsL_law := fun _ h => List.mem_append_left _ (List.mem_append_left _ (List.mem_append_left _ (List.mem_append_left _ (List.mem_append_left _ (List.mem_append_left _ (List.mem_append_left _ (List.mem_append_left _ (List.mem_append_right _ h))))))))
theorem inX7 : ∀ w ∈ wsX70, w ∈ lw_tbl := fun w h => wsL_law_in w (inlX7 w h)
theorem inJx145de : ∀ w ∈ wsJx145de0, w ∈ lw_tbl := by decide +kernel
theorem inJx8e188 : ∀ w ∈ wsJx8e1880, w ∈ lw_tbl := by decide +kernel
theorem inJxab1ab : ∀ w ∈ wsJxab1ab0, w ∈ lw_tbl := by decide +kernel
theorem inJ9 : ∀ w ∈ wsJ90, w ∈ lw_tbl := by decide +kernel
theorem inJ10 : ∀ w ∈ wsJ100, w ∈ lw_tbl := by decide +kernel
theorem inJxa1e45 : ∀ w ∈ wsJxa1e450, w ∈ lw_tbl := by decide +kernel
theorem inJxc12de : ∀ w ∈ wsJxc12de0, w ∈ lw_tbl := by decide +kernel
theorem inlJx4a65c : ∀ w ∈ wsJx4a65c0, w ∈ wsL_law := fun _ h => List.mem_append_left _ (List.mem_append_left _ (List.mem_append_left _ (List.mem_append_left _ (List.mem_append_left _ (List.mem_append_left _ (List.mem_append_left _ (List.mem_append_right _ h)))))))
theorem inJx4a65c : ∀ w ∈ wsJx4a65c0, w ∈ lw_tbl := fun w h => wsL_law_in w (inlJx4a65c w h)
theorem inJ7 : ∀ w ∈ wsJ70, w ∈ lw_tbl := by decide +kernel
theorem inJx5ef63 : ∀ w ∈ wsJx5ef630, w ∈ lw_tbl := by decide +kernel
theorem inJxbd725 : ∀ w ∈ wsJxbd7250, w ∈ lw_tbl := by decide +kernel
theorem inJ15 : ∀ w ∈ wsJ150, w ∈ lw_tbl := by decide +kernel
theorem inJxf0a74 : ∀ w ∈ wsJxf0a740, w ∈ lw_tbl := by decide +kernel
theorem inJxa66e6 : ∀ w ∈ wsJxa66e60, w ∈ lw_tbl := by decide +kernel
theorem inJ8 : ∀ w ∈ wsJ80, w ∈ lw_tbl := by decide +kernel
theorem inJ3 : ∀ w ∈ wsJ30, w ∈ lw_tbl := by decide +kernel
abbrev vwCl : List vw_C := [(RJx4a65c, TJx4a65c, 3), (RX0, TX0, 2), (RX1, TX1, 5), (RX2, TX2, 9), (RX3, TX3, 5), (RX4, TX4, 3), (RX5, TX5, 5), (RX6, TX6, 9), (RX7, TX7, 26)]
end
section
theorem tl_all : ∀ w ∈ (wsL_law_r1 ++ (wsL_law_r2 ++ (wsL_law_r3 ++ (wsL_law_r4 ++ (wsL_law_r5 ++ (wsL_law_r6 ++ (wsL_law_r7 ++ (wsL_law_r8 ++ (wsL_law_r9 ++ (wsL_law_r10 ++ (wsL_law_r11 ++ (wsL_law_r12 ++ (wsL_law_r13 ++ (wsL_law_r14 ++ (wsL_law_r15 ++ (wsL_law_r16 ++ (wsL_law_r17 ++ (wsL_law_r18 ++ (wsL_law_r19 ++ (wsL_law_r20 ++ (wsL_law_r21 ++ (wsL_law_r22 ++ (wsL_law_r23 ++ (wsL_law_r24 ++ (wsL_law_r25 ++ (wsL_law_r26 ++ (wsL_law_r27 ++ wsL_law_r28))))))))))))))))))))))))))), w ∈ wsL_law := fun w h => List.mem_append_left _ (List.mem_append_left _ (List.mem_append_left _ (List.mem_append_left _ (List.mem_append_left _ (List.mem_append_left _ (List.mem_append_left _ (List.mem_append_left _ (List.mem_append_left _ (List.mem_append_left _ (h))))))))))
theorem tl_r1 : ∀ w ∈ wsL_law_r1, w ∈ wsL_law := fun w h => tl_all w (List.mem_append_left _ h)
theorem tl_r2 : ∀ w ∈ wsL_law_r2, w ∈ wsL_law := fun w h => tl_all w (List.mem_append_right _ (List.mem_append_left _ h))
theorem tl_r3 : ∀ w ∈ wsL_law_r3, w ∈ wsL_law := fun w h => tl_all w (List.mem_append_right _ (List.mem_append_right _ (List.mem_append_left _ h)))
theorem tl_r4 : ∀ w ∈ wsL_law_r4, w ∈ wsL_law := fun w h => tl_all w (List.mem_append_right _ (List.mem_append_right _ (List.mem_append_right _ (List.mem_append_left _ h))))
theorem tl_r5 : ∀ w ∈ wsL_law_r5, w ∈ wsL_law := fun w h => tl_all w (List.mem_append_right _ (List.mem_append_right _ (List.mem_append_right _ (List.mem_append_right _ (List.mem_append_left _ h)))))
theorem tl_r6 : ∀ w ∈ wsL_law_r6, w ∈ wsL_law := fun w h => tl_all w (List.mem_append_right _ (List.mem_append_right _ (List.mem_append_right _ (List.mem_append_right _ (List.mem_append_right _ (List.mem_append_left _ h))))))
theorem tl_r7 : ∀ w ∈ wsL_law_r7, w ∈ wsL_law := fun w h => tl_all w (List.mem_append_right _ (List.mem_append_right _ (List.mem_append_right _ (List.mem_append_right _ (List.mem_append_right _ (List.mem_append_right _ (List.mem_append_left _ h)))))))
theorem tl_r8 : ∀ w ∈ wsL_law_r8, w ∈ wsL_law := fun w h => tl_all w (List.mem_append_right _ (List.mem_append_right _ (List.mem_append_right _ (List.mem_append_right _ (List.mem_append_right _ (List.mem_append_right _ (List.mem_append_right _ (List.mem_append_left _ h))))))))
theorem tl_r9 : ∀ w ∈ wsL_law_r9, w ∈ wsL_law := fun w h => tl_all w (List.mem_append_right _ (List.mem_append_right _ (List.mem_append_right _ (List.mem_append_right _ (List.mem_append_right _ (List.mem_append_right _ (List.mem_append_right _ (List.mem_append_right _ (List.mem_append_left _ h)))))))))
theorem tl_r10 : ∀ w ∈ wsL_law_r10, w ∈ wsL_law := fun w h => tl_all w (List.mem_append_right _ (List.mem_append_right _ (List.mem_append_right _ (List.mem_append_right _ (List.mem_append_right _ (List.mem_append_right _ (List.mem_append_right _ (List.mem_append_right _ (List.mem_append_right _ (List.mem_append_left _ h))))))))))
theorem tl_r11 : ∀ w ∈ wsL_law_r11, w ∈ wsL_law := fun w h => tl_all w (List.mem_append_right _ (List.mem_append_right _ (List.mem_append_right _ (List.mem_append_right _ (List.mem_append_right _ (List.mem_append_right _ (List.mem_append_right _ (List.mem_append_right _ (List.mem_append_right _ (List.mem_append_right _ (List.mem_append_left _ h)))))))))))
theorem tl_r12 : ∀ w ∈ wsL_law_r12, w ∈ wsL_law := fun w h => tl_all w (List.mem_append_right _ (List.mem_append_right _ (List.mem_append_right _ (List.mem_append_right _ (List.mem_append_right _ (List.mem_append_right _ (List.mem_append_right _ (List.mem_append_right _ (List.mem_append_right _ (List.mem_append_right _ (List.mem_append_right _ (List.mem_append_left _ h))))))))))))
theorem tl_r13 : ∀ w ∈ wsL_law_r13, w ∈ wsL_law := fun w h => tl_all w (List.mem_append_right _ (List.mem_append_right _ (List.mem_append_right _ (List.mem_append_right _ (List.mem_append_right _ (List.mem_append_right _ (List.mem_append_right _ (List.mem_append_right _ (List.mem_append_right _ (List.mem_append_right _ (List.mem_append_right _ (List.mem_append_right _ (List.mem_append_left _ h)))))))))))))
theorem tl_r14 : ∀ w ∈ wsL_law_r14, w ∈ wsL_law := fun w h => tl_all w (List.mem_append_right _ (List.mem_append_right _ (List.mem_append_right _ (List.mem_append_right _ (List.mem_append_right _ (List.mem_append_right _ (List.mem_append_right _ (List.mem_append_right _ (List.mem_append_right _ (List.mem_append_right _ (List.mem_append_right _ (List.mem_append_right _ (List.mem_append_right _ (List.mem_append_left _ h))))))))))))))
theorem tl_r15 : ∀ w ∈ wsL_law_r15, w ∈ wsL_law := fun w h => tl_all w (List.mem_append_right _ (List.mem_append_right _ (List.mem_append_right _ (List.mem_append_right _ (List.mem_append_right _ (List.mem_append_right _ (List.mem_append_right _ (List.mem_append_right _ (List.mem_append_right _ (List.mem_append_right _ (List.mem_append_right _ (List.mem_append_right _ (List.mem_append_right _ (List.mem_append_right _ (List.mem_append_left _ h)))))))))))))))
theorem tl_r16 : ∀ w ∈ wsL_law_r16, w ∈ wsL_law := fun w h => tl_all w (List.mem_append_right _ (List.mem_append_right _ (List.mem_append_right _ (List.mem_append_right _ (List.mem_append_right _ (List.mem_append_right _ (List.mem_append_right _ (List.mem_append_right _ (List.mem_append_right _ (List.mem_append_right _ (List.mem_append_right _ (List.mem_append_right _ (List.mem_append_right _ (List.mem_append_right _ (List.mem_append_right _ (List.mem_append_left _ h))))))))))))))))
theorem tl_r17 : ∀ w ∈ wsL_law_r17, w ∈ wsL_law := fun w h => tl_all w (List.mem_append_right _ (List.mem_append_right _ (List.mem_append_right _ (List.mem_append_right _ (List.mem_append_right _ (List.mem_append_right _ (List.mem_append_right _ (List.mem_append_right _ (List.mem_append_right _ (List.mem_append_right _ (List.mem_append_right _ (List.mem_append_right _ (List.mem_append_right _ (List.mem_append_right _ (List.mem_append_right _ (List.mem_append_right _ (List.mem_append_left _ h)))))))))))))))))
theorem tl_r18 : ∀ w ∈ wsL_law_r18, w ∈ wsL_law := fun w h => tl_all w (List.mem_append_right _ (List.mem_append_right _ (List.mem_append_right _ (List.mem_append_right _ (List.mem_append_right _ (List.mem_append_right _ (List.mem_append_right _ (List.mem_append_right _ (List.mem_append_right _ (List.mem_append_right _ (List.mem_append_right _ (List.mem_append_right _ (List.mem_append_right _ (List.mem_append_right _ (List.mem_append_right _ (List.mem_append_right _ (List.mem_append_right _ (List.mem_append_left _ h))))))))))))))))))
theorem tl_r19 : ∀ w ∈ wsL_law_r19, w ∈ wsL_law := fun w h => tl_all w (List.mem_append_right _ (List.mem_append_right _ (List.mem_append_right _ (List.mem_append_right _ (List.mem_append_right _ (List.mem_append_right _ (List.mem_append_right _ (List.mem_append_right _ (List.mem_append_right _ (List.mem_append_right _ (List.mem_append_right _ (List.mem_append_right _ (List.mem_append_right _ (List.mem_append_right _ (List.mem_append_right _ (List.mem_append_right _ (List.mem_append_right _ (List.mem_append_right _ (List.mem_append_left _ h)))))))))))))))))))
theorem tl_r20 : ∀ w ∈ wsL_law_r20, w ∈ wsL_law := fun w h => tl_all w (List.mem_append_right _ (List.mem_append_right _ (List.mem_append_right _ (List.mem_append_right _ (List.mem_append_right _ (List.mem_append_right _ (List.mem_append_right _ (List.mem_append_right _ (List.mem_append_right _ (List.mem_append_right _ (List.mem_append_right _ (List.mem_append_right _ (List.mem_append_right _ (List.mem_append_right _ (List.mem_append_right _ (List.mem_append_right _ (List.mem_append_right _ (List.mem_append_right _ (List.mem_append_right _ (List.mem_append_left _ h))))))))))))))))))))
theorem tl_r21 : ∀ w ∈ wsL_law_r21, w ∈ wsL_law := fun w h => tl_all w (List.mem_append_right _ (List.mem_append_right _ (List.mem_append_right _ (List.mem_append_right _ (List.mem_append_right _ (List.mem_append_right _ (List.mem_append_right _ (List.mem_append_right _ (List.mem_append_right _ (List.mem_append_right _ (List.mem_append_right _ (List.mem_append_right _ (List.mem_append_right _ (List.mem_append_right _ (List.mem_append_right _ (List.mem_append_right _ (List.mem_append_right _ (List.mem_append_right _ (List.mem_append_right _ (List.mem_append_right _ (List.mem_append_left _ h)))))))))))))))))))))
theorem tl_r22 : ∀ w ∈ wsL_law_r22, w ∈ wsL_law := fun w h => tl_all w (List.mem_append_right _ (List.mem_append_right _ (List.mem_append_right _ (List.mem_append_right _ (List.mem_append_right _ (List.mem_append_right _ (List.mem_append_right _ (List.mem_append_right _ (List.mem_append_right _ (List.mem_append_right _ (List.mem_append_right _ (List.mem_append_right _ (List.mem_append_right _ (List.mem_append_right _ (List.mem_append_right _ (List.mem_append_right _ (List.mem_append_right _ (List.mem_append_right _ (List.mem_append_right _ (List.mem_append_right _ (List.mem_append_right _ (List.mem_append_left _ h))))))))))))))))))))))
theorem tl_r23 : ∀ w ∈ wsL_law_r23, w ∈ wsL_law := fun w h => tl_all w (List.mem_append_right _ (List.mem_append_right _ (List.mem_append_right _ (List.mem_append_right _ (List.mem_append_right _ (List.mem_append_right _ (List.mem_append_right _ (List.mem_append_right _ (List.mem_append_right _ (List.mem_append_right _ (List.mem_append_right _ (List.mem_append_right _ (List.mem_append_right _ (List.mem_append_right _ (List.mem_append_right _ (List.mem_append_right _ (List.mem_append_right _ (List.mem_append_right _ (List.mem_append_right _ (List.mem_append_right _ (List.mem_append_right _ (List.mem_append_right _ (List.mem_append_left _ h)))))))))))))))))))))))
theorem tl_r24 : ∀ w ∈ wsL_law_r24, w ∈ wsL_law := fun w h => tl_all w (List.mem_append_right _ (List.mem_append_right _ (List.mem_append_right _ (List.mem_append_right _ (List.mem_append_right _ (List.mem_append_right _ (List.mem_append_right _ (List.mem_append_right _ (List.mem_append_right _ (List.mem_append_right _ (List.mem_append_right _ (List.mem_append_right _ (List.mem_append_right _ (List.mem_append_right _ (List.mem_append_right _ (List.mem_append_right _ (List.mem_append_right _ (List.mem_append_right _ (List.mem_append_right _ (List.mem_append_right _ (List.mem_append_right _ (List.mem_append_right _ (List.mem_append_right _ (List.mem_append_left _ h))))))))))))))))))))))))
theorem tl_r25 : ∀ w ∈ wsL_law_r25, w ∈ wsL_law := fun w h => tl_all w (List.mem_append_right _ (List.mem_append_right _ (List.mem_append_right _ (List.mem_append_right _ (List.mem_append_right _ (List.mem_append_right _ (List.mem_append_right _ (List.mem_append_right _ (List.mem_append_right _ (List.mem_append_right _ (List.mem_append_right _ (List.mem_append_right _ (List.mem_append_right _ (List.mem_append_right _ (List.mem_append_right _ (List.mem_append_right _ (List.mem_append_right _ (List.mem_append_right _ (List.mem_append_right _ (List.mem_append_right _ (List.mem_append_right _ (List.mem_append_right _ (List.mem_append_right _ (List.mem_append_right _ (List.mem_append_left _ h)))))))))))))))))))))))))
theorem tl_r26 : ∀ w ∈ wsL_law_r26, w ∈ wsL_law := fun w h => tl_all w (List.mem_append_right _ (List.mem_append_right _ (List.mem_append_right _ (List.mem_append_right _ (List.mem_append_right _ (List.mem_append_right _ (List.mem_append_right _ (List.mem_append_right _ (List.mem_append_right _ (List.mem_append_right _ (List.mem_append_right _ (List.mem_append_right _ (List.mem_append_right _ (List.mem_append_right _ (List.mem_append_right _ (List.mem_append_right _ (List.mem_append_right _ (List.mem_append_right _ (List.mem_append_right _ (List.mem_append_right _ (List.mem_append_right _ (List.mem_append_right _ (List.mem_append_right _ (List.mem_append_right _ (List.mem_append_right _ (List.mem_append_left _ h))))))))))))))))))))))))))
theorem tl_r27 : ∀ w ∈ wsL_law_r27, w ∈ wsL_law := fun w h => tl_all w (List.mem_append_right _ (List.mem_append_right _ (List.mem_append_right _ (List.mem_append_right _ (List.mem_append_right _ (List.mem_append_right _ (List.mem_append_right _ (List.mem_append_right _ (List.mem_append_right _ (List.mem_append_right _ (List.mem_append_right _ (List.mem_append_right _ (List.mem_append_right _ (List.mem_append_right _ (List.mem_append_right _ (List.mem_append_right _ (List.mem_append_right _ (List.mem_append_right _ (List.mem_append_right _ (List.mem_append_right _ (List.mem_append_right _ (List.mem_append_right _ (List.mem_append_right _ (List.mem_append_right _ (List.mem_append_right _ (List.mem_append_right _ (List.mem_append_left _ h)))))))))))))))))))))))))))
theorem tl_r28 : ∀ w ∈ wsL_law_r28, w ∈ wsL_law := fun w h => tl_all w (List.mem_append_right _ (List.mem_append_right _ (List.mem_append_right _ (List.mem_append_right _ (List.mem_append_right _ (List.mem_append_right _ (List.mem_append_right _ (List.mem_append_right _ (List.mem_append_right _ (List.mem_append_right _ (List.mem_append_right _ (List.mem_append_right _ (List.mem_append_right _ (List.mem_append_right _ (List.mem_append_right _ (List.mem_append_right _ (List.mem_append_right _ (List.mem_append_right _ (List.mem_append_right _ (List.mem_append_right _ (List.mem_append_right _ (List.mem_append_right _ (List.mem_append_right _ (List.mem_append_right _ (List.mem_append_right _ (List.mem_append_right _ (List.mem_append_right _ (h))))))))))))))))))))))))))))
set_option maxRecDepth 20000 in
theorem tl_good : wsL_law.all goodWord = true := by decide +kernel
theorem tl_good_in {w : Cond} (h : w ∈ wsL_law) : GoodIn wsL_law (w :: wsL_law) := fun v hv => (List.mem_cons.mp hv).elim (fun e => by subst e; exact ⟨h, good_of_word (List.all_eq_true.mp tl_good _ h)⟩) (fun hv => ⟨hv, good_of_word (List.all_eq_true.mp tl_good _ hv)⟩)
theorem tw_1_0 : (.classLink RL 7 RX6 : Cond) ∈ wsL_law := tl_r1 _ (List.mem_of_getElem? (i := 0) rfl)
theorem tw_1_1 : (.instantiable RX6 9 : Cond) ∈ wsL_law := tl_r1 _ (List.mem_of_getElem? (i := 1) rfl)
theorem tw_1_2 : (.initialized RX6 : Cond) ∈ wsL_law := tl_r1 _ (List.mem_of_getElem? (i := 2) rfl)
theorem tw_1_3 : (.classLink RL 18 RX7 : Cond) ∈ wsL_law := tl_r1 _ (List.mem_of_getElem? (i := 3) rfl)
theorem tw_1_4 : (.instantiable RX7 26 : Cond) ∈ wsL_law := tl_r1 _ (List.mem_of_getElem? (i := 4) rfl)
theorem tw_1_5 : (.initialized RX7 : Cond) ∈ wsL_law := tl_r1 _ (List.mem_of_getElem? (i := 5) rfl)
theorem tw_1_6 : (.methodLink RL 9 yL_cell : Cond) ∈ wsL_law := tl_r1 _ (List.mem_of_getElem? (i := 6) rfl)
theorem tw_1_7 : (.static yL_cell : Cond) ∈ wsL_law := tl_r1 _ (List.mem_of_getElem? (i := 7) rfl)
theorem tw_1_8 : (.initialized RL : Cond) ∈ wsL_law := tl_r1 _ (List.mem_of_getElem? (i := 8) rfl)
theorem tw_1_9 : (.code yL_cell cL_cell 2 (some .int) : Cond) ∈ wsL_law := tl_r1 _ (List.mem_of_getElem? (i := 9) rfl)
theorem tw_1_10 : (.methodLink RL 15 yX6_init : Cond) ∈ wsL_law := tl_r1 _ (List.mem_of_getElem? (i := 10) rfl)
theorem tw_1_11 : (.instanceMethod yX6_init : Cond) ∈ wsL_law := tl_r1 _ (List.mem_of_getElem? (i := 11) rfl)
theorem tw_1_12 : (.code yX6_init cX6_init 4 none : Cond) ∈ wsL_law := tl_r1 _ (List.mem_of_getElem? (i := 12) rfl)
theorem tw_1_13 : (.methodLink RX6 3 objectInit : Cond) ∈ wsL_law := tl_r1 _ (List.mem_of_getElem? (i := 13) rfl)
theorem tw_1_14 : (.instanceMethod objectInit : Cond) ∈ wsL_law := tl_r1 _ (List.mem_of_getElem? (i := 14) rfl)
theorem tw_1_15 : (.code objectInit ⟨#[0xb1]⟩ 1 none : Cond) ∈ wsL_law := tl_r1 _ (List.mem_of_getElem? (i := 15) rfl)
theorem tw_1_16 : (.classLink RX6 9 RJx4a65c : Cond) ∈ wsL_law := tl_r1 _ (List.mem_of_getElem? (i := 16) rfl)
theorem tw_1_17 : (.instantiable RJx4a65c 3 : Cond) ∈ wsL_law := tl_r1 _ (List.mem_of_getElem? (i := 17) rfl)
theorem tw_1_18 : (.initialized RJx4a65c : Cond) ∈ wsL_law := tl_r1 _ (List.mem_of_getElem? (i := 18) rfl)
theorem tw_1_19 : (.fieldLink RX6 12 "GlobeWorks" "coasts" "Ljava/util/ArrayList;" : Cond) ∈ wsL_law := tl_r1 _ (List.mem_of_getElem? (i := 19) rfl)
theorem tw_1_20 : (.fieldLink RX6 16 "GlobeWorks" "names" "Ljava/util/ArrayList;" : Cond) ∈ wsL_law := tl_r1 _ (List.mem_of_getElem? (i := 20) rfl)
theorem tw_1_21 : (.classLink RX6 19 RX4 : Cond) ∈ wsL_law := tl_r1 _ (List.mem_of_getElem? (i := 21) rfl)
theorem tw_1_22 : (.instantiable RX4 3 : Cond) ∈ wsL_law := tl_r1 _ (List.mem_of_getElem? (i := 22) rfl)
theorem tw_1_23 : (.initialized RX4 : Cond) ∈ wsL_law := tl_r1 _ (List.mem_of_getElem? (i := 23) rfl)
theorem tw_2_0 : (.fieldLink RX6 22 "GlobeWorks" "search" "LGlobeWorks$Search;" : Cond) ∈ wsL_law := tl_r2 _ (List.mem_of_getElem? (i := 0) rfl)
theorem tw_2_1 : (.fieldLink RX6 30 "GlobeWorks" "width" "I" : Cond) ∈ wsL_law := tl_r2 _ (List.mem_of_getElem? (i := 1) rfl)
theorem tw_2_2 : (.classLink RX6 34 RX1 : Cond) ∈ wsL_law := tl_r2 _ (List.mem_of_getElem? (i := 2) rfl)
theorem tw_2_3 : (.fieldLink RX6 36 "GlobeWorks" "gores" "[LGlobeWorks$Gore;" : Cond) ∈ wsL_law := tl_r2 _ (List.mem_of_getElem? (i := 3) rfl)
theorem tw_2_4 : (.instantiable RX1 5 : Cond) ∈ wsL_law := tl_r2 _ (List.mem_of_getElem? (i := 4) rfl)
theorem tw_2_5 : (.initialized RX1 : Cond) ∈ wsL_law := tl_r2 _ (List.mem_of_getElem? (i := 5) rfl)
theorem tw_2_6 : (.methodLink RX6 11 yJx4a65c_init_da8c8 : Cond) ∈ wsL_law := tl_r2 _ (List.mem_of_getElem? (i := 6) rfl)
theorem tw_2_7 : (.instanceMethod yJx4a65c_init_da8c8 : Cond) ∈ wsL_law := tl_r2 _ (List.mem_of_getElem? (i := 7) rfl)
theorem tw_2_8 : (.code yJx4a65c_init_da8c8 cJx4a65c_init_da8c8 1 none : Cond) ∈ wsL_law := tl_r2 _ (List.mem_of_getElem? (i := 8) rfl)
theorem tw_2_9 : (.fieldLink RJx4a65c 39 "java/util/ArrayList" "DEFAULTCAPACITY_EMPTY_ELEMENTDATA" "[Ljava/lang/Object;" : Cond) ∈ wsL_law := tl_r2 _ (List.mem_of_getElem? (i := 9) rfl)
theorem tw_2_10 : (.fieldLink RJx4a65c 9 "java/util/ArrayList" "elementData" "[Ljava/lang/Object;" : Cond) ∈ wsL_law := tl_r2 _ (List.mem_of_getElem? (i := 10) rfl)
theorem tw_2_11 : (.methodLink RJx4a65c 1 yJxc12de_init_da8c8 : Cond) ∈ wsL_law := tl_r2 _ (List.mem_of_getElem? (i := 11) rfl)
theorem tw_2_12 : (.instanceMethod yJxc12de_init_da8c8 : Cond) ∈ wsL_law := tl_r2 _ (List.mem_of_getElem? (i := 12) rfl)
theorem tw_2_13 : (.initialized RJxc12de : Cond) ∈ wsL_law := tl_r2 _ (List.mem_of_getElem? (i := 13) rfl)
theorem tw_2_14 : (.code yJxc12de_init_da8c8 cJxc12de_init_da8c8 1 none : Cond) ∈ wsL_law := tl_r2 _ (List.mem_of_getElem? (i := 14) rfl)
theorem tw_2_15 : (.fieldLink RJxc12de 7 "java/util/AbstractList" "modCount" "I" : Cond) ∈ wsL_law := tl_r2 _ (List.mem_of_getElem? (i := 15) rfl)
theorem tw_2_16 : (.methodLink RJxc12de 1 yJxa1e45_init_da8c8 : Cond) ∈ wsL_law := tl_r2 _ (List.mem_of_getElem? (i := 16) rfl)
theorem tw_2_17 : (.instanceMethod yJxa1e45_init_da8c8 : Cond) ∈ wsL_law := tl_r2 _ (List.mem_of_getElem? (i := 17) rfl)
theorem tw_2_18 : (.initialized RJxa1e45 : Cond) ∈ wsL_law := tl_r2 _ (List.mem_of_getElem? (i := 18) rfl)
theorem tw_2_19 : (.code yJxa1e45_init_da8c8 cJxa1e45_init_da8c8 1 none : Cond) ∈ wsL_law := tl_r2 _ (List.mem_of_getElem? (i := 19) rfl)
theorem tw_2_20 : (.methodLink RJxa1e45 1 objectInit : Cond) ∈ wsL_law := tl_r2 _ (List.mem_of_getElem? (i := 20) rfl)
theorem tw_2_21 : (.instanceMethod yX4_init : Cond) ∈ wsL_law := tl_r2 _ (List.mem_of_getElem? (i := 21) rfl)
theorem tw_2_22 : (.code yX4_init cX4_init 1 none : Cond) ∈ wsL_law := tl_r2 _ (List.mem_of_getElem? (i := 22) rfl)
theorem tw_2_23 : (.methodLink RX4 3 objectInit : Cond) ∈ wsL_law := tl_r2 _ (List.mem_of_getElem? (i := 23) rfl)
theorem tw_3_0 : (.arrayClass .int : Cond) ∈ wsL_law := tl_r3 _ (List.mem_of_getElem? (i := 0) rfl)
theorem tw_3_1 : (.fieldLink RX4 9 "GlobeWorks$Search" "trial" "[I" : Cond) ∈ wsL_law := tl_r3 _ (List.mem_of_getElem? (i := 1) rfl)
theorem tw_3_2 : (.fieldLink RX4 15 "GlobeWorks$Search" "best" "[I" : Cond) ∈ wsL_law := tl_r3 _ (List.mem_of_getElem? (i := 2) rfl)
theorem tw_3_3 : (.methodLink RX6 26 yX6_goreNumber : Cond) ∈ wsL_law := tl_r3 _ (List.mem_of_getElem? (i := 3) rfl)
theorem tw_3_4 : (.static yX6_goreNumber : Cond) ∈ wsL_law := tl_r3 _ (List.mem_of_getElem? (i := 4) rfl)
theorem tw_3_5 : (.code yX6_goreNumber cX6_goreNumber 3 (some .int) : Cond) ∈ wsL_law := tl_r3 _ (List.mem_of_getElem? (i := 5) rfl)
theorem tw_3_6 : (.fieldLink RX6 223 "GlobeWorks" "GORE_NUMBERS" "[I" : Cond) ∈ wsL_law := tl_r3 _ (List.mem_of_getElem? (i := 6) rfl)
theorem tw_3_7 : (.instanceMethod yX1_init : Cond) ∈ wsL_law := tl_r3 _ (List.mem_of_getElem? (i := 7) rfl)
theorem tw_3_8 : (.code yX1_init cX1_init 1 none : Cond) ∈ wsL_law := tl_r3 _ (List.mem_of_getElem? (i := 8) rfl)
theorem tw_3_9 : (.methodLink RX1 1 objectInit : Cond) ∈ wsL_law := tl_r3 _ (List.mem_of_getElem? (i := 9) rfl)
theorem tw_3_10 : (.classLink RX1 7 RJx4a65c : Cond) ∈ wsL_law := tl_r3 _ (List.mem_of_getElem? (i := 10) rfl)
theorem tw_3_11 : (.fieldLink RX1 10 "GlobeWorks$Gore" "pieces" "Ljava/util/ArrayList;" : Cond) ∈ wsL_law := tl_r3 _ (List.mem_of_getElem? (i := 11) rfl)
theorem tw_3_12 : (.fieldLink RX1 16 "GlobeWorks$Gore" "names" "Ljava/util/ArrayList;" : Cond) ∈ wsL_law := tl_r3 _ (List.mem_of_getElem? (i := 12) rfl)
theorem tw_3_13 : (.fieldLink RX1 19 "GlobeWorks$Gore" "isFresh" "Z" : Cond) ∈ wsL_law := tl_r3 _ (List.mem_of_getElem? (i := 13) rfl)
theorem tw_3_14 : (.methodLink RX1 9 yJx4a65c_init_da8c8 : Cond) ∈ wsL_law := tl_r3 _ (List.mem_of_getElem? (i := 14) rfl)
theorem tw_3_15 : (.methodLink RL 20 yX7_init : Cond) ∈ wsL_law := tl_r3 _ (List.mem_of_getElem? (i := 15) rfl)
theorem tw_3_16 : (.instanceMethod yX7_init : Cond) ∈ wsL_law := tl_r3 _ (List.mem_of_getElem? (i := 16) rfl)
theorem tw_3_17 : (.code yX7_init cX7_init 5 none : Cond) ∈ wsL_law := tl_r3 _ (List.mem_of_getElem? (i := 17) rfl)
theorem tw_3_18 : (.methodLink RX7 1 objectInit : Cond) ∈ wsL_law := tl_r3 _ (List.mem_of_getElem? (i := 18) rfl)
theorem tw_3_19 : (.fieldLink RX7 7 "GlobeWorksModel" "cos" "[I" : Cond) ∈ wsL_law := tl_r3 _ (List.mem_of_getElem? (i := 19) rfl)
theorem tw_3_20 : (.fieldLink RX7 13 "GlobeWorksModel" "coastAt" "[I" : Cond) ∈ wsL_law := tl_r3 _ (List.mem_of_getElem? (i := 20) rfl)
theorem tw_3_21 : (.fieldLink RX7 16 "GlobeWorksModel" "coastHigh" "[I" : Cond) ∈ wsL_law := tl_r3 _ (List.mem_of_getElem? (i := 21) rfl)
theorem tw_3_22 : (.fieldLink RX7 19 "GlobeWorksModel" "pieceGore" "[I" : Cond) ∈ wsL_law := tl_r3 _ (List.mem_of_getElem? (i := 22) rfl)
theorem tw_3_23 : (.fieldLink RX7 22 "GlobeWorksModel" "pieceCoast" "[I" : Cond) ∈ wsL_law := tl_r3 _ (List.mem_of_getElem? (i := 23) rfl)
theorem tw_4_0 : (.fieldLink RX7 25 "GlobeWorksModel" "pieceEnds" "[I" : Cond) ∈ wsL_law := tl_r4 _ (List.mem_of_getElem? (i := 0) rfl)
theorem tw_4_1 : (.arrayClass .boolean : Cond) ∈ wsL_law := tl_r4 _ (List.mem_of_getElem? (i := 1) rfl)
theorem tw_4_2 : (.fieldLink RX7 28 "GlobeWorksModel" "isThere" "[Z" : Cond) ∈ wsL_law := tl_r4 _ (List.mem_of_getElem? (i := 2) rfl)
theorem tw_4_3 : (.fieldLink RX7 32 "GlobeWorksModel" "nameGore" "[I" : Cond) ∈ wsL_law := tl_r4 _ (List.mem_of_getElem? (i := 3) rfl)
theorem tw_4_4 : (.fieldLink RX7 35 "GlobeWorksModel" "nameSide" "[I" : Cond) ∈ wsL_law := tl_r4 _ (List.mem_of_getElem? (i := 4) rfl)
theorem tw_4_5 : (.fieldLink RX7 38 "GlobeWorksModel" "nameHigh" "[I" : Cond) ∈ wsL_law := tl_r4 _ (List.mem_of_getElem? (i := 5) rfl)
theorem tw_4_6 : (.fieldLink RX7 41 "GlobeWorksModel" "letters" "[I" : Cond) ∈ wsL_law := tl_r4 _ (List.mem_of_getElem? (i := 6) rfl)
theorem tw_4_7 : (.fieldLink RX7 44 "GlobeWorksModel" "price" "[I" : Cond) ∈ wsL_law := tl_r4 _ (List.mem_of_getElem? (i := 7) rfl)
theorem tw_4_8 : (.fieldLink RX7 47 "GlobeWorksModel" "isFresh" "[Z" : Cond) ∈ wsL_law := tl_r4 _ (List.mem_of_getElem? (i := 8) rfl)
theorem tw_4_9 : (.fieldLink RX7 50 "GlobeWorksModel" "printedIn" "[I" : Cond) ∈ wsL_law := tl_r4 _ (List.mem_of_getElem? (i := 9) rfl)
theorem tw_4_10 : (.fieldLink RX7 53 "GlobeWorksModel" "here" "[I" : Cond) ∈ wsL_law := tl_r4 _ (List.mem_of_getElem? (i := 10) rfl)
theorem tw_4_11 : (.fieldLink RX7 56 "GlobeWorksModel" "ways" "[I" : Cond) ∈ wsL_law := tl_r4 _ (List.mem_of_getElem? (i := 11) rfl)
theorem tw_4_12 : (.fieldLink RX7 59 "GlobeWorksModel" "bestWays" "[I" : Cond) ∈ wsL_law := tl_r4 _ (List.mem_of_getElem? (i := 12) rfl)
theorem tw_4_13 : (.fieldLink RX7 62 "GlobeWorksModel" "gores" "I" : Cond) ∈ wsL_law := tl_r4 _ (List.mem_of_getElem? (i := 13) rfl)
theorem tw_4_14 : (.fieldLink RX7 66 "GlobeWorksModel" "wide" "I" : Cond) ∈ wsL_law := tl_r4 _ (List.mem_of_getElem? (i := 14) rfl)
theorem tw_4_15 : (.methodLink RL 21 yX6_narrow : Cond) ∈ wsL_law := tl_r4 _ (List.mem_of_getElem? (i := 15) rfl)
theorem tw_4_16 : (.instanceMethod yX6_narrow : Cond) ∈ wsL_law := tl_r4 _ (List.mem_of_getElem? (i := 16) rfl)
theorem tw_4_17 : (.selects RX6 yX6_narrow yX6_narrow : Cond) ∈ wsL_law := tl_r4 _ (List.mem_of_getElem? (i := 17) rfl)
theorem tw_4_18 : (.code yX6_narrow cX6_narrow 2 (some .int) : Cond) ∈ wsL_law := tl_r4 _ (List.mem_of_getElem? (i := 18) rfl)
theorem tw_4_19 : (.methodLink RX6 41 yX6_isHeight : Cond) ∈ wsL_law := tl_r4 _ (List.mem_of_getElem? (i := 19) rfl)
theorem tw_4_20 : (.static yX6_isHeight : Cond) ∈ wsL_law := tl_r4 _ (List.mem_of_getElem? (i := 20) rfl)
theorem tw_4_21 : (.code yX6_isHeight cX6_isHeight 1 (some .boolean) : Cond) ∈ wsL_law := tl_r4 _ (List.mem_of_getElem? (i := 21) rfl)
theorem tw_4_22 : (.methodLink RX6 45 yX6_narrowAt : Cond) ∈ wsL_law := tl_r4 _ (List.mem_of_getElem? (i := 22) rfl)
theorem tw_4_23 : (.static yX6_narrowAt : Cond) ∈ wsL_law := tl_r4 _ (List.mem_of_getElem? (i := 23) rfl)
theorem tw_5_0 : (.code yX6_narrowAt cX6_narrowAt 4 (some .int) : Cond) ∈ wsL_law := tl_r5 _ (List.mem_of_getElem? (i := 0) rfl)
theorem tw_5_1 : (.methodLink RX6 235 Lib.Math.abs.name : Cond) ∈ wsL_law := tl_r5 _ (List.mem_of_getElem? (i := 1) rfl)
theorem tw_5_2 : (.static Lib.Math.abs.name : Cond) ∈ wsL_law := tl_r5 _ (List.mem_of_getElem? (i := 2) rfl)
theorem tw_5_3 : (.initialized "java/lang/Math" : Cond) ∈ wsL_law := tl_r5 _ (List.mem_of_getElem? (i := 3) rfl)
theorem tw_5_4 : (.code Lib.Math.abs.name Lib.Math.abs.code 1 (some .int) : Cond) ∈ wsL_law := tl_r5 _ (List.mem_of_getElem? (i := 4) rfl)
theorem tw_5_5 : (.methodLink RX6 238 yX6_cosOf : Cond) ∈ wsL_law := tl_r5 _ (List.mem_of_getElem? (i := 5) rfl)
theorem tw_5_6 : (.static yX6_cosOf : Cond) ∈ wsL_law := tl_r5 _ (List.mem_of_getElem? (i := 6) rfl)
theorem tw_5_7 : (.code yX6_cosOf cX6_cosOf 1 (some .int) : Cond) ∈ wsL_law := tl_r5 _ (List.mem_of_getElem? (i := 7) rfl)
theorem tw_5_8 : (.fieldLink RX6 232 "GlobeWorks" "COS" "[I" : Cond) ∈ wsL_law := tl_r5 _ (List.mem_of_getElem? (i := 8) rfl)
theorem tw_5_9 : (.methodLink RL 25 yX7_narrow : Cond) ∈ wsL_law := tl_r5 _ (List.mem_of_getElem? (i := 9) rfl)
theorem tw_5_10 : (.instanceMethod yX7_narrow : Cond) ∈ wsL_law := tl_r5 _ (List.mem_of_getElem? (i := 10) rfl)
theorem tw_5_11 : (.selects RX7 yX7_narrow yX7_narrow : Cond) ∈ wsL_law := tl_r5 _ (List.mem_of_getElem? (i := 11) rfl)
theorem tw_5_12 : (.code yX7_narrow cX7_narrow 2 (some .int) : Cond) ∈ wsL_law := tl_r5 _ (List.mem_of_getElem? (i := 12) rfl)
theorem tw_5_13 : (.methodLink RX7 69 yX7_in : Cond) ∈ wsL_law := tl_r5 _ (List.mem_of_getElem? (i := 13) rfl)
theorem tw_5_14 : (.static yX7_in : Cond) ∈ wsL_law := tl_r5 _ (List.mem_of_getElem? (i := 14) rfl)
theorem tw_5_15 : (.code yX7_in cX7_in 3 (some .boolean) : Cond) ∈ wsL_law := tl_r5 _ (List.mem_of_getElem? (i := 15) rfl)
theorem tw_5_16 : (.methodLink RX7 73 yX7_narrowOf : Cond) ∈ wsL_law := tl_r5 _ (List.mem_of_getElem? (i := 16) rfl)
theorem tw_5_17 : (.instanceMethod yX7_narrowOf : Cond) ∈ wsL_law := tl_r5 _ (List.mem_of_getElem? (i := 17) rfl)
theorem tw_5_18 : (.selects RX7 yX7_narrowOf yX7_narrowOf : Cond) ∈ wsL_law := tl_r5 _ (List.mem_of_getElem? (i := 18) rfl)
theorem tw_5_19 : (.code yX7_narrowOf cX7_narrowOf 3 (some .int) : Cond) ∈ wsL_law := tl_r5 _ (List.mem_of_getElem? (i := 19) rfl)
theorem tw_5_20 : (.methodLink RL 26 yX6_across : Cond) ∈ wsL_law := tl_r5 _ (List.mem_of_getElem? (i := 20) rfl)
theorem tw_5_21 : (.instanceMethod yX6_across : Cond) ∈ wsL_law := tl_r5 _ (List.mem_of_getElem? (i := 21) rfl)
theorem tw_5_22 : (.selects RX6 yX6_across yX6_across : Cond) ∈ wsL_law := tl_r5 _ (List.mem_of_getElem? (i := 22) rfl)
theorem tw_5_23 : (.code yX6_across cX6_across 4 (some .int) : Cond) ∈ wsL_law := tl_r5 _ (List.mem_of_getElem? (i := 23) rfl)
theorem tw_6_0 : (.constant RX6 52 (-2147483648) : Cond) ∈ wsL_law := tl_r6 _ (List.mem_of_getElem? (i := 0) rfl)
theorem tw_6_1 : (.methodLink RX6 48 yX6_xOf : Cond) ∈ wsL_law := tl_r6 _ (List.mem_of_getElem? (i := 1) rfl)
theorem tw_6_2 : (.static yX6_xOf : Cond) ∈ wsL_law := tl_r6 _ (List.mem_of_getElem? (i := 2) rfl)
theorem tw_6_3 : (.code yX6_xOf cX6_xOf 2 (some .int) : Cond) ∈ wsL_law := tl_r6 _ (List.mem_of_getElem? (i := 3) rfl)
theorem tw_6_4 : (.methodLink RL 30 yX7_across : Cond) ∈ wsL_law := tl_r6 _ (List.mem_of_getElem? (i := 4) rfl)
theorem tw_6_5 : (.instanceMethod yX7_across : Cond) ∈ wsL_law := tl_r6 _ (List.mem_of_getElem? (i := 5) rfl)
theorem tw_6_6 : (.selects RX7 yX7_across yX7_across : Cond) ∈ wsL_law := tl_r6 _ (List.mem_of_getElem? (i := 6) rfl)
theorem tw_6_7 : (.code yX7_across cX7_across 3 (some .int) : Cond) ∈ wsL_law := tl_r6 _ (List.mem_of_getElem? (i := 7) rfl)
theorem tw_6_8 : (.constant RX7 81 (-2147483648) : Cond) ∈ wsL_law := tl_r6 _ (List.mem_of_getElem? (i := 8) rfl)
theorem tw_6_9 : (.methodLink RX7 77 yX7_acrossOf : Cond) ∈ wsL_law := tl_r6 _ (List.mem_of_getElem? (i := 9) rfl)
theorem tw_6_10 : (.instanceMethod yX7_acrossOf : Cond) ∈ wsL_law := tl_r6 _ (List.mem_of_getElem? (i := 10) rfl)
theorem tw_6_11 : (.selects RX7 yX7_acrossOf yX7_acrossOf : Cond) ∈ wsL_law := tl_r6 _ (List.mem_of_getElem? (i := 11) rfl)
theorem tw_6_12 : (.code yX7_acrossOf cX7_acrossOf 3 (some .int) : Cond) ∈ wsL_law := tl_r6 _ (List.mem_of_getElem? (i := 12) rfl)
theorem tw_6_13 : (.methodLink RL 31 yX6_coast : Cond) ∈ wsL_law := tl_r6 _ (List.mem_of_getElem? (i := 13) rfl)
theorem tw_6_14 : (.instanceMethod yX6_coast : Cond) ∈ wsL_law := tl_r6 _ (List.mem_of_getElem? (i := 14) rfl)
theorem tw_6_15 : (.selects RX6 yX6_coast yX6_coast : Cond) ∈ wsL_law := tl_r6 _ (List.mem_of_getElem? (i := 15) rfl)
theorem tw_6_16 : (.code yX6_coast cX6_coast 3 (some .int) : Cond) ∈ wsL_law := tl_r6 _ (List.mem_of_getElem? (i := 16) rfl)
theorem tw_6_17 : (.classLink RX6 61 RX0 : Cond) ∈ wsL_law := tl_r6 _ (List.mem_of_getElem? (i := 17) rfl)
theorem tw_6_18 : (.instantiable RX0 2 : Cond) ∈ wsL_law := tl_r6 _ (List.mem_of_getElem? (i := 18) rfl)
theorem tw_6_19 : (.initialized RX0 : Cond) ∈ wsL_law := tl_r6 _ (List.mem_of_getElem? (i := 19) rfl)
theorem tw_6_20 : (.methodLink RX6 53 yX6_isPlace : Cond) ∈ wsL_law := tl_r6 _ (List.mem_of_getElem? (i := 20) rfl)
theorem tw_6_21 : (.static yX6_isPlace : Cond) ∈ wsL_law := tl_r6 _ (List.mem_of_getElem? (i := 21) rfl)
theorem tw_6_22 : (.code yX6_isPlace cX6_isPlace 2 (some .boolean) : Cond) ∈ wsL_law := tl_r6 _ (List.mem_of_getElem? (i := 22) rfl)
theorem tw_6_23 : (.methodLink RX6 57 yJx4a65c_size_8abf5 : Cond) ∈ wsL_law := tl_r6 _ (List.mem_of_getElem? (i := 23) rfl)
theorem tw_7_0 : (.instanceMethod yJx4a65c_size_8abf5 : Cond) ∈ wsL_law := tl_r7 _ (List.mem_of_getElem? (i := 0) rfl)
theorem tw_7_1 : (.selects RJx4a65c yJx4a65c_size_8abf5 yJx4a65c_size_8abf5 : Cond) ∈ wsL_law := tl_r7 _ (List.mem_of_getElem? (i := 1) rfl)
theorem tw_7_2 : (.code yJx4a65c_size_8abf5 cJx4a65c_size_8abf5 1 (some .int) : Cond) ∈ wsL_law := tl_r7 _ (List.mem_of_getElem? (i := 2) rfl)
theorem tw_7_3 : (.fieldLink RJx4a65c 48 "java/util/ArrayList" "size" "I" : Cond) ∈ wsL_law := tl_r7 _ (List.mem_of_getElem? (i := 3) rfl)
theorem tw_7_4 : (.methodLink RX6 63 yX0_init : Cond) ∈ wsL_law := tl_r7 _ (List.mem_of_getElem? (i := 4) rfl)
theorem tw_7_5 : (.instanceMethod yX0_init : Cond) ∈ wsL_law := tl_r7 _ (List.mem_of_getElem? (i := 5) rfl)
theorem tw_7_6 : (.code yX0_init cX0_init 3 none : Cond) ∈ wsL_law := tl_r7 _ (List.mem_of_getElem? (i := 6) rfl)
theorem tw_7_7 : (.methodLink RX0 1 objectInit : Cond) ∈ wsL_law := tl_r7 _ (List.mem_of_getElem? (i := 7) rfl)
theorem tw_7_8 : (.fieldLink RX0 7 "GlobeWorks$Coast" "longitude" "I" : Cond) ∈ wsL_law := tl_r7 _ (List.mem_of_getElem? (i := 8) rfl)
theorem tw_7_9 : (.fieldLink RX0 13 "GlobeWorks$Coast" "latitude" "I" : Cond) ∈ wsL_law := tl_r7 _ (List.mem_of_getElem? (i := 9) rfl)
theorem tw_7_10 : (.methodLink RX6 66 yJx4a65c_add_9ea2d : Cond) ∈ wsL_law := tl_r7 _ (List.mem_of_getElem? (i := 10) rfl)
theorem tw_7_11 : (.instanceMethod yJx4a65c_add_9ea2d : Cond) ∈ wsL_law := tl_r7 _ (List.mem_of_getElem? (i := 11) rfl)
theorem tw_7_12 : (.selects RJx4a65c yJx4a65c_add_9ea2d yJx4a65c_add_9ea2d : Cond) ∈ wsL_law := tl_r7 _ (List.mem_of_getElem? (i := 12) rfl)
theorem tw_7_13 : (.code yJx4a65c_add_9ea2d cJx4a65c_add_9ea2d 2 (some .boolean) : Cond) ∈ wsL_law := tl_r7 _ (List.mem_of_getElem? (i := 13) rfl)
theorem tw_7_14 : (.fieldLink RJx4a65c 63 "java/util/ArrayList" "modCount" "I" : Cond) ∈ wsL_law := tl_r7 _ (List.mem_of_getElem? (i := 14) rfl)
theorem tw_7_15 : (.sameField "java/util/ArrayList" "java/util/AbstractList" "modCount" "I" : Cond) ∈ wsL_law := tl_r7 _ (List.mem_of_getElem? (i := 15) rfl)
theorem tw_7_16 : (.methodLink RJx4a65c 131 yJx4a65c_add_72be8 : Cond) ∈ wsL_law := tl_r7 _ (List.mem_of_getElem? (i := 16) rfl)
theorem tw_7_17 : (.instanceMethod yJx4a65c_add_72be8 : Cond) ∈ wsL_law := tl_r7 _ (List.mem_of_getElem? (i := 17) rfl)
theorem tw_7_18 : (.selects RJx4a65c yJx4a65c_add_72be8 yJx4a65c_add_72be8 : Cond) ∈ wsL_law := tl_r7 _ (List.mem_of_getElem? (i := 18) rfl)
theorem tw_7_19 : (.code yJx4a65c_add_72be8 cJx4a65c_add_72be8 4 none : Cond) ∈ wsL_law := tl_r7 _ (List.mem_of_getElem? (i := 19) rfl)
theorem tw_7_20 : (.methodLink RJx4a65c 129 yJx4a65c_grow_d5877 : Cond) ∈ wsL_law := tl_r7 _ (List.mem_of_getElem? (i := 20) rfl)
theorem tw_7_21 : (.instanceMethod yJx4a65c_grow_d5877 : Cond) ∈ wsL_law := tl_r7 _ (List.mem_of_getElem? (i := 21) rfl)
theorem tw_7_22 : (.selects RJx4a65c yJx4a65c_grow_d5877 yJx4a65c_grow_d5877 : Cond) ∈ wsL_law := tl_r7 _ (List.mem_of_getElem? (i := 22) rfl)
theorem tw_7_23 : (.code yJx4a65c_grow_d5877 cJx4a65c_grow_d5877 1 (some (.array (.object "java/lang/Object"))) : Cond) ∈ wsL_law := tl_r7 _ (List.mem_of_getElem? (i := 23) rfl)
theorem tw_8_0 : (.methodLink RJx4a65c 69 yJx4a65c_grow_92f84 : Cond) ∈ wsL_law := tl_r8 _ (List.mem_of_getElem? (i := 0) rfl)
theorem tw_8_1 : (.instanceMethod yJx4a65c_grow_92f84 : Cond) ∈ wsL_law := tl_r8 _ (List.mem_of_getElem? (i := 1) rfl)
theorem tw_8_2 : (.selects RJx4a65c yJx4a65c_grow_92f84 yJx4a65c_grow_92f84 : Cond) ∈ wsL_law := tl_r8 _ (List.mem_of_getElem? (i := 2) rfl)
theorem tw_8_3 : (.code yJx4a65c_grow_92f84 cJx4a65c_grow_92f84 4 (some (.array (.object "java/lang/Object"))) : Cond) ∈ wsL_law := tl_r8 _ (List.mem_of_getElem? (i := 3) rfl)
theorem tw_8_4 : (.methodLink RJx4a65c 79 Lib.Math.max.name : Cond) ∈ wsL_law := tl_r8 _ (List.mem_of_getElem? (i := 4) rfl)
theorem tw_8_5 : (.static Lib.Math.max.name : Cond) ∈ wsL_law := tl_r8 _ (List.mem_of_getElem? (i := 5) rfl)
theorem tw_8_6 : (.code Lib.Math.max.name Lib.Math.max.code 2 (some .int) : Cond) ∈ wsL_law := tl_r8 _ (List.mem_of_getElem? (i := 6) rfl)
theorem tw_8_7 : (.classLink RJx4a65c 7 "java/lang/Object" : Cond) ∈ wsL_law := tl_r8 _ (List.mem_of_getElem? (i := 7) rfl)
theorem tw_8_8 : (.methodLink RJx4a65c 73 yJ8_newLength_cabcc : Cond) ∈ wsL_law := tl_r8 _ (List.mem_of_getElem? (i := 8) rfl)
theorem tw_8_9 : (.static yJ8_newLength_cabcc : Cond) ∈ wsL_law := tl_r8 _ (List.mem_of_getElem? (i := 9) rfl)
theorem tw_8_10 : (.initialized RJ8 : Cond) ∈ wsL_law := tl_r8 _ (List.mem_of_getElem? (i := 10) rfl)
theorem tw_8_11 : (.code yJ8_newLength_cabcc cJ8_newLength_cabcc 4 (some .int) : Cond) ∈ wsL_law := tl_r8 _ (List.mem_of_getElem? (i := 11) rfl)
theorem tw_8_12 : (.methodLink RJ8 194 Lib.Math.max.name : Cond) ∈ wsL_law := tl_r8 _ (List.mem_of_getElem? (i := 12) rfl)
theorem tw_8_13 : (.constant RJ8 200 (2147483639) : Cond) ∈ wsL_law := tl_r8 _ (List.mem_of_getElem? (i := 13) rfl)
theorem tw_8_14 : (.methodLink RJ8 201 yJ8_hugeLength_7cf53 : Cond) ∈ wsL_law := tl_r8 _ (List.mem_of_getElem? (i := 14) rfl)
theorem tw_8_15 : (.static yJ8_hugeLength_7cf53 : Cond) ∈ wsL_law := tl_r8 _ (List.mem_of_getElem? (i := 15) rfl)
theorem tw_8_16 : (.code yJ8_hugeLength_7cf53 cJ8_hugeLength_7cf53 3 (some .int) : Cond) ∈ wsL_law := tl_r8 _ (List.mem_of_getElem? (i := 16) rfl)
theorem tw_8_17 : (.methodLink RJx4a65c 66 yJ7_copyOf_1904c : Cond) ∈ wsL_law := tl_r8 _ (List.mem_of_getElem? (i := 17) rfl)
theorem tw_8_18 : (.static yJ7_copyOf_1904c : Cond) ∈ wsL_law := tl_r8 _ (List.mem_of_getElem? (i := 18) rfl)
theorem tw_8_19 : (.initialized RJ7 : Cond) ∈ wsL_law := tl_r8 _ (List.mem_of_getElem? (i := 19) rfl)
theorem tw_8_20 : (.code yJ7_copyOf_1904c cJ7_copyOf_1904c 2 (some (.array (.object "java/lang/Object"))) : Cond) ∈ wsL_law := tl_r8 _ (List.mem_of_getElem? (i := 20) rfl)
theorem tw_8_21 : (.methodLink RJ7 86 ⟨"java/lang/Object", "getClass", "()Ljava/lang/Class;"⟩ : Cond) ∈ wsL_law := tl_r8 _ (List.mem_of_getElem? (i := 21) rfl)
theorem tw_8_22 : (.selects "[Ljava/lang/Object;" ⟨"java/lang/Object", "getClass", "()Ljava/lang/Class;"⟩ ⟨"java/lang/Object", "getClass", "()Ljava/lang/Class;"⟩ : Cond) ∈ wsL_law := tl_r8 _ (List.mem_of_getElem? (i := 22) rfl)
theorem tw_8_23 : (.instanceMethod ⟨"java/lang/Object", "getClass", "()Ljava/lang/Class;"⟩ : Cond) ∈ wsL_law := tl_r8 _ (List.mem_of_getElem? (i := 23) rfl)
theorem tw_9_0 : (.native ⟨"java/lang/Object", "getClass", "()Ljava/lang/Class;"⟩ : Cond) ∈ wsL_law := tl_r9 _ (List.mem_of_getElem? (i := 0) rfl)
theorem tw_9_1 : (.methodLink RJ7 300 yJ7_copyOf_6403c : Cond) ∈ wsL_law := tl_r9 _ (List.mem_of_getElem? (i := 1) rfl)
theorem tw_9_2 : (.static yJ7_copyOf_6403c : Cond) ∈ wsL_law := tl_r9 _ (List.mem_of_getElem? (i := 2) rfl)
theorem tw_9_3 : (.code yJ7_copyOf_6403c cJ7_copyOf_6403c 4 (some (.array (.object "java/lang/Object"))) : Cond) ∈ wsL_law := tl_r9 _ (List.mem_of_getElem? (i := 3) rfl)
theorem tw_9_4 : (.classLink RJ7 110 "[Ljava/lang/Object;" : Cond) ∈ wsL_law := tl_r9 _ (List.mem_of_getElem? (i := 4) rfl)
theorem tw_9_5 : (.classLink RJ7 2 "java/lang/Object" : Cond) ∈ wsL_law := tl_r9 _ (List.mem_of_getElem? (i := 5) rfl)
theorem tw_9_6 : (.methodLink RJ7 304 Lib.Math.min.name : Cond) ∈ wsL_law := tl_r9 _ (List.mem_of_getElem? (i := 6) rfl)
theorem tw_9_7 : (.static Lib.Math.min.name : Cond) ∈ wsL_law := tl_r9 _ (List.mem_of_getElem? (i := 7) rfl)
theorem tw_9_8 : (.code Lib.Math.min.name Lib.Math.min.code 2 (some .int) : Cond) ∈ wsL_law := tl_r9 _ (List.mem_of_getElem? (i := 8) rfl)
theorem tw_9_9 : (.methodLink RJ7 150 arraycopyName : Cond) ∈ wsL_law := tl_r9 _ (List.mem_of_getElem? (i := 9) rfl)
theorem tw_9_10 : (.native arraycopyName : Cond) ∈ wsL_law := tl_r9 _ (List.mem_of_getElem? (i := 10) rfl)
theorem tw_9_11 : (.static arraycopyName : Cond) ∈ wsL_law := tl_r9 _ (List.mem_of_getElem? (i := 11) rfl)
theorem tw_9_12 : (.initialized "java/lang/System" : Cond) ∈ wsL_law := tl_r9 _ (List.mem_of_getElem? (i := 12) rfl)
theorem tw_9_13 : (.methodLink RL 34 yX7_coast : Cond) ∈ wsL_law := tl_r9 _ (List.mem_of_getElem? (i := 13) rfl)
theorem tw_9_14 : (.instanceMethod yX7_coast : Cond) ∈ wsL_law := tl_r9 _ (List.mem_of_getElem? (i := 14) rfl)
theorem tw_9_15 : (.selects RX7 yX7_coast yX7_coast : Cond) ∈ wsL_law := tl_r9 _ (List.mem_of_getElem? (i := 15) rfl)
theorem tw_9_16 : (.code yX7_coast cX7_coast 3 (some .int) : Cond) ∈ wsL_law := tl_r9 _ (List.mem_of_getElem? (i := 16) rfl)
theorem tw_9_17 : (.fieldLink RX7 86 "GlobeWorksModel" "coasts" "I" : Cond) ∈ wsL_law := tl_r9 _ (List.mem_of_getElem? (i := 17) rfl)
theorem tw_9_18 : (.methodLink RX7 82 yX7_isPlace : Cond) ∈ wsL_law := tl_r9 _ (List.mem_of_getElem? (i := 18) rfl)
theorem tw_9_19 : (.static yX7_isPlace : Cond) ∈ wsL_law := tl_r9 _ (List.mem_of_getElem? (i := 19) rfl)
theorem tw_9_20 : (.code yX7_isPlace cX7_isPlace 2 (some .boolean) : Cond) ∈ wsL_law := tl_r9 _ (List.mem_of_getElem? (i := 20) rfl)
theorem tw_9_21 : (.methodLink RL 35 yX6_to : Cond) ∈ wsL_law := tl_r9 _ (List.mem_of_getElem? (i := 21) rfl)
theorem tw_9_22 : (.instanceMethod yX6_to : Cond) ∈ wsL_law := tl_r9 _ (List.mem_of_getElem? (i := 22) rfl)
theorem tw_9_23 : (.selects RX6 yX6_to yX6_to : Cond) ∈ wsL_law := tl_r9 _ (List.mem_of_getElem? (i := 23) rfl)
theorem tw_10_0 : (.code yX6_to cX6_to 7 (some .int) : Cond) ∈ wsL_law := tl_r10 _ (List.mem_of_getElem? (i := 0) rfl)
theorem tw_10_1 : (.classLink RX6 77 RX5 : Cond) ∈ wsL_law := tl_r10 _ (List.mem_of_getElem? (i := 1) rfl)
theorem tw_10_2 : (.instantiable RX5 5 : Cond) ∈ wsL_law := tl_r10 _ (List.mem_of_getElem? (i := 2) rfl)
theorem tw_10_3 : (.initialized RX5 : Cond) ∈ wsL_law := tl_r10 _ (List.mem_of_getElem? (i := 3) rfl)
theorem tw_10_4 : (.fieldLink RX6 82 "GlobeWorks$Step" "length" "I" : Cond) ∈ wsL_law := tl_r10 _ (List.mem_of_getElem? (i := 4) rfl)
theorem tw_10_5 : (.fieldLink RX6 89 "GlobeWorks" "pieceCount" "I" : Cond) ∈ wsL_law := tl_r10 _ (List.mem_of_getElem? (i := 5) rfl)
theorem tw_10_6 : (.fieldLink RX6 100 "GlobeWorks$Coast" "longitude" "I" : Cond) ∈ wsL_law := tl_r10 _ (List.mem_of_getElem? (i := 6) rfl)
theorem tw_10_7 : (.fieldLink RX6 103 "GlobeWorks$Coast" "latitude" "I" : Cond) ∈ wsL_law := tl_r10 _ (List.mem_of_getElem? (i := 7) rfl)
theorem tw_10_8 : (.methodLink RX6 70 yX6_coastOf : Cond) ∈ wsL_law := tl_r10 _ (List.mem_of_getElem? (i := 8) rfl)
theorem tw_10_9 : (.instanceMethod yX6_coastOf : Cond) ∈ wsL_law := tl_r10 _ (List.mem_of_getElem? (i := 9) rfl)
theorem tw_10_10 : (.selects RX6 yX6_coastOf yX6_coastOf : Cond) ∈ wsL_law := tl_r10 _ (List.mem_of_getElem? (i := 10) rfl)
theorem tw_10_11 : (.code yX6_coastOf cX6_coastOf 2 (some (.object "GlobeWorks$Coast")) : Cond) ∈ wsL_law := tl_r10 _ (List.mem_of_getElem? (i := 11) rfl)
theorem tw_10_12 : (.classLink RX6 61 "GlobeWorks$Coast" : Cond) ∈ wsL_law := tl_r10 _ (List.mem_of_getElem? (i := 12) rfl)
theorem tw_10_13 : (.methodLink RX6 113 yJx4a65c_get_915e3 : Cond) ∈ wsL_law := tl_r10 _ (List.mem_of_getElem? (i := 13) rfl)
theorem tw_10_14 : (.instanceMethod yJx4a65c_get_915e3 : Cond) ∈ wsL_law := tl_r10 _ (List.mem_of_getElem? (i := 14) rfl)
theorem tw_10_15 : (.selects RJx4a65c yJx4a65c_get_915e3 yJx4a65c_get_915e3 : Cond) ∈ wsL_law := tl_r10 _ (List.mem_of_getElem? (i := 15) rfl)
theorem tw_10_16 : (.code yJx4a65c_get_915e3 cJx4a65c_get_915e3 2 (some (.object "java/lang/Object")) : Cond) ∈ wsL_law := tl_r10 _ (List.mem_of_getElem? (i := 16) rfl)
theorem tw_10_17 : (.methodLink RJx4a65c 118 yJ15_checkIndex_7cf53 : Cond) ∈ wsL_law := tl_r10 _ (List.mem_of_getElem? (i := 17) rfl)
theorem tw_10_18 : (.static yJ15_checkIndex_7cf53 : Cond) ∈ wsL_law := tl_r10 _ (List.mem_of_getElem? (i := 18) rfl)
theorem tw_10_19 : (.initialized RJ15 : Cond) ∈ wsL_law := tl_r10 _ (List.mem_of_getElem? (i := 19) rfl)
theorem tw_10_20 : (.code yJ15_checkIndex_7cf53 cJ15_checkIndex_7cf53 2 (some .int) : Cond) ∈ wsL_law := tl_r10 _ (List.mem_of_getElem? (i := 20) rfl)
theorem tw_10_21 : (.methodLink RJ15 105 yJ3_checkIndex_8e157 : Cond) ∈ wsL_law := tl_r10 _ (List.mem_of_getElem? (i := 21) rfl)
theorem tw_10_22 : (.static yJ3_checkIndex_8e157 : Cond) ∈ wsL_law := tl_r10 _ (List.mem_of_getElem? (i := 22) rfl)
theorem tw_10_23 : (.initialized RJ3 : Cond) ∈ wsL_law := tl_r10 _ (List.mem_of_getElem? (i := 23) rfl)
theorem tw_11_0 : (.code yJ3_checkIndex_8e157 cJ3_checkIndex_8e157 3 (some .int) : Cond) ∈ wsL_law := tl_r11 _ (List.mem_of_getElem? (i := 0) rfl)
theorem tw_11_1 : (.methodLink RJx4a65c 123 yJx4a65c_elementData_915e3 : Cond) ∈ wsL_law := tl_r11 _ (List.mem_of_getElem? (i := 1) rfl)
theorem tw_11_2 : (.instanceMethod yJx4a65c_elementData_915e3 : Cond) ∈ wsL_law := tl_r11 _ (List.mem_of_getElem? (i := 2) rfl)
theorem tw_11_3 : (.selects RJx4a65c yJx4a65c_elementData_915e3 yJx4a65c_elementData_915e3 : Cond) ∈ wsL_law := tl_r11 _ (List.mem_of_getElem? (i := 3) rfl)
theorem tw_11_4 : (.code yJx4a65c_elementData_915e3 cJx4a65c_elementData_915e3 2 (some (.object "java/lang/Object")) : Cond) ∈ wsL_law := tl_r11 _ (List.mem_of_getElem? (i := 4) rfl)
theorem tw_11_5 : (.methodLink RX6 74 yX0_isAt : Cond) ∈ wsL_law := tl_r11 _ (List.mem_of_getElem? (i := 5) rfl)
theorem tw_11_6 : (.instanceMethod yX0_isAt : Cond) ∈ wsL_law := tl_r11 _ (List.mem_of_getElem? (i := 6) rfl)
theorem tw_11_7 : (.selects RX0 yX0_isAt yX0_isAt : Cond) ∈ wsL_law := tl_r11 _ (List.mem_of_getElem? (i := 7) rfl)
theorem tw_11_8 : (.code yX0_isAt cX0_isAt 3 (some .boolean) : Cond) ∈ wsL_law := tl_r11 _ (List.mem_of_getElem? (i := 8) rfl)
theorem tw_11_9 : (.methodLink RX6 79 yX5_init : Cond) ∈ wsL_law := tl_r11 _ (List.mem_of_getElem? (i := 9) rfl)
theorem tw_11_10 : (.instanceMethod yX5_init : Cond) ∈ wsL_law := tl_r11 _ (List.mem_of_getElem? (i := 10) rfl)
theorem tw_11_11 : (.code yX5_init cX5_init 5 none : Cond) ∈ wsL_law := tl_r11 _ (List.mem_of_getElem? (i := 11) rfl)
theorem tw_11_12 : (.methodLink RX5 3 objectInit : Cond) ∈ wsL_law := tl_r11 _ (List.mem_of_getElem? (i := 12) rfl)
theorem tw_11_13 : (.fieldLink RX5 9 "GlobeWorks$Coast" "longitude" "I" : Cond) ∈ wsL_law := tl_r11 _ (List.mem_of_getElem? (i := 13) rfl)
theorem tw_11_14 : (.fieldLink RX5 15 "GlobeWorks$Step" "longitude" "I" : Cond) ∈ wsL_law := tl_r11 _ (List.mem_of_getElem? (i := 14) rfl)
theorem tw_11_15 : (.fieldLink RX5 18 "GlobeWorks$Coast" "latitude" "I" : Cond) ∈ wsL_law := tl_r11 _ (List.mem_of_getElem? (i := 15) rfl)
theorem tw_11_16 : (.fieldLink RX5 21 "GlobeWorks$Step" "height" "I" : Cond) ∈ wsL_law := tl_r11 _ (List.mem_of_getElem? (i := 16) rfl)
theorem tw_11_17 : (.fieldLink RX5 24 "GlobeWorks$Step" "rise" "I" : Cond) ∈ wsL_law := tl_r11 _ (List.mem_of_getElem? (i := 17) rfl)
theorem tw_11_18 : (.fieldLink RX5 33 "GlobeWorks$Step" "direction" "I" : Cond) ∈ wsL_law := tl_r11 _ (List.mem_of_getElem? (i := 18) rfl)
theorem tw_11_19 : (.methodLink RX5 36 Lib.Math.min.name : Cond) ∈ wsL_law := tl_r11 _ (List.mem_of_getElem? (i := 19) rfl)
theorem tw_11_20 : (.fieldLink RX5 39 "GlobeWorks$Step" "length" "I" : Cond) ∈ wsL_law := tl_r11 _ (List.mem_of_getElem? (i := 20) rfl)
theorem tw_11_21 : (.methodLink RX5 27 yJ9_floorMod_7cf53 : Cond) ∈ wsL_law := tl_r11 _ (List.mem_of_getElem? (i := 21) rfl)
theorem tw_11_22 : (.static yJ9_floorMod_7cf53 : Cond) ∈ wsL_law := tl_r11 _ (List.mem_of_getElem? (i := 22) rfl)
theorem tw_11_23 : (.initialized RJ9 : Cond) ∈ wsL_law := tl_r11 _ (List.mem_of_getElem? (i := 23) rfl)
theorem tw_12_0 : (.code yJ9_floorMod_7cf53 cJ9_floorMod_7cf53 3 (some .int) : Cond) ∈ wsL_law := tl_r12 _ (List.mem_of_getElem? (i := 0) rfl)
theorem tw_12_1 : (.methodLink RX6 85 yX6_piecesOf : Cond) ∈ wsL_law := tl_r12 _ (List.mem_of_getElem? (i := 1) rfl)
theorem tw_12_2 : (.instanceMethod yX6_piecesOf : Cond) ∈ wsL_law := tl_r12 _ (List.mem_of_getElem? (i := 2) rfl)
theorem tw_12_3 : (.selects RX6 yX6_piecesOf yX6_piecesOf : Cond) ∈ wsL_law := tl_r12 _ (List.mem_of_getElem? (i := 3) rfl)
theorem tw_12_4 : (.code yX6_piecesOf cX6_piecesOf 3 (some .int) : Cond) ∈ wsL_law := tl_r12 _ (List.mem_of_getElem? (i := 4) rfl)
theorem tw_12_5 : (.methodLink RX6 248 yX6_goneFromEdge : Cond) ∈ wsL_law := tl_r12 _ (List.mem_of_getElem? (i := 5) rfl)
theorem tw_12_6 : (.instanceMethod yX6_goneFromEdge : Cond) ∈ wsL_law := tl_r12 _ (List.mem_of_getElem? (i := 6) rfl)
theorem tw_12_7 : (.selects RX6 yX6_goneFromEdge yX6_goneFromEdge : Cond) ∈ wsL_law := tl_r12 _ (List.mem_of_getElem? (i := 7) rfl)
theorem tw_12_8 : (.code yX6_goneFromEdge cX6_goneFromEdge 2 (some .int) : Cond) ∈ wsL_law := tl_r12 _ (List.mem_of_getElem? (i := 8) rfl)
theorem tw_12_9 : (.fieldLink RX6 244 "GlobeWorks$Step" "direction" "I" : Cond) ∈ wsL_law := tl_r12 _ (List.mem_of_getElem? (i := 9) rfl)
theorem tw_12_10 : (.fieldLink RX6 247 "GlobeWorks$Step" "longitude" "I" : Cond) ∈ wsL_law := tl_r12 _ (List.mem_of_getElem? (i := 10) rfl)
theorem tw_12_11 : (.methodLink RX6 241 yJ9_floorMod_7cf53 : Cond) ∈ wsL_law := tl_r12 _ (List.mem_of_getElem? (i := 11) rfl)
theorem tw_12_12 : (.methodLink RX6 92 yX6_cutUpright : Cond) ∈ wsL_law := tl_r12 _ (List.mem_of_getElem? (i := 12) rfl)
theorem tw_12_13 : (.instanceMethod yX6_cutUpright : Cond) ∈ wsL_law := tl_r12 _ (List.mem_of_getElem? (i := 13) rfl)
theorem tw_12_14 : (.selects RX6 yX6_cutUpright yX6_cutUpright : Cond) ∈ wsL_law := tl_r12 _ (List.mem_of_getElem? (i := 14) rfl)
theorem tw_12_15 : (.code yX6_cutUpright cX6_cutUpright 4 none : Cond) ∈ wsL_law := tl_r12 _ (List.mem_of_getElem? (i := 15) rfl)
theorem tw_12_16 : (.methodLink RX6 251 yX6_layUpright : Cond) ∈ wsL_law := tl_r12 _ (List.mem_of_getElem? (i := 16) rfl)
theorem tw_12_17 : (.instanceMethod yX6_layUpright : Cond) ∈ wsL_law := tl_r12 _ (List.mem_of_getElem? (i := 17) rfl)
theorem tw_12_18 : (.selects RX6 yX6_layUpright yX6_layUpright : Cond) ∈ wsL_law := tl_r12 _ (List.mem_of_getElem? (i := 18) rfl)
theorem tw_12_19 : (.code yX6_layUpright cX6_layUpright 5 none : Cond) ∈ wsL_law := tl_r12 _ (List.mem_of_getElem? (i := 19) rfl)
theorem tw_12_20 : (.classLink RX6 117 RX3 : Cond) ∈ wsL_law := tl_r12 _ (List.mem_of_getElem? (i := 20) rfl)
theorem tw_12_21 : (.instantiable RX3 5 : Cond) ∈ wsL_law := tl_r12 _ (List.mem_of_getElem? (i := 21) rfl)
theorem tw_12_22 : (.initialized RX3 : Cond) ∈ wsL_law := tl_r12 _ (List.mem_of_getElem? (i := 22) rfl)
theorem tw_12_23 : (.fieldLink RX6 254 "GlobeWorks$Step" "height" "I" : Cond) ∈ wsL_law := tl_r12 _ (List.mem_of_getElem? (i := 23) rfl)
theorem tw_13_0 : (.fieldLink RX6 255 "GlobeWorks$Step" "rise" "I" : Cond) ∈ wsL_law := tl_r13 _ (List.mem_of_getElem? (i := 0) rfl)
theorem tw_13_1 : (.methodLink RX6 157 yX6_sideOf : Cond) ∈ wsL_law := tl_r13 _ (List.mem_of_getElem? (i := 1) rfl)
theorem tw_13_2 : (.instanceMethod yX6_sideOf : Cond) ∈ wsL_law := tl_r13 _ (List.mem_of_getElem? (i := 2) rfl)
theorem tw_13_3 : (.selects RX6 yX6_sideOf yX6_sideOf : Cond) ∈ wsL_law := tl_r13 _ (List.mem_of_getElem? (i := 3) rfl)
theorem tw_13_4 : (.code yX6_sideOf cX6_sideOf 3 (some .int) : Cond) ∈ wsL_law := tl_r13 _ (List.mem_of_getElem? (i := 4) rfl)
theorem tw_13_5 : (.methodLink RX6 258 yX3_init : Cond) ∈ wsL_law := tl_r13 _ (List.mem_of_getElem? (i := 5) rfl)
theorem tw_13_6 : (.instanceMethod yX3_init : Cond) ∈ wsL_law := tl_r13 _ (List.mem_of_getElem? (i := 6) rfl)
theorem tw_13_7 : (.code yX3_init cX3_init 6 none : Cond) ∈ wsL_law := tl_r13 _ (List.mem_of_getElem? (i := 7) rfl)
theorem tw_13_8 : (.methodLink RX3 1 objectInit : Cond) ∈ wsL_law := tl_r13 _ (List.mem_of_getElem? (i := 8) rfl)
theorem tw_13_9 : (.fieldLink RX3 7 "GlobeWorks$Piece" "coast" "I" : Cond) ∈ wsL_law := tl_r13 _ (List.mem_of_getElem? (i := 9) rfl)
theorem tw_13_10 : (.fieldLink RX3 13 "GlobeWorks$Piece" "beginSide" "I" : Cond) ∈ wsL_law := tl_r13 _ (List.mem_of_getElem? (i := 10) rfl)
theorem tw_13_11 : (.fieldLink RX3 16 "GlobeWorks$Piece" "beginHeight" "I" : Cond) ∈ wsL_law := tl_r13 _ (List.mem_of_getElem? (i := 11) rfl)
theorem tw_13_12 : (.fieldLink RX3 19 "GlobeWorks$Piece" "endSide" "I" : Cond) ∈ wsL_law := tl_r13 _ (List.mem_of_getElem? (i := 12) rfl)
theorem tw_13_13 : (.fieldLink RX3 22 "GlobeWorks$Piece" "endHeight" "I" : Cond) ∈ wsL_law := tl_r13 _ (List.mem_of_getElem? (i := 13) rfl)
theorem tw_13_14 : (.methodLink RX6 261 yX6_lay : Cond) ∈ wsL_law := tl_r13 _ (List.mem_of_getElem? (i := 14) rfl)
theorem tw_13_15 : (.instanceMethod yX6_lay : Cond) ∈ wsL_law := tl_r13 _ (List.mem_of_getElem? (i := 15) rfl)
theorem tw_13_16 : (.selects RX6 yX6_lay yX6_lay : Cond) ∈ wsL_law := tl_r13 _ (List.mem_of_getElem? (i := 16) rfl)
theorem tw_13_17 : (.code yX6_lay cX6_lay 4 none : Cond) ∈ wsL_law := tl_r13 _ (List.mem_of_getElem? (i := 17) rfl)
theorem tw_13_18 : (.fieldLink RX6 110 "GlobeWorks$Gore" "pieces" "Ljava/util/ArrayList;" : Cond) ∈ wsL_law := tl_r13 _ (List.mem_of_getElem? (i := 18) rfl)
theorem tw_13_19 : (.fieldLink RX6 143 "GlobeWorks$Gore" "isFresh" "Z" : Cond) ∈ wsL_law := tl_r13 _ (List.mem_of_getElem? (i := 19) rfl)
theorem tw_13_20 : (.methodLink RX6 106 yX6_goreOf : Cond) ∈ wsL_law := tl_r13 _ (List.mem_of_getElem? (i := 20) rfl)
theorem tw_13_21 : (.instanceMethod yX6_goreOf : Cond) ∈ wsL_law := tl_r13 _ (List.mem_of_getElem? (i := 21) rfl)
theorem tw_13_22 : (.selects RX6 yX6_goreOf yX6_goreOf : Cond) ∈ wsL_law := tl_r13 _ (List.mem_of_getElem? (i := 22) rfl)
theorem tw_13_23 : (.code yX6_goreOf cX6_goreOf 2 (some (.object "GlobeWorks$Gore")) : Cond) ∈ wsL_law := tl_r13 _ (List.mem_of_getElem? (i := 23) rfl)
theorem tw_14_0 : (.methodLink RX6 96 yX6_cutSlanting : Cond) ∈ wsL_law := tl_r14 _ (List.mem_of_getElem? (i := 0) rfl)
theorem tw_14_1 : (.instanceMethod yX6_cutSlanting : Cond) ∈ wsL_law := tl_r14 _ (List.mem_of_getElem? (i := 1) rfl)
theorem tw_14_2 : (.selects RX6 yX6_cutSlanting yX6_cutSlanting : Cond) ∈ wsL_law := tl_r14 _ (List.mem_of_getElem? (i := 2) rfl)
theorem tw_14_3 : (.code yX6_cutSlanting cX6_cutSlanting 10 none : Cond) ∈ wsL_law := tl_r14 _ (List.mem_of_getElem? (i := 3) rfl)
theorem tw_14_4 : (.methodLink RX6 265 Lib.Math.max.name : Cond) ∈ wsL_law := tl_r14 _ (List.mem_of_getElem? (i := 4) rfl)
theorem tw_14_5 : (.methodLink RX6 268 Lib.Math.min.name : Cond) ∈ wsL_law := tl_r14 _ (List.mem_of_getElem? (i := 5) rfl)
theorem tw_14_6 : (.methodLink RX6 227 yJ9_floorDiv_7cf53 : Cond) ∈ wsL_law := tl_r14 _ (List.mem_of_getElem? (i := 6) rfl)
theorem tw_14_7 : (.static yJ9_floorDiv_7cf53 : Cond) ∈ wsL_law := tl_r14 _ (List.mem_of_getElem? (i := 7) rfl)
theorem tw_14_8 : (.code yJ9_floorDiv_7cf53 cJ9_floorDiv_7cf53 3 (some .int) : Cond) ∈ wsL_law := tl_r14 _ (List.mem_of_getElem? (i := 8) rfl)
theorem tw_14_9 : (.methodLink RX6 271 yX5_longitudeAt : Cond) ∈ wsL_law := tl_r14 _ (List.mem_of_getElem? (i := 9) rfl)
theorem tw_14_10 : (.instanceMethod yX5_longitudeAt : Cond) ∈ wsL_law := tl_r14 _ (List.mem_of_getElem? (i := 10) rfl)
theorem tw_14_11 : (.selects RX5 yX5_longitudeAt yX5_longitudeAt : Cond) ∈ wsL_law := tl_r14 _ (List.mem_of_getElem? (i := 11) rfl)
theorem tw_14_12 : (.code yX5_longitudeAt cX5_longitudeAt 2 (some .int) : Cond) ∈ wsL_law := tl_r14 _ (List.mem_of_getElem? (i := 12) rfl)
theorem tw_14_13 : (.methodLink RX6 274 yX5_heightAt : Cond) ∈ wsL_law := tl_r14 _ (List.mem_of_getElem? (i := 13) rfl)
theorem tw_14_14 : (.instanceMethod yX5_heightAt : Cond) ∈ wsL_law := tl_r14 _ (List.mem_of_getElem? (i := 14) rfl)
theorem tw_14_15 : (.selects RX5 yX5_heightAt yX5_heightAt : Cond) ∈ wsL_law := tl_r14 _ (List.mem_of_getElem? (i := 15) rfl)
theorem tw_14_16 : (.code yX5_heightAt cX5_heightAt 2 (some .int) : Cond) ∈ wsL_law := tl_r14 _ (List.mem_of_getElem? (i := 16) rfl)
theorem tw_14_17 : (.static yX6_roundBy : Cond) ∈ wsL_law := tl_r14 _ (List.mem_of_getElem? (i := 17) rfl)
theorem tw_14_18 : (.code yX6_roundBy cX6_roundBy 2 (some .int) : Cond) ∈ wsL_law := tl_r14 _ (List.mem_of_getElem? (i := 18) rfl)
theorem tw_14_19 : (.methodLink RL 39 yX7_to : Cond) ∈ wsL_law := tl_r14 _ (List.mem_of_getElem? (i := 19) rfl)
theorem tw_14_20 : (.instanceMethod yX7_to : Cond) ∈ wsL_law := tl_r14 _ (List.mem_of_getElem? (i := 20) rfl)
theorem tw_14_21 : (.selects RX7 yX7_to yX7_to : Cond) ∈ wsL_law := tl_r14 _ (List.mem_of_getElem? (i := 21) rfl)
theorem tw_14_22 : (.code yX7_to cX7_to 9 (some .int) : Cond) ∈ wsL_law := tl_r14 _ (List.mem_of_getElem? (i := 22) rfl)
theorem tw_14_23 : (.fieldLink RX7 92 "GlobeWorksModel" "pieces" "I" : Cond) ∈ wsL_law := tl_r14 _ (List.mem_of_getElem? (i := 23) rfl)
theorem tw_15_0 : (.methodLink RX7 99 yX7_parts : Cond) ∈ wsL_law := tl_r15 _ (List.mem_of_getElem? (i := 0) rfl)
theorem tw_15_1 : (.instanceMethod yX7_parts : Cond) ∈ wsL_law := tl_r15 _ (List.mem_of_getElem? (i := 1) rfl)
theorem tw_15_2 : (.selects RX7 yX7_parts yX7_parts : Cond) ∈ wsL_law := tl_r15 _ (List.mem_of_getElem? (i := 2) rfl)
theorem tw_15_3 : (.code yX7_parts cX7_parts 6 (some .int) : Cond) ∈ wsL_law := tl_r15 _ (List.mem_of_getElem? (i := 3) rfl)
theorem tw_15_4 : (.methodLink RX7 95 yX7_isEdge : Cond) ∈ wsL_law := tl_r15 _ (List.mem_of_getElem? (i := 4) rfl)
theorem tw_15_5 : (.instanceMethod yX7_isEdge : Cond) ∈ wsL_law := tl_r15 _ (List.mem_of_getElem? (i := 5) rfl)
theorem tw_15_6 : (.selects RX7 yX7_isEdge yX7_isEdge : Cond) ∈ wsL_law := tl_r15 _ (List.mem_of_getElem? (i := 6) rfl)
theorem tw_15_7 : (.code yX7_isEdge cX7_isEdge 2 (some .boolean) : Cond) ∈ wsL_law := tl_r15 _ (List.mem_of_getElem? (i := 7) rfl)
theorem tw_15_8 : (.methodLink RX7 102 yX7_stays : Cond) ∈ wsL_law := tl_r15 _ (List.mem_of_getElem? (i := 8) rfl)
theorem tw_15_9 : (.instanceMethod yX7_stays : Cond) ∈ wsL_law := tl_r15 _ (List.mem_of_getElem? (i := 9) rfl)
theorem tw_15_10 : (.selects RX7 yX7_stays yX7_stays : Cond) ∈ wsL_law := tl_r15 _ (List.mem_of_getElem? (i := 10) rfl)
theorem tw_15_11 : (.code yX7_stays cX7_stays 7 none : Cond) ∈ wsL_law := tl_r15 _ (List.mem_of_getElem? (i := 11) rfl)
theorem tw_15_12 : (.methodLink RX7 110 yX7_adds : Cond) ∈ wsL_law := tl_r15 _ (List.mem_of_getElem? (i := 12) rfl)
theorem tw_15_13 : (.instanceMethod yX7_adds : Cond) ∈ wsL_law := tl_r15 _ (List.mem_of_getElem? (i := 13) rfl)
theorem tw_15_14 : (.selects RX7 yX7_adds yX7_adds : Cond) ∈ wsL_law := tl_r15 _ (List.mem_of_getElem? (i := 14) rfl)
theorem tw_15_15 : (.code yX7_adds cX7_adds 7 none : Cond) ∈ wsL_law := tl_r15 _ (List.mem_of_getElem? (i := 15) rfl)
theorem tw_15_16 : (.methodLink RX7 106 yX7_goes : Cond) ∈ wsL_law := tl_r15 _ (List.mem_of_getElem? (i := 16) rfl)
theorem tw_15_17 : (.instanceMethod yX7_goes : Cond) ∈ wsL_law := tl_r15 _ (List.mem_of_getElem? (i := 17) rfl)
theorem tw_15_18 : (.selects RX7 yX7_goes yX7_goes : Cond) ∈ wsL_law := tl_r15 _ (List.mem_of_getElem? (i := 18) rfl)
theorem tw_15_19 : (.code yX7_goes cX7_goes 15 none : Cond) ∈ wsL_law := tl_r15 _ (List.mem_of_getElem? (i := 19) rfl)
theorem tw_15_20 : (.methodLink RX7 114 yX7_sideWest : Cond) ∈ wsL_law := tl_r15 _ (List.mem_of_getElem? (i := 20) rfl)
theorem tw_15_21 : (.instanceMethod yX7_sideWest : Cond) ∈ wsL_law := tl_r15 _ (List.mem_of_getElem? (i := 21) rfl)
theorem tw_15_22 : (.selects RX7 yX7_sideWest yX7_sideWest : Cond) ∈ wsL_law := tl_r15 _ (List.mem_of_getElem? (i := 22) rfl)
theorem tw_15_23 : (.code yX7_sideWest cX7_sideWest 3 (some .int) : Cond) ∈ wsL_law := tl_r15 _ (List.mem_of_getElem? (i := 23) rfl)
theorem tw_16_0 : (.methodLink RX7 117 yX7_heightAt : Cond) ∈ wsL_law := tl_r16 _ (List.mem_of_getElem? (i := 0) rfl)
theorem tw_16_1 : (.static yX7_heightAt : Cond) ∈ wsL_law := tl_r16 _ (List.mem_of_getElem? (i := 1) rfl)
theorem tw_16_2 : (.code yX7_heightAt cX7_heightAt 4 (some .int) : Cond) ∈ wsL_law := tl_r16 _ (List.mem_of_getElem? (i := 2) rfl)
theorem tw_16_3 : (.methodLink RX7 89 yX7_round : Cond) ∈ wsL_law := tl_r16 _ (List.mem_of_getElem? (i := 3) rfl)
theorem tw_16_4 : (.static yX7_round : Cond) ∈ wsL_law := tl_r16 _ (List.mem_of_getElem? (i := 4) rfl)
theorem tw_16_5 : (.code yX7_round cX7_round 5 (some .int) : Cond) ∈ wsL_law := tl_r16 _ (List.mem_of_getElem? (i := 5) rfl)
theorem tw_16_6 : (.methodLink RL 40 yX6_pieces : Cond) ∈ wsL_law := tl_r16 _ (List.mem_of_getElem? (i := 6) rfl)
theorem tw_16_7 : (.instanceMethod yX6_pieces : Cond) ∈ wsL_law := tl_r16 _ (List.mem_of_getElem? (i := 7) rfl)
theorem tw_16_8 : (.selects RX6 yX6_pieces yX6_pieces : Cond) ∈ wsL_law := tl_r16 _ (List.mem_of_getElem? (i := 8) rfl)
theorem tw_16_9 : (.code yX6_pieces cX6_pieces 3 (some .int) : Cond) ∈ wsL_law := tl_r16 _ (List.mem_of_getElem? (i := 9) rfl)
theorem tw_16_10 : (.methodLink RL 43 yX7_pieces : Cond) ∈ wsL_law := tl_r16 _ (List.mem_of_getElem? (i := 10) rfl)
theorem tw_16_11 : (.instanceMethod yX7_pieces : Cond) ∈ wsL_law := tl_r16 _ (List.mem_of_getElem? (i := 11) rfl)
theorem tw_16_12 : (.selects RX7 yX7_pieces yX7_pieces : Cond) ∈ wsL_law := tl_r16 _ (List.mem_of_getElem? (i := 12) rfl)
theorem tw_16_13 : (.code yX7_pieces cX7_pieces 4 (some .int) : Cond) ∈ wsL_law := tl_r16 _ (List.mem_of_getElem? (i := 13) rfl)
theorem tw_16_14 : (.methodLink RX7 121 yX7_isGore : Cond) ∈ wsL_law := tl_r16 _ (List.mem_of_getElem? (i := 14) rfl)
theorem tw_16_15 : (.instanceMethod yX7_isGore : Cond) ∈ wsL_law := tl_r16 _ (List.mem_of_getElem? (i := 15) rfl)
theorem tw_16_16 : (.selects RX7 yX7_isGore yX7_isGore : Cond) ∈ wsL_law := tl_r16 _ (List.mem_of_getElem? (i := 16) rfl)
theorem tw_16_17 : (.code yX7_isGore cX7_isGore 2 (some .boolean) : Cond) ∈ wsL_law := tl_r16 _ (List.mem_of_getElem? (i := 17) rfl)
theorem tw_16_18 : (.methodLink RL 44 yX6_piece : Cond) ∈ wsL_law := tl_r16 _ (List.mem_of_getElem? (i := 18) rfl)
theorem tw_16_19 : (.instanceMethod yX6_piece : Cond) ∈ wsL_law := tl_r16 _ (List.mem_of_getElem? (i := 19) rfl)
theorem tw_16_20 : (.selects RX6 yX6_piece yX6_piece : Cond) ∈ wsL_law := tl_r16 _ (List.mem_of_getElem? (i := 20) rfl)
theorem tw_16_21 : (.code yX6_piece cX6_piece 6 (some .int) : Cond) ∈ wsL_law := tl_r16 _ (List.mem_of_getElem? (i := 21) rfl)
theorem tw_16_22 : (.classLink RX6 117 "GlobeWorks$Piece" : Cond) ∈ wsL_law := tl_r16 _ (List.mem_of_getElem? (i := 22) rfl)
theorem tw_16_23 : (.fieldLink RX6 119 "GlobeWorks$Piece" "coast" "I" : Cond) ∈ wsL_law := tl_r16 _ (List.mem_of_getElem? (i := 23) rfl)
theorem tw_17_0 : (.fieldLink RX6 122 "GlobeWorks$Piece" "beginSide" "I" : Cond) ∈ wsL_law := tl_r17 _ (List.mem_of_getElem? (i := 0) rfl)
theorem tw_17_1 : (.fieldLink RX6 125 "GlobeWorks$Piece" "beginHeight" "I" : Cond) ∈ wsL_law := tl_r17 _ (List.mem_of_getElem? (i := 1) rfl)
theorem tw_17_2 : (.fieldLink RX6 128 "GlobeWorks$Piece" "endSide" "I" : Cond) ∈ wsL_law := tl_r17 _ (List.mem_of_getElem? (i := 2) rfl)
theorem tw_17_3 : (.fieldLink RX6 131 "GlobeWorks$Piece" "endHeight" "I" : Cond) ∈ wsL_law := tl_r17 _ (List.mem_of_getElem? (i := 3) rfl)
theorem tw_17_4 : (.methodLink RL 47 yX7_piece : Cond) ∈ wsL_law := tl_r17 _ (List.mem_of_getElem? (i := 4) rfl)
theorem tw_17_5 : (.instanceMethod yX7_piece : Cond) ∈ wsL_law := tl_r17 _ (List.mem_of_getElem? (i := 5) rfl)
theorem tw_17_6 : (.selects RX7 yX7_piece yX7_piece : Cond) ∈ wsL_law := tl_r17 _ (List.mem_of_getElem? (i := 6) rfl)
theorem tw_17_7 : (.code yX7_piece cX7_piece 6 (some .int) : Cond) ∈ wsL_law := tl_r17 _ (List.mem_of_getElem? (i := 7) rfl)
theorem tw_17_8 : (.methodLink RL 48 yX6_paper : Cond) ∈ wsL_law := tl_r17 _ (List.mem_of_getElem? (i := 8) rfl)
theorem tw_17_9 : (.instanceMethod yX6_paper : Cond) ∈ wsL_law := tl_r17 _ (List.mem_of_getElem? (i := 9) rfl)
theorem tw_17_10 : (.selects RX6 yX6_paper yX6_paper : Cond) ∈ wsL_law := tl_r17 _ (List.mem_of_getElem? (i := 10) rfl)
theorem tw_17_11 : (.code yX6_paper cX6_paper 7 (some .boolean) : Cond) ∈ wsL_law := tl_r17 _ (List.mem_of_getElem? (i := 11) rfl)
theorem tw_17_12 : (.fieldLink RX6 137 "GlobeWorks" "growsAcross" "I" : Cond) ∈ wsL_law := tl_r17 _ (List.mem_of_getElem? (i := 12) rfl)
theorem tw_17_13 : (.fieldLink RX6 140 "GlobeWorks" "growsAlong" "I" : Cond) ∈ wsL_law := tl_r17 _ (List.mem_of_getElem? (i := 13) rfl)
theorem tw_17_14 : (.methodLink RX6 134 yX6_isGrowth : Cond) ∈ wsL_law := tl_r17 _ (List.mem_of_getElem? (i := 14) rfl)
theorem tw_17_15 : (.static yX6_isGrowth : Cond) ∈ wsL_law := tl_r17 _ (List.mem_of_getElem? (i := 15) rfl)
theorem tw_17_16 : (.code yX6_isGrowth cX6_isGrowth 1 (some .boolean) : Cond) ∈ wsL_law := tl_r17 _ (List.mem_of_getElem? (i := 16) rfl)
theorem tw_17_17 : (.methodLink RL 52 yX7_paper : Cond) ∈ wsL_law := tl_r17 _ (List.mem_of_getElem? (i := 17) rfl)
theorem tw_17_18 : (.instanceMethod yX7_paper : Cond) ∈ wsL_law := tl_r17 _ (List.mem_of_getElem? (i := 18) rfl)
theorem tw_17_19 : (.selects RX7 yX7_paper yX7_paper : Cond) ∈ wsL_law := tl_r17 _ (List.mem_of_getElem? (i := 19) rfl)
theorem tw_17_20 : (.code yX7_paper cX7_paper 4 (some .boolean) : Cond) ∈ wsL_law := tl_r17 _ (List.mem_of_getElem? (i := 20) rfl)
theorem tw_17_21 : (.fieldLink RX7 124 "GlobeWorksModel" "growsAcross" "I" : Cond) ∈ wsL_law := tl_r17 _ (List.mem_of_getElem? (i := 21) rfl)
theorem tw_17_22 : (.fieldLink RX7 127 "GlobeWorksModel" "growsAlong" "I" : Cond) ∈ wsL_law := tl_r17 _ (List.mem_of_getElem? (i := 22) rfl)
theorem tw_17_23 : (.methodLink RL 53 yX6_drawn : Cond) ∈ wsL_law := tl_r17 _ (List.mem_of_getElem? (i := 23) rfl)
theorem tw_18_0 : (.instanceMethod yX6_drawn : Cond) ∈ wsL_law := tl_r18 _ (List.mem_of_getElem? (i := 0) rfl)
theorem tw_18_1 : (.selects RX6 yX6_drawn yX6_drawn : Cond) ∈ wsL_law := tl_r18 _ (List.mem_of_getElem? (i := 1) rfl)
theorem tw_18_2 : (.code yX6_drawn cX6_drawn 3 (some .int) : Cond) ∈ wsL_law := tl_r18 _ (List.mem_of_getElem? (i := 2) rfl)
theorem tw_18_3 : (.methodLink RX6 147 yX6_isOnPaper : Cond) ∈ wsL_law := tl_r18 _ (List.mem_of_getElem? (i := 3) rfl)
theorem tw_18_4 : (.static yX6_isOnPaper : Cond) ∈ wsL_law := tl_r18 _ (List.mem_of_getElem? (i := 4) rfl)
theorem tw_18_5 : (.code yX6_isOnPaper cX6_isOnPaper 2 (some .boolean) : Cond) ∈ wsL_law := tl_r18 _ (List.mem_of_getElem? (i := 5) rfl)
theorem tw_18_6 : (.methodLink RX6 150 yX6_grownThousand : Cond) ∈ wsL_law := tl_r18 _ (List.mem_of_getElem? (i := 6) rfl)
theorem tw_18_7 : (.instanceMethod yX6_grownThousand : Cond) ∈ wsL_law := tl_r18 _ (List.mem_of_getElem? (i := 7) rfl)
theorem tw_18_8 : (.selects RX6 yX6_grownThousand yX6_grownThousand : Cond) ∈ wsL_law := tl_r18 _ (List.mem_of_getElem? (i := 8) rfl)
theorem tw_18_9 : (.code yX6_grownThousand cX6_grownThousand 2 (some .int) : Cond) ∈ wsL_law := tl_r18 _ (List.mem_of_getElem? (i := 9) rfl)
theorem tw_18_10 : (.methodLink RX6 153 yX6_roundBy : Cond) ∈ wsL_law := tl_r18 _ (List.mem_of_getElem? (i := 10) rfl)
theorem tw_18_11 : (.methodLink RL 56 yX7_drawn : Cond) ∈ wsL_law := tl_r18 _ (List.mem_of_getElem? (i := 11) rfl)
theorem tw_18_12 : (.instanceMethod yX7_drawn : Cond) ∈ wsL_law := tl_r18 _ (List.mem_of_getElem? (i := 12) rfl)
theorem tw_18_13 : (.selects RX7 yX7_drawn yX7_drawn : Cond) ∈ wsL_law := tl_r18 _ (List.mem_of_getElem? (i := 13) rfl)
theorem tw_18_14 : (.code yX7_drawn cX7_drawn 3 (some .int) : Cond) ∈ wsL_law := tl_r18 _ (List.mem_of_getElem? (i := 14) rfl)
theorem tw_18_15 : (.methodLink RX7 130 yX7_grown : Cond) ∈ wsL_law := tl_r18 _ (List.mem_of_getElem? (i := 15) rfl)
theorem tw_18_16 : (.instanceMethod yX7_grown : Cond) ∈ wsL_law := tl_r18 _ (List.mem_of_getElem? (i := 16) rfl)
theorem tw_18_17 : (.selects RX7 yX7_grown yX7_grown : Cond) ∈ wsL_law := tl_r18 _ (List.mem_of_getElem? (i := 17) rfl)
theorem tw_18_18 : (.code yX7_grown cX7_grown 2 (some .int) : Cond) ∈ wsL_law := tl_r18 _ (List.mem_of_getElem? (i := 18) rfl)
theorem tw_18_19 : (.methodLink RL 57 yX6_wet : Cond) ∈ wsL_law := tl_r18 _ (List.mem_of_getElem? (i := 19) rfl)
theorem tw_18_20 : (.instanceMethod yX6_wet : Cond) ∈ wsL_law := tl_r18 _ (List.mem_of_getElem? (i := 20) rfl)
theorem tw_18_21 : (.selects RX6 yX6_wet yX6_wet : Cond) ∈ wsL_law := tl_r18 _ (List.mem_of_getElem? (i := 21) rfl)
theorem tw_18_22 : (.code yX6_wet cX6_wet 3 (some .int) : Cond) ∈ wsL_law := tl_r18 _ (List.mem_of_getElem? (i := 22) rfl)
theorem tw_18_23 : (.methodLink RL 60 yX7_wet : Cond) ∈ wsL_law := tl_r18 _ (List.mem_of_getElem? (i := 23) rfl)
theorem tw_19_0 : (.instanceMethod yX7_wet : Cond) ∈ wsL_law := tl_r19 _ (List.mem_of_getElem? (i := 0) rfl)
theorem tw_19_1 : (.selects RX7 yX7_wet yX7_wet : Cond) ∈ wsL_law := tl_r19 _ (List.mem_of_getElem? (i := 1) rfl)
theorem tw_19_2 : (.code yX7_wet cX7_wet 3 (some .int) : Cond) ∈ wsL_law := tl_r19 _ (List.mem_of_getElem? (i := 2) rfl)
theorem tw_19_3 : (.methodLink RL 61 yX6_name : Cond) ∈ wsL_law := tl_r19 _ (List.mem_of_getElem? (i := 3) rfl)
theorem tw_19_4 : (.instanceMethod yX6_name : Cond) ∈ wsL_law := tl_r19 _ (List.mem_of_getElem? (i := 4) rfl)
theorem tw_19_5 : (.selects RX6 yX6_name yX6_name : Cond) ∈ wsL_law := tl_r19 _ (List.mem_of_getElem? (i := 5) rfl)
theorem tw_19_6 : (.code yX6_name cX6_name 10 (some .int) : Cond) ∈ wsL_law := tl_r19 _ (List.mem_of_getElem? (i := 6) rfl)
theorem tw_19_7 : (.fieldLink RX6 156 "GlobeWorks$Gore" "names" "Ljava/util/ArrayList;" : Cond) ∈ wsL_law := tl_r19 _ (List.mem_of_getElem? (i := 7) rfl)
theorem tw_19_8 : (.classLink RX6 160 RX2 : Cond) ∈ wsL_law := tl_r19 _ (List.mem_of_getElem? (i := 8) rfl)
theorem tw_19_9 : (.instantiable RX2 9 : Cond) ∈ wsL_law := tl_r19 _ (List.mem_of_getElem? (i := 9) rfl)
theorem tw_19_10 : (.initialized RX2 : Cond) ∈ wsL_law := tl_r19 _ (List.mem_of_getElem? (i := 10) rfl)
theorem tw_19_11 : (.fieldLink RX6 169 "GlobeWorks$Name" "ways" "I" : Cond) ∈ wsL_law := tl_r19 _ (List.mem_of_getElem? (i := 11) rfl)
theorem tw_19_12 : (.methodLink RX6 162 yX2_init : Cond) ∈ wsL_law := tl_r19 _ (List.mem_of_getElem? (i := 12) rfl)
theorem tw_19_13 : (.instanceMethod yX2_init : Cond) ∈ wsL_law := tl_r19 _ (List.mem_of_getElem? (i := 13) rfl)
theorem tw_19_14 : (.code yX2_init cX2_init 7 none : Cond) ∈ wsL_law := tl_r19 _ (List.mem_of_getElem? (i := 14) rfl)
theorem tw_19_15 : (.methodLink RX2 3 objectInit : Cond) ∈ wsL_law := tl_r19 _ (List.mem_of_getElem? (i := 15) rfl)
theorem tw_19_16 : (.fieldLink RX2 9 "GlobeWorks$Name" "gore" "I" : Cond) ∈ wsL_law := tl_r19 _ (List.mem_of_getElem? (i := 16) rfl)
theorem tw_19_17 : (.fieldLink RX2 15 "GlobeWorks$Name" "side" "I" : Cond) ∈ wsL_law := tl_r19 _ (List.mem_of_getElem? (i := 17) rfl)
theorem tw_19_18 : (.fieldLink RX2 18 "GlobeWorks$Name" "height" "I" : Cond) ∈ wsL_law := tl_r19 _ (List.mem_of_getElem? (i := 18) rfl)
theorem tw_19_19 : (.fieldLink RX2 21 "GlobeWorks$Name" "x" "I" : Cond) ∈ wsL_law := tl_r19 _ (List.mem_of_getElem? (i := 19) rfl)
theorem tw_19_20 : (.fieldLink RX2 24 "GlobeWorks$Name" "letters" "I" : Cond) ∈ wsL_law := tl_r19 _ (List.mem_of_getElem? (i := 20) rfl)
theorem tw_19_21 : (.fieldLink RX2 27 "GlobeWorks$Name" "price" "I" : Cond) ∈ wsL_law := tl_r19 _ (List.mem_of_getElem? (i := 21) rfl)
theorem tw_19_22 : (.methodLink RX6 165 yX6_waysWithinEdges : Cond) ∈ wsL_law := tl_r19 _ (List.mem_of_getElem? (i := 22) rfl)
theorem tw_19_23 : (.instanceMethod yX6_waysWithinEdges : Cond) ∈ wsL_law := tl_r19 _ (List.mem_of_getElem? (i := 23) rfl)
theorem tw_20_0 : (.selects RX6 yX6_waysWithinEdges yX6_waysWithinEdges : Cond) ∈ wsL_law := tl_r20 _ (List.mem_of_getElem? (i := 0) rfl)
theorem tw_20_1 : (.code yX6_waysWithinEdges cX6_waysWithinEdges 5 (some .int) : Cond) ∈ wsL_law := tl_r20 _ (List.mem_of_getElem? (i := 1) rfl)
theorem tw_20_2 : (.methodLink RX6 277 yX2_bottom : Cond) ∈ wsL_law := tl_r20 _ (List.mem_of_getElem? (i := 2) rfl)
theorem tw_20_3 : (.instanceMethod yX2_bottom : Cond) ∈ wsL_law := tl_r20 _ (List.mem_of_getElem? (i := 3) rfl)
theorem tw_20_4 : (.selects RX2 yX2_bottom yX2_bottom : Cond) ∈ wsL_law := tl_r20 _ (List.mem_of_getElem? (i := 4) rfl)
theorem tw_20_5 : (.code yX2_bottom cX2_bottom 2 (some .int) : Cond) ∈ wsL_law := tl_r20 _ (List.mem_of_getElem? (i := 5) rfl)
theorem tw_20_6 : (.methodLink RX6 280 yX6_isWithinEdges : Cond) ∈ wsL_law := tl_r20 _ (List.mem_of_getElem? (i := 6) rfl)
theorem tw_20_7 : (.instanceMethod yX6_isWithinEdges : Cond) ∈ wsL_law := tl_r20 _ (List.mem_of_getElem? (i := 7) rfl)
theorem tw_20_8 : (.selects RX6 yX6_isWithinEdges yX6_isWithinEdges : Cond) ∈ wsL_law := tl_r20 _ (List.mem_of_getElem? (i := 8) rfl)
theorem tw_20_9 : (.code yX6_isWithinEdges cX6_isWithinEdges 5 (some .boolean) : Cond) ∈ wsL_law := tl_r20 _ (List.mem_of_getElem? (i := 9) rfl)
theorem tw_20_10 : (.methodLink RX6 284 yX2_left : Cond) ∈ wsL_law := tl_r20 _ (List.mem_of_getElem? (i := 10) rfl)
theorem tw_20_11 : (.instanceMethod yX2_left : Cond) ∈ wsL_law := tl_r20 _ (List.mem_of_getElem? (i := 11) rfl)
theorem tw_20_12 : (.selects RX2 yX2_left yX2_left : Cond) ∈ wsL_law := tl_r20 _ (List.mem_of_getElem? (i := 12) rfl)
theorem tw_20_13 : (.code yX2_left cX2_left 2 (some .int) : Cond) ∈ wsL_law := tl_r20 _ (List.mem_of_getElem? (i := 13) rfl)
theorem tw_20_14 : (.methodLink RX6 287 yX2_right : Cond) ∈ wsL_law := tl_r20 _ (List.mem_of_getElem? (i := 14) rfl)
theorem tw_20_15 : (.instanceMethod yX2_right : Cond) ∈ wsL_law := tl_r20 _ (List.mem_of_getElem? (i := 15) rfl)
theorem tw_20_16 : (.selects RX2 yX2_right yX2_right : Cond) ∈ wsL_law := tl_r20 _ (List.mem_of_getElem? (i := 16) rfl)
theorem tw_20_17 : (.code yX2_right cX2_right 2 (some .int) : Cond) ∈ wsL_law := tl_r20 _ (List.mem_of_getElem? (i := 17) rfl)
theorem tw_20_18 : (.methodLink RX2 33 yX2_left : Cond) ∈ wsL_law := tl_r20 _ (List.mem_of_getElem? (i := 18) rfl)
theorem tw_20_19 : (.methodLink RX6 172 yX6_changeNames : Cond) ∈ wsL_law := tl_r20 _ (List.mem_of_getElem? (i := 19) rfl)
theorem tw_20_20 : (.instanceMethod yX6_changeNames : Cond) ∈ wsL_law := tl_r20 _ (List.mem_of_getElem? (i := 20) rfl)
theorem tw_20_21 : (.selects RX6 yX6_changeNames yX6_changeNames : Cond) ∈ wsL_law := tl_r20 _ (List.mem_of_getElem? (i := 21) rfl)
theorem tw_20_22 : (.code yX6_changeNames cX6_changeNames 3 none : Cond) ∈ wsL_law := tl_r20 _ (List.mem_of_getElem? (i := 22) rfl)
theorem tw_20_23 : (.fieldLink RX6 290 "GlobeWorks$Search" "leastCost" "I" : Cond) ∈ wsL_law := tl_r20 _ (List.mem_of_getElem? (i := 23) rfl)
theorem tw_21_0 : (.fieldLink RX6 297 "GlobeWorks$Search" "best" "[I" : Cond) ∈ wsL_law := tl_r21 _ (List.mem_of_getElem? (i := 0) rfl)
theorem tw_21_1 : (.classLink RX6 160 "GlobeWorks$Name" : Cond) ∈ wsL_law := tl_r21 _ (List.mem_of_getElem? (i := 1) rfl)
theorem tw_21_2 : (.fieldLink RX6 193 "GlobeWorks$Name" "setWay" "I" : Cond) ∈ wsL_law := tl_r21 _ (List.mem_of_getElem? (i := 2) rfl)
theorem tw_21_3 : (.fieldLink RX6 196 "GlobeWorks$Gore" "settingCost" "I" : Cond) ∈ wsL_law := tl_r21 _ (List.mem_of_getElem? (i := 3) rfl)
theorem tw_21_4 : (.methodLink RX6 293 yX6_tryWays : Cond) ∈ wsL_law := tl_r21 _ (List.mem_of_getElem? (i := 4) rfl)
theorem tw_21_5 : (.static yX6_tryWays : Cond) ∈ wsL_law := tl_r21 _ (List.mem_of_getElem? (i := 5) rfl)
theorem tw_21_6 : (.code yX6_tryWays cX6_tryWays 6 none : Cond) ∈ wsL_law := tl_r21 _ (List.mem_of_getElem? (i := 6) rfl)
theorem tw_21_7 : (.fieldLink RX6 308 "GlobeWorks$Search" "trial" "[I" : Cond) ∈ wsL_law := tl_r21 _ (List.mem_of_getElem? (i := 7) rfl)
theorem tw_21_8 : (.methodLink RX6 300 yX4_keep : Cond) ∈ wsL_law := tl_r21 _ (List.mem_of_getElem? (i := 8) rfl)
theorem tw_21_9 : (.instanceMethod yX4_keep : Cond) ∈ wsL_law := tl_r21 _ (List.mem_of_getElem? (i := 9) rfl)
theorem tw_21_10 : (.selects RX4 yX4_keep yX4_keep : Cond) ∈ wsL_law := tl_r21 _ (List.mem_of_getElem? (i := 10) rfl)
theorem tw_21_11 : (.code yX4_keep cX4_keep 2 none : Cond) ∈ wsL_law := tl_r21 _ (List.mem_of_getElem? (i := 11) rfl)
theorem tw_21_12 : (.methodLink RX4 18 arraycopyName : Cond) ∈ wsL_law := tl_r21 _ (List.mem_of_getElem? (i := 12) rfl)
theorem tw_21_13 : (.fieldLink RX4 24 "GlobeWorks$Search" "leastCost" "I" : Cond) ∈ wsL_law := tl_r21 _ (List.mem_of_getElem? (i := 13) rfl)
theorem tw_21_14 : (.methodLink RX6 190 yX2_allows : Cond) ∈ wsL_law := tl_r21 _ (List.mem_of_getElem? (i := 14) rfl)
theorem tw_21_15 : (.instanceMethod yX2_allows : Cond) ∈ wsL_law := tl_r21 _ (List.mem_of_getElem? (i := 15) rfl)
theorem tw_21_16 : (.selects RX2 yX2_allows yX2_allows : Cond) ∈ wsL_law := tl_r21 _ (List.mem_of_getElem? (i := 16) rfl)
theorem tw_21_17 : (.code yX2_allows cX2_allows 2 (some .boolean) : Cond) ∈ wsL_law := tl_r21 _ (List.mem_of_getElem? (i := 17) rfl)
theorem tw_21_18 : (.fieldLink RX2 30 "GlobeWorks$Name" "ways" "I" : Cond) ∈ wsL_law := tl_r21 _ (List.mem_of_getElem? (i := 18) rfl)
theorem tw_21_19 : (.methodLink RX6 304 yX6_isClear : Cond) ∈ wsL_law := tl_r21 _ (List.mem_of_getElem? (i := 19) rfl)
theorem tw_21_20 : (.static yX6_isClear : Cond) ∈ wsL_law := tl_r21 _ (List.mem_of_getElem? (i := 20) rfl)
theorem tw_21_21 : (.code yX6_isClear cX6_isClear 6 (some .boolean) : Cond) ∈ wsL_law := tl_r21 _ (List.mem_of_getElem? (i := 21) rfl)
theorem tw_21_22 : (.methodLink RX6 314 yX2_covers : Cond) ∈ wsL_law := tl_r21 _ (List.mem_of_getElem? (i := 22) rfl)
theorem tw_21_23 : (.instanceMethod yX2_covers : Cond) ∈ wsL_law := tl_r21 _ (List.mem_of_getElem? (i := 23) rfl)
theorem tw_22_0 : (.selects RX2 yX2_covers yX2_covers : Cond) ∈ wsL_law := tl_r22 _ (List.mem_of_getElem? (i := 0) rfl)
theorem tw_22_1 : (.code yX2_covers cX2_covers 4 (some .boolean) : Cond) ∈ wsL_law := tl_r22 _ (List.mem_of_getElem? (i := 1) rfl)
theorem tw_22_2 : (.methodLink RX2 43 Lib.Math.abs.name : Cond) ∈ wsL_law := tl_r22 _ (List.mem_of_getElem? (i := 2) rfl)
theorem tw_22_3 : (.methodLink RX2 37 yX2_right : Cond) ∈ wsL_law := tl_r22 _ (List.mem_of_getElem? (i := 3) rfl)
theorem tw_22_4 : (.methodLink RX2 40 yX2_bottom : Cond) ∈ wsL_law := tl_r22 _ (List.mem_of_getElem? (i := 4) rfl)
theorem tw_22_5 : (.methodLink RX6 311 yX2_costOf : Cond) ∈ wsL_law := tl_r22 _ (List.mem_of_getElem? (i := 5) rfl)
theorem tw_22_6 : (.instanceMethod yX2_costOf : Cond) ∈ wsL_law := tl_r22 _ (List.mem_of_getElem? (i := 6) rfl)
theorem tw_22_7 : (.selects RX2 yX2_costOf yX2_costOf : Cond) ∈ wsL_law := tl_r22 _ (List.mem_of_getElem? (i := 7) rfl)
theorem tw_22_8 : (.code yX2_costOf cX2_costOf 2 (some .int) : Cond) ∈ wsL_law := tl_r22 _ (List.mem_of_getElem? (i := 8) rfl)
theorem tw_22_9 : (.methodLink RL 65 yX7_name : Cond) ∈ wsL_law := tl_r22 _ (List.mem_of_getElem? (i := 9) rfl)
theorem tw_22_10 : (.instanceMethod yX7_name : Cond) ∈ wsL_law := tl_r22 _ (List.mem_of_getElem? (i := 10) rfl)
theorem tw_22_11 : (.selects RX7 yX7_name yX7_name : Cond) ∈ wsL_law := tl_r22 _ (List.mem_of_getElem? (i := 11) rfl)
theorem tw_22_12 : (.code yX7_name cX7_name 6 (some .int) : Cond) ∈ wsL_law := tl_r22 _ (List.mem_of_getElem? (i := 12) rfl)
theorem tw_22_13 : (.fieldLink RX7 133 "GlobeWorksModel" "names" "I" : Cond) ∈ wsL_law := tl_r22 _ (List.mem_of_getElem? (i := 13) rfl)
theorem tw_22_14 : (.methodLink RX7 136 yX7_namesIn : Cond) ∈ wsL_law := tl_r22 _ (List.mem_of_getElem? (i := 14) rfl)
theorem tw_22_15 : (.instanceMethod yX7_namesIn : Cond) ∈ wsL_law := tl_r22 _ (List.mem_of_getElem? (i := 15) rfl)
theorem tw_22_16 : (.selects RX7 yX7_namesIn yX7_namesIn : Cond) ∈ wsL_law := tl_r22 _ (List.mem_of_getElem? (i := 16) rfl)
theorem tw_22_17 : (.code yX7_namesIn cX7_namesIn 4 (some .int) : Cond) ∈ wsL_law := tl_r22 _ (List.mem_of_getElem? (i := 17) rfl)
theorem tw_22_18 : (.methodLink RL 66 yX6_strike : Cond) ∈ wsL_law := tl_r22 _ (List.mem_of_getElem? (i := 18) rfl)
theorem tw_22_19 : (.instanceMethod yX6_strike : Cond) ∈ wsL_law := tl_r22 _ (List.mem_of_getElem? (i := 19) rfl)
theorem tw_22_20 : (.selects RX6 yX6_strike yX6_strike : Cond) ∈ wsL_law := tl_r22 _ (List.mem_of_getElem? (i := 20) rfl)
theorem tw_22_21 : (.code yX6_strike cX6_strike 4 (some .boolean) : Cond) ∈ wsL_law := tl_r22 _ (List.mem_of_getElem? (i := 21) rfl)
theorem tw_22_22 : (.fieldLink RX6 180 "GlobeWorks$Name" "isStruck" "Z" : Cond) ∈ wsL_law := tl_r22 _ (List.mem_of_getElem? (i := 22) rfl)
theorem tw_22_23 : (.fieldLink RX6 183 "GlobeWorks$Name" "gore" "I" : Cond) ∈ wsL_law := tl_r22 _ (List.mem_of_getElem? (i := 23) rfl)
theorem tw_23_0 : (.methodLink RX6 176 yX6_nameOf : Cond) ∈ wsL_law := tl_r23 _ (List.mem_of_getElem? (i := 0) rfl)
theorem tw_23_1 : (.instanceMethod yX6_nameOf : Cond) ∈ wsL_law := tl_r23 _ (List.mem_of_getElem? (i := 1) rfl)
theorem tw_23_2 : (.selects RX6 yX6_nameOf yX6_nameOf : Cond) ∈ wsL_law := tl_r23 _ (List.mem_of_getElem? (i := 2) rfl)
theorem tw_23_3 : (.code yX6_nameOf cX6_nameOf 3 (some (.object "GlobeWorks$Name")) : Cond) ∈ wsL_law := tl_r23 _ (List.mem_of_getElem? (i := 3) rfl)
theorem tw_23_4 : (.methodLink RX6 186 yX1_takeOut : Cond) ∈ wsL_law := tl_r23 _ (List.mem_of_getElem? (i := 4) rfl)
theorem tw_23_5 : (.instanceMethod yX1_takeOut : Cond) ∈ wsL_law := tl_r23 _ (List.mem_of_getElem? (i := 5) rfl)
theorem tw_23_6 : (.selects RX1 yX1_takeOut yX1_takeOut : Cond) ∈ wsL_law := tl_r23 _ (List.mem_of_getElem? (i := 6) rfl)
theorem tw_23_7 : (.code yX1_takeOut cX1_takeOut 3 none : Cond) ∈ wsL_law := tl_r23 _ (List.mem_of_getElem? (i := 7) rfl)
theorem tw_23_8 : (.methodLink RX1 23 yJx4a65c_size_8abf5 : Cond) ∈ wsL_law := tl_r23 _ (List.mem_of_getElem? (i := 8) rfl)
theorem tw_23_9 : (.methodLink RX1 27 yJx4a65c_get_915e3 : Cond) ∈ wsL_law := tl_r23 _ (List.mem_of_getElem? (i := 9) rfl)
theorem tw_23_10 : (.methodLink RX1 31 yJx4a65c_remove_915e3 : Cond) ∈ wsL_law := tl_r23 _ (List.mem_of_getElem? (i := 10) rfl)
theorem tw_23_11 : (.instanceMethod yJx4a65c_remove_915e3 : Cond) ∈ wsL_law := tl_r23 _ (List.mem_of_getElem? (i := 11) rfl)
theorem tw_23_12 : (.selects RJx4a65c yJx4a65c_remove_915e3 yJx4a65c_remove_915e3 : Cond) ∈ wsL_law := tl_r23 _ (List.mem_of_getElem? (i := 12) rfl)
theorem tw_23_13 : (.code yJx4a65c_remove_915e3 cJx4a65c_remove_915e3 4 (some (.object "java/lang/Object")) : Cond) ∈ wsL_law := tl_r23 _ (List.mem_of_getElem? (i := 13) rfl)
theorem tw_23_14 : (.methodLink RJx4a65c 144 yJx4a65c_fastRemove_b59b0 : Cond) ∈ wsL_law := tl_r23 _ (List.mem_of_getElem? (i := 14) rfl)
theorem tw_23_15 : (.instanceMethod yJx4a65c_fastRemove_b59b0 : Cond) ∈ wsL_law := tl_r23 _ (List.mem_of_getElem? (i := 15) rfl)
theorem tw_23_16 : (.selects RJx4a65c yJx4a65c_fastRemove_b59b0 yJx4a65c_fastRemove_b59b0 : Cond) ∈ wsL_law := tl_r23 _ (List.mem_of_getElem? (i := 16) rfl)
theorem tw_23_17 : (.code yJx4a65c_fastRemove_b59b0 cJx4a65c_fastRemove_b59b0 4 none : Cond) ∈ wsL_law := tl_r23 _ (List.mem_of_getElem? (i := 17) rfl)
theorem tw_23_18 : (.methodLink RJx4a65c 112 arraycopyName : Cond) ∈ wsL_law := tl_r23 _ (List.mem_of_getElem? (i := 18) rfl)
theorem tw_23_19 : (.methodLink RL 70 yX7_strike : Cond) ∈ wsL_law := tl_r23 _ (List.mem_of_getElem? (i := 19) rfl)
theorem tw_23_20 : (.instanceMethod yX7_strike : Cond) ∈ wsL_law := tl_r23 _ (List.mem_of_getElem? (i := 20) rfl)
theorem tw_23_21 : (.selects RX7 yX7_strike yX7_strike : Cond) ∈ wsL_law := tl_r23 _ (List.mem_of_getElem? (i := 21) rfl)
theorem tw_23_22 : (.code yX7_strike cX7_strike 2 (some .boolean) : Cond) ∈ wsL_law := tl_r23 _ (List.mem_of_getElem? (i := 22) rfl)
theorem tw_23_23 : (.methodLink RX7 139 yX7_isName : Cond) ∈ wsL_law := tl_r23 _ (List.mem_of_getElem? (i := 23) rfl)
theorem tw_24_0 : (.instanceMethod yX7_isName : Cond) ∈ wsL_law := tl_r24 _ (List.mem_of_getElem? (i := 0) rfl)
theorem tw_24_1 : (.selects RX7 yX7_isName yX7_isName : Cond) ∈ wsL_law := tl_r24 _ (List.mem_of_getElem? (i := 1) rfl)
theorem tw_24_2 : (.code yX7_isName cX7_isName 2 (some .boolean) : Cond) ∈ wsL_law := tl_r24 _ (List.mem_of_getElem? (i := 2) rfl)
theorem tw_24_3 : (.methodLink RL 71 yX6_may : Cond) ∈ wsL_law := tl_r24 _ (List.mem_of_getElem? (i := 3) rfl)
theorem tw_24_4 : (.instanceMethod yX6_may : Cond) ∈ wsL_law := tl_r24 _ (List.mem_of_getElem? (i := 4) rfl)
theorem tw_24_5 : (.selects RX6 yX6_may yX6_may : Cond) ∈ wsL_law := tl_r24 _ (List.mem_of_getElem? (i := 5) rfl)
theorem tw_24_6 : (.code yX6_may cX6_may 4 (some .boolean) : Cond) ∈ wsL_law := tl_r24 _ (List.mem_of_getElem? (i := 6) rfl)
theorem tw_24_7 : (.methodLink RL 74 yX7_may : Cond) ∈ wsL_law := tl_r24 _ (List.mem_of_getElem? (i := 7) rfl)
theorem tw_24_8 : (.instanceMethod yX7_may : Cond) ∈ wsL_law := tl_r24 _ (List.mem_of_getElem? (i := 8) rfl)
theorem tw_24_9 : (.selects RX7 yX7_may yX7_may : Cond) ∈ wsL_law := tl_r24 _ (List.mem_of_getElem? (i := 9) rfl)
theorem tw_24_10 : (.code yX7_may cX7_may 3 (some .boolean) : Cond) ∈ wsL_law := tl_r24 _ (List.mem_of_getElem? (i := 10) rfl)
theorem tw_24_11 : (.methodLink RX7 151 yX7_canBe : Cond) ∈ wsL_law := tl_r24 _ (List.mem_of_getElem? (i := 11) rfl)
theorem tw_24_12 : (.instanceMethod yX7_canBe : Cond) ∈ wsL_law := tl_r24 _ (List.mem_of_getElem? (i := 12) rfl)
theorem tw_24_13 : (.selects RX7 yX7_canBe yX7_canBe : Cond) ∈ wsL_law := tl_r24 _ (List.mem_of_getElem? (i := 13) rfl)
theorem tw_24_14 : (.code yX7_canBe cX7_canBe 6 (some .boolean) : Cond) ∈ wsL_law := tl_r24 _ (List.mem_of_getElem? (i := 14) rfl)
theorem tw_24_15 : (.methodLink RX7 142 yX7_left : Cond) ∈ wsL_law := tl_r24 _ (List.mem_of_getElem? (i := 15) rfl)
theorem tw_24_16 : (.instanceMethod yX7_left : Cond) ∈ wsL_law := tl_r24 _ (List.mem_of_getElem? (i := 16) rfl)
theorem tw_24_17 : (.selects RX7 yX7_left yX7_left : Cond) ∈ wsL_law := tl_r24 _ (List.mem_of_getElem? (i := 17) rfl)
theorem tw_24_18 : (.code yX7_left cX7_left 4 (some .int) : Cond) ∈ wsL_law := tl_r24 _ (List.mem_of_getElem? (i := 18) rfl)
theorem tw_24_19 : (.methodLink RX7 145 yX7_low : Cond) ∈ wsL_law := tl_r24 _ (List.mem_of_getElem? (i := 19) rfl)
theorem tw_24_20 : (.instanceMethod yX7_low : Cond) ∈ wsL_law := tl_r24 _ (List.mem_of_getElem? (i := 20) rfl)
theorem tw_24_21 : (.selects RX7 yX7_low yX7_low : Cond) ∈ wsL_law := tl_r24 _ (List.mem_of_getElem? (i := 21) rfl)
theorem tw_24_22 : (.code yX7_low cX7_low 3 (some .int) : Cond) ∈ wsL_law := tl_r24 _ (List.mem_of_getElem? (i := 22) rfl)
theorem tw_24_23 : (.methodLink RX7 148 yX7_isWithin : Cond) ∈ wsL_law := tl_r24 _ (List.mem_of_getElem? (i := 23) rfl)
theorem tw_25_0 : (.instanceMethod yX7_isWithin : Cond) ∈ wsL_law := tl_r25 _ (List.mem_of_getElem? (i := 0) rfl)
theorem tw_25_1 : (.selects RX7 yX7_isWithin yX7_isWithin : Cond) ∈ wsL_law := tl_r25 _ (List.mem_of_getElem? (i := 1) rfl)
theorem tw_25_2 : (.code yX7_isWithin cX7_isWithin 4 (some .boolean) : Cond) ∈ wsL_law := tl_r25 _ (List.mem_of_getElem? (i := 2) rfl)
theorem tw_25_3 : (.methodLink RL 75 yX6_set : Cond) ∈ wsL_law := tl_r25 _ (List.mem_of_getElem? (i := 3) rfl)
theorem tw_25_4 : (.instanceMethod yX6_set : Cond) ∈ wsL_law := tl_r25 _ (List.mem_of_getElem? (i := 4) rfl)
theorem tw_25_5 : (.selects RX6 yX6_set yX6_set : Cond) ∈ wsL_law := tl_r25 _ (List.mem_of_getElem? (i := 5) rfl)
theorem tw_25_6 : (.code yX6_set cX6_set 3 (some .int) : Cond) ∈ wsL_law := tl_r25 _ (List.mem_of_getElem? (i := 6) rfl)
theorem tw_25_7 : (.methodLink RL 78 yX7_set : Cond) ∈ wsL_law := tl_r25 _ (List.mem_of_getElem? (i := 7) rfl)
theorem tw_25_8 : (.instanceMethod yX7_set : Cond) ∈ wsL_law := tl_r25 _ (List.mem_of_getElem? (i := 8) rfl)
theorem tw_25_9 : (.selects RX7 yX7_set yX7_set : Cond) ∈ wsL_law := tl_r25 _ (List.mem_of_getElem? (i := 9) rfl)
theorem tw_25_10 : (.code yX7_set cX7_set 4 (some .int) : Cond) ∈ wsL_law := tl_r25 _ (List.mem_of_getElem? (i := 10) rfl)
theorem tw_25_11 : (.methodLink RX7 164 yX7_sets : Cond) ∈ wsL_law := tl_r25 _ (List.mem_of_getElem? (i := 11) rfl)
theorem tw_25_12 : (.instanceMethod yX7_sets : Cond) ∈ wsL_law := tl_r25 _ (List.mem_of_getElem? (i := 12) rfl)
theorem tw_25_13 : (.selects RX7 yX7_sets yX7_sets : Cond) ∈ wsL_law := tl_r25 _ (List.mem_of_getElem? (i := 13) rfl)
theorem tw_25_14 : (.code yX7_sets cX7_sets 8 (some .int) : Cond) ∈ wsL_law := tl_r25 _ (List.mem_of_getElem? (i := 14) rfl)
theorem tw_25_15 : (.fieldLink RX7 154 "GlobeWorksModel" "bestCost" "I" : Cond) ∈ wsL_law := tl_r25 _ (List.mem_of_getElem? (i := 15) rfl)
theorem tw_25_16 : (.methodLink RX7 157 yX7_isGood : Cond) ∈ wsL_law := tl_r25 _ (List.mem_of_getElem? (i := 16) rfl)
theorem tw_25_17 : (.instanceMethod yX7_isGood : Cond) ∈ wsL_law := tl_r25 _ (List.mem_of_getElem? (i := 17) rfl)
theorem tw_25_18 : (.selects RX7 yX7_isGood yX7_isGood : Cond) ∈ wsL_law := tl_r25 _ (List.mem_of_getElem? (i := 18) rfl)
theorem tw_25_19 : (.code yX7_isGood cX7_isGood 4 (some .boolean) : Cond) ∈ wsL_law := tl_r25 _ (List.mem_of_getElem? (i := 19) rfl)
theorem tw_25_20 : (.methodLink RX7 160 yX7_areApart : Cond) ∈ wsL_law := tl_r25 _ (List.mem_of_getElem? (i := 20) rfl)
theorem tw_25_21 : (.instanceMethod yX7_areApart : Cond) ∈ wsL_law := tl_r25 _ (List.mem_of_getElem? (i := 21) rfl)
theorem tw_25_22 : (.selects RX7 yX7_areApart yX7_areApart : Cond) ∈ wsL_law := tl_r25 _ (List.mem_of_getElem? (i := 22) rfl)
theorem tw_25_23 : (.code yX7_areApart cX7_areApart 7 (some .boolean) : Cond) ∈ wsL_law := tl_r25 _ (List.mem_of_getElem? (i := 23) rfl)
theorem tw_26_0 : (.methodLink RL 79 yX6_cost : Cond) ∈ wsL_law := tl_r26 _ (List.mem_of_getElem? (i := 0) rfl)
theorem tw_26_1 : (.instanceMethod yX6_cost : Cond) ∈ wsL_law := tl_r26 _ (List.mem_of_getElem? (i := 1) rfl)
theorem tw_26_2 : (.selects RX6 yX6_cost yX6_cost : Cond) ∈ wsL_law := tl_r26 _ (List.mem_of_getElem? (i := 2) rfl)
theorem tw_26_3 : (.code yX6_cost cX6_cost 3 (some .int) : Cond) ∈ wsL_law := tl_r26 _ (List.mem_of_getElem? (i := 3) rfl)
theorem tw_26_4 : (.methodLink RL 82 yX7_cost : Cond) ∈ wsL_law := tl_r26 _ (List.mem_of_getElem? (i := 4) rfl)
theorem tw_26_5 : (.instanceMethod yX7_cost : Cond) ∈ wsL_law := tl_r26 _ (List.mem_of_getElem? (i := 5) rfl)
theorem tw_26_6 : (.selects RX7 yX7_cost yX7_cost : Cond) ∈ wsL_law := tl_r26 _ (List.mem_of_getElem? (i := 6) rfl)
theorem tw_26_7 : (.code yX7_cost cX7_cost 2 (some .int) : Cond) ∈ wsL_law := tl_r26 _ (List.mem_of_getElem? (i := 7) rfl)
theorem tw_26_8 : (.methodLink RL 83 yX6_told : Cond) ∈ wsL_law := tl_r26 _ (List.mem_of_getElem? (i := 8) rfl)
theorem tw_26_9 : (.instanceMethod yX6_told : Cond) ∈ wsL_law := tl_r26 _ (List.mem_of_getElem? (i := 9) rfl)
theorem tw_26_10 : (.selects RX6 yX6_told yX6_told : Cond) ∈ wsL_law := tl_r26 _ (List.mem_of_getElem? (i := 10) rfl)
theorem tw_26_11 : (.code yX6_told cX6_told 4 (some .int) : Cond) ∈ wsL_law := tl_r26 _ (List.mem_of_getElem? (i := 11) rfl)
theorem tw_26_12 : (.fieldLink RX6 199 "GlobeWorks$Name" "side" "I" : Cond) ∈ wsL_law := tl_r26 _ (List.mem_of_getElem? (i := 12) rfl)
theorem tw_26_13 : (.fieldLink RX6 202 "GlobeWorks$Name" "height" "I" : Cond) ∈ wsL_law := tl_r26 _ (List.mem_of_getElem? (i := 13) rfl)
theorem tw_26_14 : (.fieldLink RX6 205 "GlobeWorks$Name" "letters" "I" : Cond) ∈ wsL_law := tl_r26 _ (List.mem_of_getElem? (i := 14) rfl)
theorem tw_26_15 : (.fieldLink RX6 208 "GlobeWorks$Name" "price" "I" : Cond) ∈ wsL_law := tl_r26 _ (List.mem_of_getElem? (i := 15) rfl)
theorem tw_26_16 : (.methodLink RL 86 yX7_told : Cond) ∈ wsL_law := tl_r26 _ (List.mem_of_getElem? (i := 16) rfl)
theorem tw_26_17 : (.instanceMethod yX7_told : Cond) ∈ wsL_law := tl_r26 _ (List.mem_of_getElem? (i := 17) rfl)
theorem tw_26_18 : (.selects RX7 yX7_told yX7_told : Cond) ∈ wsL_law := tl_r26 _ (List.mem_of_getElem? (i := 18) rfl)
theorem tw_26_19 : (.code yX7_told cX7_told 3 (some .int) : Cond) ∈ wsL_law := tl_r26 _ (List.mem_of_getElem? (i := 19) rfl)
theorem tw_26_20 : (.methodLink RL 87 yX6_fresh : Cond) ∈ wsL_law := tl_r26 _ (List.mem_of_getElem? (i := 20) rfl)
theorem tw_26_21 : (.instanceMethod yX6_fresh : Cond) ∈ wsL_law := tl_r26 _ (List.mem_of_getElem? (i := 21) rfl)
theorem tw_26_22 : (.selects RX6 yX6_fresh yX6_fresh : Cond) ∈ wsL_law := tl_r26 _ (List.mem_of_getElem? (i := 22) rfl)
theorem tw_26_23 : (.code yX6_fresh cX6_fresh 3 (some .boolean) : Cond) ∈ wsL_law := tl_r26 _ (List.mem_of_getElem? (i := 23) rfl)
theorem tw_27_0 : (.methodLink RL 90 yX7_fresh : Cond) ∈ wsL_law := tl_r27 _ (List.mem_of_getElem? (i := 0) rfl)
theorem tw_27_1 : (.instanceMethod yX7_fresh : Cond) ∈ wsL_law := tl_r27 _ (List.mem_of_getElem? (i := 1) rfl)
theorem tw_27_2 : (.selects RX7 yX7_fresh yX7_fresh : Cond) ∈ wsL_law := tl_r27 _ (List.mem_of_getElem? (i := 2) rfl)
theorem tw_27_3 : (.code yX7_fresh cX7_fresh 2 (some .boolean) : Cond) ∈ wsL_law := tl_r27 _ (List.mem_of_getElem? (i := 3) rfl)
theorem tw_27_4 : (.methodLink RL 91 yX6_edition : Cond) ∈ wsL_law := tl_r27 _ (List.mem_of_getElem? (i := 4) rfl)
theorem tw_27_5 : (.instanceMethod yX6_edition : Cond) ∈ wsL_law := tl_r27 _ (List.mem_of_getElem? (i := 5) rfl)
theorem tw_27_6 : (.selects RX6 yX6_edition yX6_edition : Cond) ∈ wsL_law := tl_r27 _ (List.mem_of_getElem? (i := 6) rfl)
theorem tw_27_7 : (.code yX6_edition cX6_edition 6 (some .int) : Cond) ∈ wsL_law := tl_r27 _ (List.mem_of_getElem? (i := 7) rfl)
theorem tw_27_8 : (.fieldLink RX6 211 "GlobeWorks" "editions" "I" : Cond) ∈ wsL_law := tl_r27 _ (List.mem_of_getElem? (i := 8) rfl)
theorem tw_27_9 : (.fieldLink RX6 214 "GlobeWorks$Gore" "lastEdition" "I" : Cond) ∈ wsL_law := tl_r27 _ (List.mem_of_getElem? (i := 9) rfl)
theorem tw_27_10 : (.methodLink RL 95 yX7_edition : Cond) ∈ wsL_law := tl_r27 _ (List.mem_of_getElem? (i := 10) rfl)
theorem tw_27_11 : (.instanceMethod yX7_edition : Cond) ∈ wsL_law := tl_r27 _ (List.mem_of_getElem? (i := 11) rfl)
theorem tw_27_12 : (.selects RX7 yX7_edition yX7_edition : Cond) ∈ wsL_law := tl_r27 _ (List.mem_of_getElem? (i := 12) rfl)
theorem tw_27_13 : (.code yX7_edition cX7_edition 3 (some .int) : Cond) ∈ wsL_law := tl_r27 _ (List.mem_of_getElem? (i := 13) rfl)
theorem tw_27_14 : (.fieldLink RX7 167 "GlobeWorksModel" "editions" "I" : Cond) ∈ wsL_law := tl_r27 _ (List.mem_of_getElem? (i := 14) rfl)
theorem tw_27_15 : (.methodLink RL 96 yX6_printed : Cond) ∈ wsL_law := tl_r27 _ (List.mem_of_getElem? (i := 15) rfl)
theorem tw_27_16 : (.instanceMethod yX6_printed : Cond) ∈ wsL_law := tl_r27 _ (List.mem_of_getElem? (i := 16) rfl)
theorem tw_27_17 : (.selects RX6 yX6_printed yX6_printed : Cond) ∈ wsL_law := tl_r27 _ (List.mem_of_getElem? (i := 17) rfl)
theorem tw_27_18 : (.code yX6_printed cX6_printed 3 (some .int) : Cond) ∈ wsL_law := tl_r27 _ (List.mem_of_getElem? (i := 18) rfl)
theorem tw_27_19 : (.methodLink RL 99 yX7_printed : Cond) ∈ wsL_law := tl_r27 _ (List.mem_of_getElem? (i := 19) rfl)
theorem tw_27_20 : (.instanceMethod yX7_printed : Cond) ∈ wsL_law := tl_r27 _ (List.mem_of_getElem? (i := 20) rfl)
theorem tw_27_21 : (.selects RX7 yX7_printed yX7_printed : Cond) ∈ wsL_law := tl_r27 _ (List.mem_of_getElem? (i := 21) rfl)
theorem tw_27_22 : (.code yX7_printed cX7_printed 2 (some .int) : Cond) ∈ wsL_law := tl_r27 _ (List.mem_of_getElem? (i := 22) rfl)
theorem tw_27_23 : (.methodLink RL 100 yX6_count : Cond) ∈ wsL_law := tl_r27 _ (List.mem_of_getElem? (i := 23) rfl)
theorem tw_28_0 : (.instanceMethod yX6_count : Cond) ∈ wsL_law := tl_r28 _ (List.mem_of_getElem? (i := 0) rfl)
theorem tw_28_1 : (.selects RX6 yX6_count yX6_count : Cond) ∈ wsL_law := tl_r28 _ (List.mem_of_getElem? (i := 1) rfl)
theorem tw_28_2 : (.code yX6_count cX6_count 2 (some .int) : Cond) ∈ wsL_law := tl_r28 _ (List.mem_of_getElem? (i := 2) rfl)
theorem tw_28_3 : (.methodLink RX6 217 yX6_namesThere : Cond) ∈ wsL_law := tl_r28 _ (List.mem_of_getElem? (i := 3) rfl)
theorem tw_28_4 : (.instanceMethod yX6_namesThere : Cond) ∈ wsL_law := tl_r28 _ (List.mem_of_getElem? (i := 4) rfl)
theorem tw_28_5 : (.selects RX6 yX6_namesThere yX6_namesThere : Cond) ∈ wsL_law := tl_r28 _ (List.mem_of_getElem? (i := 5) rfl)
theorem tw_28_6 : (.code yX6_namesThere cX6_namesThere 6 (some .int) : Cond) ∈ wsL_law := tl_r28 _ (List.mem_of_getElem? (i := 6) rfl)
theorem tw_28_7 : (.methodLink RX6 220 yX6_freshGores : Cond) ∈ wsL_law := tl_r28 _ (List.mem_of_getElem? (i := 7) rfl)
theorem tw_28_8 : (.instanceMethod yX6_freshGores : Cond) ∈ wsL_law := tl_r28 _ (List.mem_of_getElem? (i := 8) rfl)
theorem tw_28_9 : (.selects RX6 yX6_freshGores yX6_freshGores : Cond) ∈ wsL_law := tl_r28 _ (List.mem_of_getElem? (i := 9) rfl)
theorem tw_28_10 : (.code yX6_freshGores cX6_freshGores 6 (some .int) : Cond) ∈ wsL_law := tl_r28 _ (List.mem_of_getElem? (i := 10) rfl)
theorem tw_28_11 : (.methodLink RL 103 yX7_count : Cond) ∈ wsL_law := tl_r28 _ (List.mem_of_getElem? (i := 11) rfl)
theorem tw_28_12 : (.instanceMethod yX7_count : Cond) ∈ wsL_law := tl_r28 _ (List.mem_of_getElem? (i := 12) rfl)
theorem tw_28_13 : (.selects RX7 yX7_count yX7_count : Cond) ∈ wsL_law := tl_r28 _ (List.mem_of_getElem? (i := 13) rfl)
theorem tw_28_14 : (.code yX7_count cX7_count 4 (some .int) : Cond) ∈ wsL_law := tl_r28 _ (List.mem_of_getElem? (i := 14) rfl)
end
section
/-! THE STATE OF THE SYSTEM, field by field: K the kind of an address (0: nothing known; c + 1: an object of class c of vwCl; 20 an int row, 21 a boolean row, 22 a row of gores, 23 a row of Objects), I the number in a field (32 c + its place), P the reference in a field, L a row's length, R a row of numbers, Q a row of references, N the next address. -/
abbrev HS : Type := (Nat → Nat) × (Nat → Nat → Int32) × (Nat → Nat → Option Nat) × (Nat → Nat) × (Nat → Nat → Int32) × (Nat → Nat → Option Nat) × Nat
def gK (S : HS) (a : Nat) : Nat := S.1 a
def gI (S : HS) (f a : Nat) : Int32 := S.2.1 f a
def gP (S : HS) (f a : Nat) : Option Nat := S.2.2.1 f a
def gL (S : HS) (a : Nat) : Nat := S.2.2.2.1 a
def gR (S : HS) (a : Nat) : Nat → Int32 := S.2.2.2.2.1 a
def gQ (S : HS) (a : Nat) : Nat → Option Nat := S.2.2.2.2.2.1 a
def gN (S : HS) : Nat := S.2.2.2.2.2.2
def uI (S : HS) (f a : Nat) (v : Int32) : HS := (S.1, (fun f' a' => if f' = f ∧ a' = a then v else S.2.1 f' a'), S.2.2)
def uP (S : HS) (f a : Nat) (v : Option Nat) : HS := (S.1, S.2.1, (fun f' a' => if f' = f ∧ a' = a then v else S.2.2.1 f' a'), S.2.2.2)
def uR (S : HS) (a : Nat) (r : Nat → Int32) : HS := (S.1, S.2.1, S.2.2.1, S.2.2.2.1, (fun a' => if a' = a then r else S.2.2.2.2.1 a'), S.2.2.2.2.2)
def uQ (S : HS) (a : Nat) (r : Nat → Option Nat) : HS := (S.1, S.2.1, S.2.2.1, S.2.2.2.1, S.2.2.2.2.1, (fun a' => if a' = a then r else S.2.2.2.2.2.1 a'), S.2.2.2.2.2.2)
def nO (S : HS) (c : Nat) : HS := ((fun a => if a = gN S then c + 1 else S.1 a), (fun f a => if a = gN S then 0 else S.2.1 f a), (fun f a => if a = gN S then none else S.2.2.1 f a), S.2.2.2.1, S.2.2.2.2.1, S.2.2.2.2.2.1, gN S + 1)
def nA (S : HS) (kd n : Nat) : HS := ((fun a => if a = gN S then kd else S.1 a), S.2.1, S.2.2.1, (fun a => if a = gN S then n else S.2.2.2.1 a), (fun a => if a = gN S then (fun _ => 0) else S.2.2.2.2.1 a), (fun a => if a = gN S then (fun _ => none) else S.2.2.2.2.2.1 a), gN S + 1)
theorem gK_uI (S : HS) (f a : Nat) (v : Int32) (b : Nat) : gK (uI S f a v) b = gK S b := rfl
theorem gP_uI (S : HS) (f a : Nat) (v : Int32) (g b : Nat) : gP (uI S f a v) g b = gP S g b := rfl
theorem gL_uI (S : HS) (f a : Nat) (v : Int32) (b : Nat) : gL (uI S f a v) b = gL S b := rfl
theorem gR_uI (S : HS) (f a : Nat) (v : Int32) (b : Nat) : gR (uI S f a v) b = gR S b := rfl
theorem gQ_uI (S : HS) (f a : Nat) (v : Int32) (b : Nat) : gQ (uI S f a v) b = gQ S b := rfl
theorem gN_uI (S : HS) (f a : Nat) (v : Int32) : gN (uI S f a v) = gN S := rfl
theorem gI_uI (S : HS) (f a : Nat) (v : Int32) (g b : Nat) : gI (uI S f a v) g b = if g = f ∧ b = a then v else gI S g b := rfl
theorem gK_uP (S : HS) (f a : Nat) (v : Option Nat) (b : Nat) : gK (uP S f a v) b = gK S b := rfl
theorem gI_uP (S : HS) (f a : Nat) (v : Option Nat) (g b : Nat) : gI (uP S f a v) g b = gI S g b := rfl
theorem gL_uP (S : HS) (f a : Nat) (v : Option Nat) (b : Nat) : gL (uP S f a v) b = gL S b := rfl
theorem gR_uP (S : HS) (f a : Nat) (v : Option Nat) (b : Nat) : gR (uP S f a v) b = gR S b := rfl
theorem gQ_uP (S : HS) (f a : Nat) (v : Option Nat) (b : Nat) : gQ (uP S f a v) b = gQ S b := rfl
theorem gN_uP (S : HS) (f a : Nat) (v : Option Nat) : gN (uP S f a v) = gN S := rfl
theorem gP_uP (S : HS) (f a : Nat) (v : Option Nat) (g b : Nat) : gP (uP S f a v) g b = if g = f ∧ b = a then v else gP S g b := rfl
theorem gK_uR (S : HS) (a : Nat) (r : Nat → Int32) (b : Nat) : gK (uR S a r) b = gK S b := rfl
theorem gI_uR (S : HS) (a : Nat) (r : Nat → Int32) (g b : Nat) : gI (uR S a r) g b = gI S g b := rfl
theorem gP_uR (S : HS) (a : Nat) (r : Nat → Int32) (g b : Nat) : gP (uR S a r) g b = gP S g b := rfl
theorem gL_uR (S : HS) (a : Nat) (r : Nat → Int32) (b : Nat) : gL (uR S a r) b = gL S b := rfl
theorem gQ_uR (S : HS) (a : Nat) (r : Nat → Int32) (b : Nat) : gQ (uR S a r) b = gQ S b := rfl
theorem gN_uR (S : HS) (a : Nat) (r : Nat → Int32) : gN (uR S a r) = gN S := rfl
theorem gR_uR (S : HS) (a : Nat) (r : Nat → Int32) (b : Nat) : gR (uR S a r) b = if b = a then r else gR S b := rfl
theorem gK_uQ (S : HS) (a : Nat) (r : Nat → Option Nat) (b : Nat) : gK (uQ S a r) b = gK S b := rfl
theorem gI_uQ (S : HS) (a : Nat) (r : Nat → Option Nat) (g b : Nat) : gI (uQ S a r) g b = gI S g b := rfl
theorem gP_uQ (S : HS) (a : Nat) (r : Nat → Option Nat) (g b : Nat) : gP (uQ S a r) g b = gP S g b := rfl
theorem gL_uQ (S : HS) (a : Nat) (r : Nat → Option Nat) (b : Nat) : gL (uQ S a r) b = gL S b := rfl
theorem gR_uQ (S : HS) (a : Nat) (r : Nat → Option Nat) (b : Nat) : gR (uQ S a r) b = gR S b := rfl
theorem gN_uQ (S : HS) (a : Nat) (r : Nat → Option Nat) : gN (uQ S a r) = gN S := rfl
theorem gQ_uQ (S : HS) (a : Nat) (r : Nat → Option Nat) (b : Nat) : gQ (uQ S a r) b = if b = a then r else gQ S b := rfl
theorem gK_nO (S : HS) (c b : Nat) : gK (nO S c) b = if b = gN S then c + 1 else gK S b := rfl
theorem gI_nO (S : HS) (c g b : Nat) : gI (nO S c) g b = if b = gN S then 0 else gI S g b := rfl
theorem gP_nO (S : HS) (c g b : Nat) : gP (nO S c) g b = if b = gN S then none else gP S g b := rfl
theorem gL_nO (S : HS) (c b : Nat) : gL (nO S c) b = gL S b := rfl
theorem gR_nO (S : HS) (c b : Nat) : gR (nO S c) b = gR S b := rfl
theorem gQ_nO (S : HS) (c b : Nat) : gQ (nO S c) b = gQ S b := rfl
theorem gN_nO (S : HS) (c : Nat) : gN (nO S c) = gN S + 1 := rfl
theorem gK_nA (S : HS) (kd n b : Nat) : gK (nA S kd n) b = if b = gN S then kd else gK S b := rfl
theorem gI_nA (S : HS) (kd n g b : Nat) : gI (nA S kd n) g b = gI S g b := rfl
theorem gP_nA (S : HS) (kd n g b : Nat) : gP (nA S kd n) g b = gP S g b := rfl
theorem gL_nA (S : HS) (kd n b : Nat) : gL (nA S kd n) b = if b = gN S then n else gL S b := rfl
theorem gR_nA (S : HS) (kd n b : Nat) : gR (nA S kd n) b = if b = gN S then (fun _ => 0) else gR S b := rfl
theorem gQ_nA (S : HS) (kd n b : Nat) : gQ (nA S kd n) b = if b = gN S then (fun _ => none) else gQ S b := rfl
theorem gN_nA (S : HS) (kd n : Nat) : gN (nA S kd n) = gN S + 1 := rfl
/-- which fields of a class hold references -/
def rfT (c : Nat) : List Bool := match c with
  | 0 => [false, true, false]
  | 1 => [false, false]
  | 2 => [true, true, false, false, false]
  | 3 => [false, false, false, false, false, false, false, false, false]
  | 4 => [false, false, false, false, false]
  | 5 => [true, true, false]
  | 6 => [false, false, false, false, false]
  | 7 => [false, true, true, true, true, false, false, false, false]
  | 8 => [true, false, false, false, true, true, false, true, true, true, false, false, false, true, true, true, true, true, true, true, true, false, true, true, true, false]
  | _ => []
def fv (S : HS) (c a : Nat) : List Value := (rfT c).zipIdx.map (fun q => if q.1 then va_rf (gP S (32 * c + q.2) a) else .int (gI S (32 * c + q.2) a))
theorem fv_get {c j : Nat} {b : Bool} (S : HS) (a : Nat) (h : (rfT c)[j]? = some b) : (fv S c a)[j]? = some (if b then va_rf (gP S (32 * c + j) a) else .int (gI S (32 * c + j) a)) := by
  simp [fv, List.getElem?_map, List.getElem?_zipIdx, h]
theorem fv_len (S : HS) (c a : Nat) : (fv S c a).length = (rfT c).length := by simp [fv]
theorem fv_setI {c j : Nat} (S : HS) (a : Nat) (v : Int32) (h : (rfT c)[j]? = some false) : fv (uI S (32 * c + j) a v) c a = (fv S c a).set j (.int v) := by
  apply List.ext_getElem?
  intro i
  rw [List.getElem?_set]
  by_cases hi : j = i
  · subst hi
    rw [fv_get _ _ h, fv_len]
    have hl : j < (rfT c).length := (List.getElem?_eq_some_iff.mp h).1
    simp [gI_uI, hl]
  · rw [if_neg hi]
    simp only [fv, List.getElem?_map, List.getElem?_zipIdx]
    cases hb : (rfT c)[i]? with
    | none => rfl
    | some b =>
      have hij : ¬ i = j := fun e => hi e.symm
      cases b <;> simp [gI_uI, gP_uI, hij]
theorem fv_setP {c j : Nat} (S : HS) (a : Nat) (v : Option Nat) (h : (rfT c)[j]? = some true) : fv (uP S (32 * c + j) a v) c a = (fv S c a).set j (va_rf v) := by
  apply List.ext_getElem?
  intro i
  rw [List.getElem?_set]
  by_cases hi : j = i
  · subst hi
    rw [fv_get _ _ h, fv_len]
    have hl : j < (rfT c).length := (List.getElem?_eq_some_iff.mp h).1
    simp [gP_uP, hl]
  · rw [if_neg hi]
    simp only [fv, List.getElem?_map, List.getElem?_zipIdx]
    cases hb : (rfT c)[i]? with
    | none => rfl
    | some b =>
      have hij : ¬ i = j := fun e => hi e.symm
      cases b <;> simp [gI_uP, gP_uP, hij]
theorem fv_neI {c a b f : Nat} (S : HS) (v : Int32) (h : b ≠ a) : fv (uI S f a v) c b = fv S c b := by
  simp [fv, gI_uI, gP_uI, h]
theorem fv_neP {c a b f : Nat} (S : HS) (v : Option Nat) (h : b ≠ a) : fv (uP S f a v) c b = fv S c b := by
  simp [fv, gI_uP, gP_uP, h]
/-- what does not change through a call of the law: launch, class numbers, row classes, addresses of the statics (0: the empty row, 1: COS, 2: GORE_NUMBERS, 3: the mirror), the first address that may be written -/
abbrev KT : Type := Launch × va_G × (Nat → ClassId) × (Nat → Nat) × Nat
def kA (k : KT) : Nat → Prop := fun q => k.2.2.2.2 ≤ q
def kT (k : KT) : List (ClassId × FieldType) := [(k.2.2.1 0, .int), (k.2.2.1 1, .boolean), (k.2.2.1 2, .object "GlobeWorks$Gore"), (k.2.2.1 3, .object "java/lang/Object")]
def ce (k : KT) (S : HS) (a : Nat) : va_E :=
  if gK S a = 20 then .inl (k.2.2.1 0, gL S a, .inl (gR S a)) else if gK S a = 21 then .inl (k.2.2.1 1, gL S a, .inl (gR S a)) else if gK S a = 22 then .inl (k.2.2.1 2, gL S a, .inr (.inr (.inr (.inr (gQ S a))))) else if gK S a = 23 then .inl (k.2.2.1 3, gL S a, .inr (.inr (.inr (.inr (gQ S a))))) else .inr (gK S a - 1, fv S (gK S a - 1) a)
theorem ce_20 {k : KT} {S : HS} {a : Nat} (h : gK S a = 20) : ce k S a = .inl (k.2.2.1 0, gL S a, .inl (gR S a)) := by simp [ce, h]
theorem ce_21 {k : KT} {S : HS} {a : Nat} (h : gK S a = 21) : ce k S a = .inl (k.2.2.1 1, gL S a, .inl (gR S a)) := by simp [ce, h]
theorem ce_22 {k : KT} {S : HS} {a : Nat} (h : gK S a = 22) : ce k S a = .inl (k.2.2.1 2, gL S a, .inr (.inr (.inr (.inr (gQ S a))))) := by simp [ce, h]
theorem ce_23 {k : KT} {S : HS} {a : Nat} (h : gK S a = 23) : ce k S a = .inl (k.2.2.1 3, gL S a, .inr (.inr (.inr (.inr (gQ S a))))) := by simp [ce, h]
theorem ce_o {k : KT} {S : HS} {a c : Nat} (h : gK S a = c + 1) (hc : c < 9) : ce k S a = .inr (c, fv S c a) := by
  have h1 : gK S a ≠ 20 := by omega
  have h2 : gK S a ≠ 21 := by omega
  have h3 : gK S a ≠ 22 := by omega
  have h4 : gK S a ≠ 23 := by omega
  have h5 : gK S a - 1 = c := by omega
  simp only [ce, if_neg h1, if_neg h2, if_neg h3, if_neg h4, h5]
def Rl (k : KT) (S : HS) (H : Heap) : Prop := H.size = gN S ∧ ∀ a, gK S a ≠ 0 → k.2.2.2.2 ≤ a ∧ va_at k.2.1 vwCl (a, ce k S a) H
theorem Rl.set {k : KT} {S S' : HS} {H H1 : Heap} {a : Nat} (h : Rl k S H) (hz : H1.size = H.size) (ho : ∀ q, q ≠ a → H1[q]? = H[q]?) (hK : ∀ b, gK S' b = gK S b) (hN : gN S' = gN S) (hc : ∀ b, b ≠ a → ce k S' b = ce k S b) (ha : va_at k.2.1 vwCl (a, ce k S' a) H1) : Rl k S' H1 := by
  refine ⟨by rw [hz, hN]; exact h.1, fun b hb => ?_⟩
  rw [hK] at hb
  refine ⟨(h.2 b hb).1, ?_⟩
  by_cases e : b = a
  · subst e; exact ha
  · rw [hc b e]
    exact (h.2 b hb).2.kept (ho b e)
theorem Rl.lt {k : KT} {S : HS} {H : Heap} (h : Rl k S H) {a : Nat} (ha : gK S a ≠ 0) : a < gN S := by
  have := (h.2 a ha).2.lt
  rw [← h.1]; exact this
theorem Rl.push {k : KT} {S S' : HS} {H H1 : Heap} (h : Rl k S H) (hz : H1.size = H.size + 1) (ho : ∀ q, q < H.size → H1[q]? = H[q]?) (hlo : k.2.2.2.2 ≤ H.size) (hK : ∀ b, b ≠ gN S → gK S' b = gK S b) (hN : gN S' = gN S + 1) (hc : ∀ b, b ≠ gN S → ce k S' b = ce k S b) (ha : va_at k.2.1 vwCl (gN S, ce k S' (gN S)) H1) : Rl k S' H1 := by
  refine ⟨by rw [hz, hN, h.1], fun b hb => ?_⟩
  by_cases e : b = gN S
  · subst e; exact ⟨by rw [← h.1]; exact hlo, ha⟩
  · rw [hK b e] at hb
    refine ⟨(h.2 b hb).1, ?_⟩
    rw [hc b e]
    have hl := (h.2 b hb).2.lt
    exact (h.2 b hb).2.kept (ho b hl)
theorem ce_uI {k : KT} {S : HS} {f a b : Nat} {v : Int32} (h : b ≠ a) : ce k (uI S f a v) b = ce k S b := by
  simp only [ce, gK_uI, gL_uI, gR_uI, gQ_uI, fv_neI S v h]
  try rfl
theorem ce_uP {k : KT} {S : HS} {f a b : Nat} {v : Option Nat} (h : b ≠ a) : ce k (uP S f a v) b = ce k S b := by
  simp only [ce, gK_uP, gL_uP, gR_uP, gQ_uP, fv_neP S v h]
  try rfl
theorem fv_uR {c a b : Nat} (S : HS) (r : Nat → Int32) : fv (uR S a r) c b = fv S c b := rfl
theorem fv_uQ {c a b : Nat} (S : HS) (r : Nat → Option Nat) : fv (uQ S a r) c b = fv S c b := rfl
theorem ce_uR {k : KT} {S : HS} {a b : Nat} {r : Nat → Int32} (h : b ≠ a) : ce k (uR S a r) b = ce k S b := by
  simp only [ce, gK_uR, gL_uR, gR_uR, gQ_uR, fv_uR, if_neg h]
  try rfl
theorem ce_uQ {k : KT} {S : HS} {a b : Nat} {r : Nat → Option Nat} (h : b ≠ a) : ce k (uQ S a r) b = ce k S b := by
  simp only [ce, gK_uQ, gL_uQ, gR_uQ, gQ_uQ, fv_uQ, if_neg h]
  try rfl
theorem fv_nO {c d b : Nat} (S : HS) (h : b ≠ gN S) : fv (nO S d) c b = fv S c b := by
  simp [fv, gI_nO, gP_nO, h]
theorem ce_nO {k : KT} {S : HS} {c b : Nat} (h : b ≠ gN S) : ce k (nO S c) b = ce k S b := by
  simp only [ce, gK_nO, gL_nO, gR_nO, gQ_nO, fv_nO S h, if_neg h]
  try rfl
theorem fv_nA {c kd n b : Nat} (S : HS) : fv (nA S kd n) c b = fv S c b := rfl
theorem ce_nA {k : KT} {S : HS} {kd n b : Nat} (h : b ≠ gN S) : ce k (nA S kd n) b = ce k S b := by
  simp only [ce, gK_nA, gL_nA, gR_nA, gQ_nA, fv_nA, if_neg h]
  try rfl
/-- the statics' rows -/
def cosL : List Int32 := [1000, 1000, 999, 999, 998, 996, 995, 993, 990, 988, 985, 982, 978, 974, 970, 966, 961, 956, 951, 946, 940, 934, 927, 921, 914, 906, 899, 891, 883, 875, 866, 857, 848, 839, 829, 819, 809, 799, 788, 777, 766, 755, 743, 731, 719, 707, 695, 682, 669, 656, 643, 629, 616, 602, 588, 574, 559, 545, 530, 515, 500, 485, 469, 454, 438, 423, 407, 391, 375, 358, 342, 326, 309, 292, 276, 259, 242, 225, 208, 191, 174, 156, 139, 122, 105, 87, 70, 52, 35, 17, 0]
def gorL : List Int32 := [6, 8, 9, 10, 12, 15, 18, 20, 24]
def nwL : List Cond := [.methodLinkNest RX6 40 yX1_init "GlobeWorks", .methodLinkNest RX6 21 yX4_init "GlobeWorks", .methodLinkNest RX5 42 yX6_roundBy "GlobeWorks"]
def csL : List (String × String) := [(RX0, "java/lang/Object"), (RX2, "java/lang/Object"), (RX3, "java/lang/Object")]
/-- what every method's start gives beside the tables' words -/
def Gd (k : KT) (U : State) : Prop :=
  va_K k.2.1 vwCl (kT k) U ∧ (va_Nw (.methodLinkNest RX6 40 yX1_init "GlobeWorks") U ∧ va_Nw (.methodLinkNest RX6 21 yX4_init "GlobeWorks") U ∧ va_Nw (.methodLinkNest RX5 42 yX6_roundBy "GlobeWorks") U) ∧ (∀ q ∈ csL, va_Nw (.castable q.1 q.2) U) ∧ (va_AO "GlobeWorks$Gore" U ∧ va_AO "java/lang/Object" U) ∧
  (va_Z "java/util/ArrayList" "DEFAULTCAPACITY_EMPTY_ELEMENTDATA" "[Ljava/lang/Object;" (.ref (k.2.2.2.1 0)) (kA k) U U.heap ∧ va_Z "GlobeWorks" "COS" "[I" (.ref (k.2.2.2.1 1)) (kA k) U U.heap ∧ va_Z "GlobeWorks" "GORE_NUMBERS" "[I" (.ref (k.2.2.2.1 2)) (kA k) U U.heap) ∧
  (va_T (.object "java/lang/Object") (k.2.2.2.1 0) 0 (fun _ => .null) (kA k) U U.heap ∧ va_T .int (k.2.2.2.1 1) 91 (fun j => .int (cosL.getD j 0)) (kA k) U U.heap ∧ va_T .int (k.2.2.2.1 2) 9 (fun j => .int (gorL.getD j 0)) (kA k) U U.heap) ∧
  va_Mi "[Ljava/lang/Object;" (k.2.2.2.1 3) U ∧ va_Dc U ∧ k.2.2.2.2 ≤ U.heap.size
end
section
/-! THE JUDGEMENT: a method at a place of its code, with its locals, its operands and the state of the system, comes to its end as Z asks. -/
abbrev MT : Type := Room × MethodName × ByteArray × Nat × Option FieldType
abbrev ZT : Type := List Frame → Array Value → State → State → Prop
def Cx (k : KT) (μ : MT) (p : Program) (s : State) (m : MethodId) (args : Array Value) (meth : Method) (c : Code) : Prop :=
  p.tables.exec = Jvm.exec ∧ c.code = μ.2.2.1 ∧ c.maxLocals = μ.2.2.2.1 ∧ meth.sig.returnType = μ.2.2.2.2 ∧ (∀ w ∈ wsL_law, w.before args s = true) ∧ s.vm.findClass μ.2.1.cls = some m.cls ∧ meth.locks = false ∧ meth.name = μ.2.1.name ∧ Gd k s
def X (k : KT) (μ : MT) (Z : ZT) (pc : Nat) (lv : List (Nat × Value)) (st : List Value) (S : HS) (cells slots : Nat) : Prop :=
  ∀ (p : Program) (e : Env) (s : State) (m : MethodId) (args : Array Value) (below : List Frame) (meth : Method) (c : Code) (H : Heap) (locs : List Loc) (ls : Array Slot),
    Cx k μ p s m args meth c → lv_has ls μ.2.2.2.1 lv → Rl k S H → va_S (kA k) s.heap H locs → W p k.1 e μ.1 s m args below meth c H locs cells slots (Z below args s) (F0 m pc ls st)
def Qc (k : KT) (Q : Option Value → HS → Prop) : Array Value → State → Outcome → State → Prop := fun _ st o t => (∃ (v : Option Value) (S : HS), o = .returned v ∧ Q v S ∧ Rl k S t.heap) ∧ va_F (kA k) st t
def Pcd (k : KT) (av : List Value) (S : HS) : Array Value → State → Prop := va_Pc av (fun U => Rl k S U.heap ∧ Gd k U)
/-- a method's contract: from the state S with the arguments av it returns v and the state T, with Q v T -/
def Ct (k : KT) (μ : MT) (av : List Value) (S : HS) (Q : Option Value → HS → Prop) : Prop :=
  Met k.1 μ.2.1 (.code μ.2.1 μ.2.2.1 μ.2.2.2.1 μ.2.2.2.2 :: wsL_law) μ.1 (Pcd k av S) (Qc k Q) μ.1.cells μ.1.slots (kA k)
def Zm (k : KT) (μ : MT) (Q : Option Value → HS → Prop) : ZT := fun below args s => MQ below (Qc k Q) args s μ.1.cells μ.1.slots (kA k)
theorem Gd.warm {k : KT} {s U : State} {H : Heap} {locs : List Loc} (h : Gd k s) (hW : s.WarmedH U.vm) (hH : U.heap = H) (hS : va_S (kA k) s.heap H locs) : Gd k U := by
  obtain ⟨h1, ⟨h2, h3, h4⟩, h5, ⟨h6, h7⟩, ⟨h8, h9, h10⟩, ⟨h11, h12, h13⟩, h14, h15, h16⟩ := h
  have ha := hW.alike
  subst hH
  have hq : ∀ q : Nat, q < s.heap.size → ¬ kA k q → U.heap[q]? = s.heap[q]? := hS.2.1
  exact ⟨h1.moved ha, ⟨h2.warmM hW, h3.warmM hW, h4.warmM hW⟩, fun q hq => (h5 q hq).warmC hW, ⟨h6.moved ha, h7.moved ha⟩, ⟨(h8.moved ha).kept hq, (h9.moved ha).kept hq, (h10.moved ha).kept hq⟩, ⟨(h11.moved ha).kept hq, (h12.moved ha).kept hq, (h13.moved ha).kept hq⟩, h14.moved ha, h15.moved ha, Nat.le_trans h16 hS.1⟩
theorem Gd.calling {k : KT} {U : State} {g : JFrame} {mk : MethodId} {a : Array Value} (h : Gd k U) : Gd k (U.calling g mk a) := by
  obtain ⟨h1, ⟨h2, h3, h4⟩, h5, ⟨h6, h7⟩, ⟨h8, h9, h10⟩, ⟨h11, h12, h13⟩, h14, h15, h16⟩ := h
  have ha : U.vm.Alike (U.calling g mk a).vm := Vm.Alike.refl U.vm
  exact ⟨va_K.moved (U := U.calling g mk a) ha h1, ⟨va_Nw.same rfl rfl h2, va_Nw.same rfl rfl h3, va_Nw.same rfl rfl h4⟩, fun q hq => va_Nw.same rfl rfl (h5 q hq), ⟨va_AO.moved (U := U.calling g mk a) ha h6, va_AO.moved (U := U.calling g mk a) ha h7⟩, ⟨va_Z.moved (U := U.calling g mk a) ha h8, va_Z.moved (U := U.calling g mk a) ha h9, va_Z.moved (U := U.calling g mk a) ha h10⟩, ⟨va_T.moved (U := U.calling g mk a) ha h11, va_T.moved (U := U.calling g mk a) ha h12, va_T.moved (U := U.calling g mk a) ha h13⟩, va_Mi.moved (U := U.calling g mk a) ha h14, va_Dc.moved (U := U.calling g mk a) ha h15, h16⟩
theorem Pcd.blind {k : KT} {av : List Value} {S : HS} : FrameBlind (Pcd k av S) := by
  intro a U g mk h
  exact ⟨h.1, h.2.1, h.2.2.calling⟩
/-- the contract out of the walk from the method's entry -/
theorem Ct.of {k : KT} {μ : MT} {av : List Value} {S : HS} {Q : Option Value → HS → Prop} (hy : plainName μ.2.1.cls = true) (hl : (lg_sl av).length ≤ μ.2.2.2.1) (h : X k μ (Zm k μ Q) 0 (lv_args 0 av) [] S 0 0) : Ct k μ av S Q := by
  refine Met.ofW (cc := μ.2.2.1) (maxL := μ.2.2.2.1) (ret := μ.2.2.2.2) hy rfl ?_
  intro p e s m args below meth c s₁ B hml hv
  obtain ⟨rfl, hR, hG⟩ := hv
  have hts := atoms_spec (ws := .code μ.2.1 μ.2.2.1 μ.2.2.2.1 μ.2.2.2.2 :: wsL_law) B.pre
  have hown : s.vm.findClass μ.2.1.cls = some m.cls := findClass_of_methodNamed B.named
  have hnm : meth.name = μ.2.1.name := (name_of_methodNamed B.named B.method).1
  have hls := lv_entry av (n := μ.2.2.2.1) hl
  rw [lg_entry_eq]
  exact h p e s m _ below meth c s.heap [] _ ⟨B.exec, B.bytes, hml, B.returns, fun w hw => hts w (List.mem_cons_of_mem _ hw), hown, B.notSynchronized, hnm, hG⟩ hls hR va_S.rf
theorem Ct.weaken {k : KT} {μ : MT} {av : List Value} {S : HS} {Q Q' : Option Value → HS → Prop} (h : Ct k μ av S Q) (hq : ∀ v T, Q v T → Q' v T) : Ct k μ av S Q' := by
  intro p e ha hc hk s m args below hf happ hP hK
  obtain ⟨t, o, h1, h2, h3, ⟨⟨v, T, r1, r2, r3⟩, r4⟩, h5⟩ := h p e ha hc hk s m args below hf happ hP hK
  exact ⟨t, o, h1, h2, h3, ⟨⟨v, T, r1, hq v T r2, r3⟩, r4⟩, h5⟩
theorem x_iconst {k : KT} {μ : MT} {Z : ZT} {pc : Nat} {lv : List (Nat × Value)} {rest : List Value} {S : HS} {cells slots : Nat} {n : Int} (v : Int32) (hd : decode μ.2.2.1 pc = .ok (.iconst n, 1)) (hv : Int32.ofInt n = v) (kk : X k μ Z (pc + 1) lv (.int v :: rest) S cells slots) : X k μ Z pc lv rest S cells slots := fun p e s m args below meth c H locs ls C hl hR hS => lv_iconst C.1 C.2.1 hd hv (kk p e s m args below meth c H locs ls C hl hR hS)
theorem x_bipush {k : KT} {μ : MT} {Z : ZT} {pc : Nat} {lv : List (Nat × Value)} {rest : List Value} {S : HS} {cells slots : Nat} {n : Int} (v : Int32) (hd : decode μ.2.2.1 pc = .ok (.bipush n, 2)) (hv : (Int8.ofInt n).toInt32 = v) (kk : X k μ Z (pc + 2) lv (.int v :: rest) S cells slots) : X k μ Z pc lv rest S cells slots := fun p e s m args below meth c H locs ls C hl hR hS => lv_bipush C.1 C.2.1 hd hv (kk p e s m args below meth c H locs ls C hl hR hS)
theorem x_sipush {k : KT} {μ : MT} {Z : ZT} {pc : Nat} {lv : List (Nat × Value)} {rest : List Value} {S : HS} {cells slots : Nat} {n : Int} (v : Int32) (hd : decode μ.2.2.1 pc = .ok (.sipush n, 3)) (hv : (Int16.ofInt n).toInt32 = v) (kk : X k μ Z (pc + 3) lv (.int v :: rest) S cells slots) : X k μ Z pc lv rest S cells slots := fun p e s m args below meth c H locs ls C hl hR hS => lv_sipush C.1 C.2.1 hd hv (kk p e s m args below meth c H locs ls C hl hR hS)
theorem x_iload_n {k : KT} {μ : MT} {Z : ZT} {pc : Nat} {lv : List (Nat × Value)} {rest : List Value} {S : HS} {cells slots : Nat} {n : Fin 4} {x : Int32} (j : Nat) (hd : decode μ.2.2.1 pc = .ok (.iload_n n, 1)) (h : lv[j]? = some ((n : Nat), Value.int x)) (kk : X k μ Z (pc + 1) lv (.int x :: rest) S cells slots) : X k μ Z pc lv rest S cells slots := fun p e s m args below meth c H locs ls C hl hR hS => lv_iload_n C.1 C.2.1 hd rfl (lv_at hl j h) (kk p e s m args below meth c H locs ls C hl hR hS)
theorem x_iload {k : KT} {μ : MT} {Z : ZT} {pc : Nat} {lv : List (Nat × Value)} {rest : List Value} {S : HS} {cells slots : Nat} {i : Nat} {x : Int32} (j : Nat) (hd : decode μ.2.2.1 pc = .ok (.iload i, 2)) (h : lv[j]? = some (i, Value.int x)) (kk : X k μ Z (pc + 2) lv (.int x :: rest) S cells slots) : X k μ Z pc lv rest S cells slots := fun p e s m args below meth c H locs ls C hl hR hS => lv_iload C.1 C.2.1 hd (lv_at hl j h) (kk p e s m args below meth c H locs ls C hl hR hS)
theorem x_aload_n {k : KT} {μ : MT} {Z : ZT} {pc : Nat} {lv : List (Nat × Value)} {rest : List Value} {S : HS} {cells slots : Nat} {n : Fin 4} {x : Nat} (j : Nat) (hd : decode μ.2.2.1 pc = .ok (.aload_n n, 1)) (h : lv[j]? = some ((n : Nat), Value.ref x)) (kk : X k μ Z (pc + 1) lv (.ref x :: rest) S cells slots) : X k μ Z pc lv rest S cells slots := fun p e s m args below meth c H locs ls C hl hR hS => lv_aload_n C.1 C.2.1 hd rfl (lv_at hl j h) (kk p e s m args below meth c H locs ls C hl hR hS)
theorem x_aload {k : KT} {μ : MT} {Z : ZT} {pc : Nat} {lv : List (Nat × Value)} {rest : List Value} {S : HS} {cells slots : Nat} {i : Nat} {x : Nat} (j : Nat) (hd : decode μ.2.2.1 pc = .ok (.aload i, 2)) (h : lv[j]? = some (i, Value.ref x)) (kk : X k μ Z (pc + 2) lv (.ref x :: rest) S cells slots) : X k μ Z pc lv rest S cells slots := fun p e s m args below meth c H locs ls C hl hR hS => lv_aload C.1 C.2.1 hd (lv_at hl j h) (kk p e s m args below meth c H locs ls C hl hR hS)
theorem x_aload_nN {k : KT} {μ : MT} {Z : ZT} {pc : Nat} {lv : List (Nat × Value)} {rest : List Value} {S : HS} {cells slots : Nat} {n : Fin 4} (j : Nat) (hd : decode μ.2.2.1 pc = .ok (.aload_n n, 1)) (h : lv[j]? = some ((n : Nat), Value.null)) (kk : X k μ Z (pc + 1) lv (.null :: rest) S cells slots) : X k μ Z pc lv rest S cells slots := fun p e s m args below meth c H locs ls C hl hR hS => lv_aload_nN C.1 C.2.1 hd rfl (lv_at hl j h) (kk p e s m args below meth c H locs ls C hl hR hS)
theorem x_aloadN {k : KT} {μ : MT} {Z : ZT} {pc : Nat} {lv : List (Nat × Value)} {rest : List Value} {S : HS} {cells slots : Nat} {i : Nat} (j : Nat) (hd : decode μ.2.2.1 pc = .ok (.aload i, 2)) (h : lv[j]? = some (i, Value.null)) (kk : X k μ Z (pc + 2) lv (.null :: rest) S cells slots) : X k μ Z pc lv rest S cells slots := fun p e s m args below meth c H locs ls C hl hR hS => lv_aloadN C.1 C.2.1 hd (lv_at hl j h) (kk p e s m args below meth c H locs ls C hl hR hS)
theorem x_istore_n {k : KT} {μ : MT} {Z : ZT} {pc : Nat} {lv : List (Nat × Value)} {rest : List Value} {S : HS} {cells slots : Nat} {n : Fin 4} {x : Int32} (lv' : List (Nat × Value)) (hd : decode μ.2.2.1 pc = .ok (.istore_n n, 1)) (hn : (n : Nat) < μ.2.2.2.1) (hv : ((n : Nat), Value.int x) :: lv.filter (fun q => !(q.1 == (n : Nat)) && !(q.1 + 1 == (n : Nat) && q.2.category == 2)) = lv') (kk : X k μ Z (pc + 1) lv' rest S cells slots) : X k μ Z pc lv (.int x :: rest) S cells slots := fun p e s m args below meth c H locs ls C hl hR hS => lv_istore_n C.1 C.2.1 hd rfl hl hn hv (fun ls' hl' => kk p e s m args below meth c H locs ls' C hl' hR hS)
theorem x_istore {k : KT} {μ : MT} {Z : ZT} {pc : Nat} {lv : List (Nat × Value)} {rest : List Value} {S : HS} {cells slots : Nat} {i : Nat} {x : Int32} (lv' : List (Nat × Value)) (hd : decode μ.2.2.1 pc = .ok (.istore i, 2)) (hn : i < μ.2.2.2.1) (hv : (i, Value.int x) :: lv.filter (fun q => !(q.1 == i) && !(q.1 + 1 == i && q.2.category == 2)) = lv') (kk : X k μ Z (pc + 2) lv' rest S cells slots) : X k μ Z pc lv (.int x :: rest) S cells slots := fun p e s m args below meth c H locs ls C hl hR hS => lv_istore C.1 C.2.1 hd hl hn hv (fun ls' hl' => kk p e s m args below meth c H locs ls' C hl' hR hS)
theorem x_astore_n {k : KT} {μ : MT} {Z : ZT} {pc : Nat} {lv : List (Nat × Value)} {rest : List Value} {S : HS} {cells slots : Nat} {n : Fin 4} {x : Nat} (lv' : List (Nat × Value)) (hd : decode μ.2.2.1 pc = .ok (.astore_n n, 1)) (hn : (n : Nat) < μ.2.2.2.1) (hv : ((n : Nat), Value.ref x) :: lv.filter (fun q => !(q.1 == (n : Nat)) && !(q.1 + 1 == (n : Nat) && q.2.category == 2)) = lv') (kk : X k μ Z (pc + 1) lv' rest S cells slots) : X k μ Z pc lv (.ref x :: rest) S cells slots := fun p e s m args below meth c H locs ls C hl hR hS => lv_astore_n C.1 C.2.1 hd rfl hl hn hv (fun ls' hl' => kk p e s m args below meth c H locs ls' C hl' hR hS)
theorem x_astore {k : KT} {μ : MT} {Z : ZT} {pc : Nat} {lv : List (Nat × Value)} {rest : List Value} {S : HS} {cells slots : Nat} {i : Nat} {x : Nat} (lv' : List (Nat × Value)) (hd : decode μ.2.2.1 pc = .ok (.astore i, 2)) (hn : i < μ.2.2.2.1) (hv : (i, Value.ref x) :: lv.filter (fun q => !(q.1 == i) && !(q.1 + 1 == i && q.2.category == 2)) = lv') (kk : X k μ Z (pc + 2) lv' rest S cells slots) : X k μ Z pc lv (.ref x :: rest) S cells slots := fun p e s m args below meth c H locs ls C hl hR hS => lv_astore C.1 C.2.1 hd hl hn hv (fun ls' hl' => kk p e s m args below meth c H locs ls' C hl' hR hS)
theorem x_astore_nN {k : KT} {μ : MT} {Z : ZT} {pc : Nat} {lv : List (Nat × Value)} {rest : List Value} {S : HS} {cells slots : Nat} {n : Fin 4} (lv' : List (Nat × Value)) (hd : decode μ.2.2.1 pc = .ok (.astore_n n, 1)) (hn : (n : Nat) < μ.2.2.2.1) (hv : ((n : Nat), Value.null) :: lv.filter (fun q => !(q.1 == (n : Nat)) && !(q.1 + 1 == (n : Nat) && q.2.category == 2)) = lv') (kk : X k μ Z (pc + 1) lv' rest S cells slots) : X k μ Z pc lv (.null :: rest) S cells slots := fun p e s m args below meth c H locs ls C hl hR hS => lv_astore_nN C.1 C.2.1 hd rfl hl hn hv (fun ls' hl' => kk p e s m args below meth c H locs ls' C hl' hR hS)
theorem x_astoreN {k : KT} {μ : MT} {Z : ZT} {pc : Nat} {lv : List (Nat × Value)} {rest : List Value} {S : HS} {cells slots : Nat} {i : Nat} (lv' : List (Nat × Value)) (hd : decode μ.2.2.1 pc = .ok (.astore i, 2)) (hn : i < μ.2.2.2.1) (hv : (i, Value.null) :: lv.filter (fun q => !(q.1 == i) && !(q.1 + 1 == i && q.2.category == 2)) = lv') (kk : X k μ Z (pc + 2) lv' rest S cells slots) : X k μ Z pc lv (.null :: rest) S cells slots := fun p e s m args below meth c H locs ls C hl hR hS => lv_astoreN C.1 C.2.1 hd hl hn hv (fun ls' hl' => kk p e s m args below meth c H locs ls' C hl' hR hS)
theorem x_iinc {k : KT} {μ : MT} {Z : ZT} {pc : Nat} {lv : List (Nat × Value)} {rest : List Value} {S : HS} {cells slots : Nat} {i : Nat} {n : Int} {x : Int32} (j : Nat) (v : Int32) (lv' : List (Nat × Value)) (hd : decode μ.2.2.1 pc = .ok (.iinc i n, 3)) (hj : lv[j]? = some (i, .int x)) (hv : x + Int32.ofInt n = v) (hn : i < μ.2.2.2.1) (hw : (i, Value.int v) :: lv.filter (fun q => !(q.1 == i) && !(q.1 + 1 == i && q.2.category == 2)) = lv') (kk : X k μ Z (pc + 3) lv' rest S cells slots) : X k μ Z pc lv rest S cells slots := fun p e s m args below meth c H locs ls C hl hR hS => lv_iinc C.1 C.2.1 hd hl hj hv hn hw (fun ls' hl' => kk p e s m args below meth c H locs ls' C hl' hR hS)
theorem x_iadd {k : KT} {μ : MT} {Z : ZT} {pc : Nat} {lv : List (Nat × Value)} {rest : List Value} {S : HS} {cells slots : Nat} {x y : Int32} (hd : decode μ.2.2.1 pc = .ok (.iadd, 1))  (kk : X k μ Z (pc + 1) lv (.int (x + y) :: rest) S cells slots) : X k μ Z pc lv (.int y :: .int x :: rest) S cells slots := fun p e s m args below meth c H locs ls C hl hR hS => lv_iadd C.1 C.2.1 hd (kk p e s m args below meth c H locs ls C hl hR hS)
theorem x_isub {k : KT} {μ : MT} {Z : ZT} {pc : Nat} {lv : List (Nat × Value)} {rest : List Value} {S : HS} {cells slots : Nat} {x y : Int32} (hd : decode μ.2.2.1 pc = .ok (.isub, 1))  (kk : X k μ Z (pc + 1) lv (.int (x - y) :: rest) S cells slots) : X k μ Z pc lv (.int y :: .int x :: rest) S cells slots := fun p e s m args below meth c H locs ls C hl hR hS => lv_isub C.1 C.2.1 hd (kk p e s m args below meth c H locs ls C hl hR hS)
theorem x_imul {k : KT} {μ : MT} {Z : ZT} {pc : Nat} {lv : List (Nat × Value)} {rest : List Value} {S : HS} {cells slots : Nat} {x y : Int32} (hd : decode μ.2.2.1 pc = .ok (.imul, 1))  (kk : X k μ Z (pc + 1) lv (.int (x * y) :: rest) S cells slots) : X k μ Z pc lv (.int y :: .int x :: rest) S cells slots := fun p e s m args below meth c H locs ls C hl hR hS => lv_imul C.1 C.2.1 hd (kk p e s m args below meth c H locs ls C hl hR hS)
theorem x_iand {k : KT} {μ : MT} {Z : ZT} {pc : Nat} {lv : List (Nat × Value)} {rest : List Value} {S : HS} {cells slots : Nat} {x y : Int32} (hd : decode μ.2.2.1 pc = .ok (.iand, 1))  (kk : X k μ Z (pc + 1) lv (.int (x &&& y) :: rest) S cells slots) : X k μ Z pc lv (.int y :: .int x :: rest) S cells slots := fun p e s m args below meth c H locs ls C hl hR hS => lv_iand C.1 C.2.1 hd (kk p e s m args below meth c H locs ls C hl hR hS)
theorem x_ior {k : KT} {μ : MT} {Z : ZT} {pc : Nat} {lv : List (Nat × Value)} {rest : List Value} {S : HS} {cells slots : Nat} {x y : Int32} (hd : decode μ.2.2.1 pc = .ok (.ior, 1))  (kk : X k μ Z (pc + 1) lv (.int (x ||| y) :: rest) S cells slots) : X k μ Z pc lv (.int y :: .int x :: rest) S cells slots := fun p e s m args below meth c H locs ls C hl hR hS => lv_ior C.1 C.2.1 hd (kk p e s m args below meth c H locs ls C hl hR hS)
theorem x_ixor {k : KT} {μ : MT} {Z : ZT} {pc : Nat} {lv : List (Nat × Value)} {rest : List Value} {S : HS} {cells slots : Nat} {x y : Int32} (hd : decode μ.2.2.1 pc = .ok (.ixor, 1))  (kk : X k μ Z (pc + 1) lv (.int (x ^^^ y) :: rest) S cells slots) : X k μ Z pc lv (.int y :: .int x :: rest) S cells slots := fun p e s m args below meth c H locs ls C hl hR hS => lv_ixor C.1 C.2.1 hd (kk p e s m args below meth c H locs ls C hl hR hS)
theorem x_ishl {k : KT} {μ : MT} {Z : ZT} {pc : Nat} {lv : List (Nat × Value)} {rest : List Value} {S : HS} {cells slots : Nat} {x y : Int32} (hd : decode μ.2.2.1 pc = .ok (.ishl, 1))  (kk : X k μ Z (pc + 1) lv (.int (x <<< (y &&& 31)) :: rest) S cells slots) : X k μ Z pc lv (.int y :: .int x :: rest) S cells slots := fun p e s m args below meth c H locs ls C hl hR hS => lv_ishl C.1 C.2.1 hd (kk p e s m args below meth c H locs ls C hl hR hS)
theorem x_ishr {k : KT} {μ : MT} {Z : ZT} {pc : Nat} {lv : List (Nat × Value)} {rest : List Value} {S : HS} {cells slots : Nat} {x y : Int32} (hd : decode μ.2.2.1 pc = .ok (.ishr, 1))  (kk : X k μ Z (pc + 1) lv (.int (x >>> (y &&& 31)) :: rest) S cells slots) : X k μ Z pc lv (.int y :: .int x :: rest) S cells slots := fun p e s m args below meth c H locs ls C hl hR hS => lv_ishr C.1 C.2.1 hd (kk p e s m args below meth c H locs ls C hl hR hS)
theorem x_idiv {k : KT} {μ : MT} {Z : ZT} {pc : Nat} {lv : List (Nat × Value)} {rest : List Value} {S : HS} {cells slots : Nat} {x y : Int32} (hd : decode μ.2.2.1 pc = .ok (.idiv, 1)) (hne : ¬ y = 0) (kk : X k μ Z (pc + 1) lv (.int (x / y) :: rest) S cells slots) : X k μ Z pc lv (.int y :: .int x :: rest) S cells slots := fun p e s m args below meth c H locs ls C hl hR hS => lv_idiv C.1 C.2.1 hd hne (kk p e s m args below meth c H locs ls C hl hR hS)
theorem x_irem {k : KT} {μ : MT} {Z : ZT} {pc : Nat} {lv : List (Nat × Value)} {rest : List Value} {S : HS} {cells slots : Nat} {x y : Int32} (hd : decode μ.2.2.1 pc = .ok (.irem, 1)) (hne : ¬ y = 0) (kk : X k μ Z (pc + 1) lv (.int (x - x / y * y) :: rest) S cells slots) : X k μ Z pc lv (.int y :: .int x :: rest) S cells slots := fun p e s m args below meth c H locs ls C hl hR hS => lv_irem C.1 C.2.1 hd hne (kk p e s m args below meth c H locs ls C hl hR hS)
theorem x_ineg {k : KT} {μ : MT} {Z : ZT} {pc : Nat} {lv : List (Nat × Value)} {rest : List Value} {S : HS} {cells slots : Nat} {x : Int32} (hd : decode μ.2.2.1 pc = .ok (.ineg, 1))  (kk : X k μ Z (pc + 1) lv (.int (-x) :: rest) S cells slots) : X k μ Z pc lv (.int x :: rest) S cells slots := fun p e s m args below meth c H locs ls C hl hR hS => lv_ineg C.1 C.2.1 hd (kk p e s m args below meth c H locs ls C hl hR hS)
theorem x_dup {k : KT} {μ : MT} {Z : ZT} {pc : Nat} {lv : List (Nat × Value)} {rest : List Value} {S : HS} {cells slots : Nat} {v : Value} (hd : decode μ.2.2.1 pc = .ok (.dup, 1)) (hv : v.category = 1) (kk : X k μ Z (pc + 1) lv (v :: v :: rest) S cells slots) : X k μ Z pc lv (v :: rest) S cells slots := fun p e s m args below meth c H locs ls C hl hR hS => lv_dup C.1 C.2.1 hd hv (kk p e s m args below meth c H locs ls C hl hR hS)
theorem x_pop {k : KT} {μ : MT} {Z : ZT} {pc : Nat} {lv : List (Nat × Value)} {rest : List Value} {S : HS} {cells slots : Nat} {v : Value} (hd : decode μ.2.2.1 pc = .ok (.pop, 1)) (hv : v.category = 1) (kk : X k μ Z (pc + 1) lv rest S cells slots) : X k μ Z pc lv (v :: rest) S cells slots := fun p e s m args below meth c H locs ls C hl hR hS => lv_pop C.1 C.2.1 hd hv (kk p e s m args below meth c H locs ls C hl hR hS)
theorem x_dup_x1 {k : KT} {μ : MT} {Z : ZT} {pc : Nat} {lv : List (Nat × Value)} {rest : List Value} {S : HS} {cells slots : Nat} {v w : Value} (hd : decode μ.2.2.1 pc = .ok (.dup_x1, 1)) (hv : v.category = 1) (hw : w.category = 1) (kk : X k μ Z (pc + 1) lv (v :: w :: v :: rest) S cells slots) : X k μ Z pc lv (v :: w :: rest) S cells slots := fun p e s m args below meth c H locs ls C hl hR hS => lv_dup_x1 C.1 C.2.1 hd hv hw (kk p e s m args below meth c H locs ls C hl hR hS)
theorem x_null {k : KT} {μ : MT} {Z : ZT} {pc : Nat} {lv : List (Nat × Value)} {rest : List Value} {S : HS} {cells slots : Nat}  (hd : decode μ.2.2.1 pc = .ok (.aconst_null, 1))  (kk : X k μ Z (pc + 1) lv (.null :: rest) S cells slots) : X k μ Z pc lv rest S cells slots := fun p e s m args below meth c H locs ls C hl hR hS => lv_null C.1 C.2.1 hd (kk p e s m args below meth c H locs ls C hl hR hS)
theorem x_if_eq {k : KT} {μ : MT} {Z : ZT} {pc : Nat} {lv : List (Nat × Value)} {rest : List Value} {S : HS} {cells slots : Nat} {x : Int32} {off : Int} (tgt : Nat) (hd : decode μ.2.2.1 pc = .ok (.ifCond .eq off, 3)) (ht : (pc : Int) + off = (tgt : Int)) (kt : x = 0 → X k μ Z tgt lv rest S cells slots) (kf : ¬ x = 0 → X k μ Z (pc + 3) lv rest S cells slots) : X k μ Z pc lv (.int x :: rest) S cells slots := fun p e s m args below meth c H locs ls C hl hR hS => lv_if_eq C.1 C.2.1 hd ht (fun q => kt q p e s m args below meth c H locs ls C hl hR hS) (fun q => kf q p e s m args below meth c H locs ls C hl hR hS)
theorem x_icmp_eq {k : KT} {μ : MT} {Z : ZT} {pc : Nat} {lv : List (Nat × Value)} {rest : List Value} {S : HS} {cells slots : Nat} {x y : Int32} {off : Int} (tgt : Nat) (hd : decode μ.2.2.1 pc = .ok (.if_icmp .eq off, 3)) (ht : (pc : Int) + off = (tgt : Int)) (kt : x = y → X k μ Z tgt lv rest S cells slots) (kf : ¬ x = y → X k μ Z (pc + 3) lv rest S cells slots) : X k μ Z pc lv (.int y :: .int x :: rest) S cells slots := fun p e s m args below meth c H locs ls C hl hR hS => lv_icmp_eq C.1 C.2.1 hd ht (fun q => kt q p e s m args below meth c H locs ls C hl hR hS) (fun q => kf q p e s m args below meth c H locs ls C hl hR hS)
theorem x_if_ne {k : KT} {μ : MT} {Z : ZT} {pc : Nat} {lv : List (Nat × Value)} {rest : List Value} {S : HS} {cells slots : Nat} {x : Int32} {off : Int} (tgt : Nat) (hd : decode μ.2.2.1 pc = .ok (.ifCond .ne off, 3)) (ht : (pc : Int) + off = (tgt : Int)) (kt : ¬ x = 0 → X k μ Z tgt lv rest S cells slots) (kf : x = 0 → X k μ Z (pc + 3) lv rest S cells slots) : X k μ Z pc lv (.int x :: rest) S cells slots := fun p e s m args below meth c H locs ls C hl hR hS => lv_if_ne C.1 C.2.1 hd ht (fun q => kt q p e s m args below meth c H locs ls C hl hR hS) (fun q => kf q p e s m args below meth c H locs ls C hl hR hS)
theorem x_icmp_ne {k : KT} {μ : MT} {Z : ZT} {pc : Nat} {lv : List (Nat × Value)} {rest : List Value} {S : HS} {cells slots : Nat} {x y : Int32} {off : Int} (tgt : Nat) (hd : decode μ.2.2.1 pc = .ok (.if_icmp .ne off, 3)) (ht : (pc : Int) + off = (tgt : Int)) (kt : ¬ x = y → X k μ Z tgt lv rest S cells slots) (kf : x = y → X k μ Z (pc + 3) lv rest S cells slots) : X k μ Z pc lv (.int y :: .int x :: rest) S cells slots := fun p e s m args below meth c H locs ls C hl hR hS => lv_icmp_ne C.1 C.2.1 hd ht (fun q => kt q p e s m args below meth c H locs ls C hl hR hS) (fun q => kf q p e s m args below meth c H locs ls C hl hR hS)
theorem x_if_lt {k : KT} {μ : MT} {Z : ZT} {pc : Nat} {lv : List (Nat × Value)} {rest : List Value} {S : HS} {cells slots : Nat} {x : Int32} {off : Int} (tgt : Nat) (hd : decode μ.2.2.1 pc = .ok (.ifCond .lt off, 3)) (ht : (pc : Int) + off = (tgt : Int)) (kt : x < 0 → X k μ Z tgt lv rest S cells slots) (kf : ¬ x < 0 → X k μ Z (pc + 3) lv rest S cells slots) : X k μ Z pc lv (.int x :: rest) S cells slots := fun p e s m args below meth c H locs ls C hl hR hS => lv_if_lt C.1 C.2.1 hd ht (fun q => kt q p e s m args below meth c H locs ls C hl hR hS) (fun q => kf q p e s m args below meth c H locs ls C hl hR hS)
theorem x_icmp_lt {k : KT} {μ : MT} {Z : ZT} {pc : Nat} {lv : List (Nat × Value)} {rest : List Value} {S : HS} {cells slots : Nat} {x y : Int32} {off : Int} (tgt : Nat) (hd : decode μ.2.2.1 pc = .ok (.if_icmp .lt off, 3)) (ht : (pc : Int) + off = (tgt : Int)) (kt : x < y → X k μ Z tgt lv rest S cells slots) (kf : ¬ x < y → X k μ Z (pc + 3) lv rest S cells slots) : X k μ Z pc lv (.int y :: .int x :: rest) S cells slots := fun p e s m args below meth c H locs ls C hl hR hS => lv_icmp_lt C.1 C.2.1 hd ht (fun q => kt q p e s m args below meth c H locs ls C hl hR hS) (fun q => kf q p e s m args below meth c H locs ls C hl hR hS)
theorem x_if_ge {k : KT} {μ : MT} {Z : ZT} {pc : Nat} {lv : List (Nat × Value)} {rest : List Value} {S : HS} {cells slots : Nat} {x : Int32} {off : Int} (tgt : Nat) (hd : decode μ.2.2.1 pc = .ok (.ifCond .ge off, 3)) (ht : (pc : Int) + off = (tgt : Int)) (kt : 0 ≤ x → X k μ Z tgt lv rest S cells slots) (kf : ¬ 0 ≤ x → X k μ Z (pc + 3) lv rest S cells slots) : X k μ Z pc lv (.int x :: rest) S cells slots := fun p e s m args below meth c H locs ls C hl hR hS => lv_if_ge C.1 C.2.1 hd ht (fun q => kt q p e s m args below meth c H locs ls C hl hR hS) (fun q => kf q p e s m args below meth c H locs ls C hl hR hS)
theorem x_icmp_ge {k : KT} {μ : MT} {Z : ZT} {pc : Nat} {lv : List (Nat × Value)} {rest : List Value} {S : HS} {cells slots : Nat} {x y : Int32} {off : Int} (tgt : Nat) (hd : decode μ.2.2.1 pc = .ok (.if_icmp .ge off, 3)) (ht : (pc : Int) + off = (tgt : Int)) (kt : y ≤ x → X k μ Z tgt lv rest S cells slots) (kf : ¬ y ≤ x → X k μ Z (pc + 3) lv rest S cells slots) : X k μ Z pc lv (.int y :: .int x :: rest) S cells slots := fun p e s m args below meth c H locs ls C hl hR hS => lv_icmp_ge C.1 C.2.1 hd ht (fun q => kt q p e s m args below meth c H locs ls C hl hR hS) (fun q => kf q p e s m args below meth c H locs ls C hl hR hS)
theorem x_if_gt {k : KT} {μ : MT} {Z : ZT} {pc : Nat} {lv : List (Nat × Value)} {rest : List Value} {S : HS} {cells slots : Nat} {x : Int32} {off : Int} (tgt : Nat) (hd : decode μ.2.2.1 pc = .ok (.ifCond .gt off, 3)) (ht : (pc : Int) + off = (tgt : Int)) (kt : 0 < x → X k μ Z tgt lv rest S cells slots) (kf : ¬ 0 < x → X k μ Z (pc + 3) lv rest S cells slots) : X k μ Z pc lv (.int x :: rest) S cells slots := fun p e s m args below meth c H locs ls C hl hR hS => lv_if_gt C.1 C.2.1 hd ht (fun q => kt q p e s m args below meth c H locs ls C hl hR hS) (fun q => kf q p e s m args below meth c H locs ls C hl hR hS)
theorem x_icmp_gt {k : KT} {μ : MT} {Z : ZT} {pc : Nat} {lv : List (Nat × Value)} {rest : List Value} {S : HS} {cells slots : Nat} {x y : Int32} {off : Int} (tgt : Nat) (hd : decode μ.2.2.1 pc = .ok (.if_icmp .gt off, 3)) (ht : (pc : Int) + off = (tgt : Int)) (kt : y < x → X k μ Z tgt lv rest S cells slots) (kf : ¬ y < x → X k μ Z (pc + 3) lv rest S cells slots) : X k μ Z pc lv (.int y :: .int x :: rest) S cells slots := fun p e s m args below meth c H locs ls C hl hR hS => lv_icmp_gt C.1 C.2.1 hd ht (fun q => kt q p e s m args below meth c H locs ls C hl hR hS) (fun q => kf q p e s m args below meth c H locs ls C hl hR hS)
theorem x_if_le {k : KT} {μ : MT} {Z : ZT} {pc : Nat} {lv : List (Nat × Value)} {rest : List Value} {S : HS} {cells slots : Nat} {x : Int32} {off : Int} (tgt : Nat) (hd : decode μ.2.2.1 pc = .ok (.ifCond .le off, 3)) (ht : (pc : Int) + off = (tgt : Int)) (kt : x ≤ 0 → X k μ Z tgt lv rest S cells slots) (kf : ¬ x ≤ 0 → X k μ Z (pc + 3) lv rest S cells slots) : X k μ Z pc lv (.int x :: rest) S cells slots := fun p e s m args below meth c H locs ls C hl hR hS => lv_if_le C.1 C.2.1 hd ht (fun q => kt q p e s m args below meth c H locs ls C hl hR hS) (fun q => kf q p e s m args below meth c H locs ls C hl hR hS)
theorem x_icmp_le {k : KT} {μ : MT} {Z : ZT} {pc : Nat} {lv : List (Nat × Value)} {rest : List Value} {S : HS} {cells slots : Nat} {x y : Int32} {off : Int} (tgt : Nat) (hd : decode μ.2.2.1 pc = .ok (.if_icmp .le off, 3)) (ht : (pc : Int) + off = (tgt : Int)) (kt : x ≤ y → X k μ Z tgt lv rest S cells slots) (kf : ¬ x ≤ y → X k μ Z (pc + 3) lv rest S cells slots) : X k μ Z pc lv (.int y :: .int x :: rest) S cells slots := fun p e s m args below meth c H locs ls C hl hR hS => lv_icmp_le C.1 C.2.1 hd ht (fun q => kt q p e s m args below meth c H locs ls C hl hR hS) (fun q => kf q p e s m args below meth c H locs ls C hl hR hS)
theorem x_goto {k : KT} {μ : MT} {Z : ZT} {pc : Nat} {lv : List (Nat × Value)} {rest : List Value} {S : HS} {cells slots : Nat} {off : Int} (tgt : Nat) (hd : decode μ.2.2.1 pc = .ok (.goto off, 3)) (ht : (pc : Int) + off = (tgt : Int)) (kk : X k μ Z tgt lv rest S cells slots) : X k μ Z pc lv rest S cells slots := fun p e s m args below meth c H locs ls C hl hR hS => lv_goto C.1 C.2.1 hd ht (kk p e s m args below meth c H locs ls C hl hR hS)
theorem x_ifnonnull {k : KT} {μ : MT} {Z : ZT} {pc : Nat} {lv : List (Nat × Value)} {rest : List Value} {S : HS} {cells slots : Nat} {x : Nat} {off : Int} (tgt : Nat) (hd : decode μ.2.2.1 pc = .ok (.ifnonnull off, 3)) (ht : (pc : Int) + off = (tgt : Int)) (kk : X k μ Z tgt lv rest S cells slots) : X k μ Z pc lv (.ref x :: rest) S cells slots := fun p e s m args below meth c H locs ls C hl hR hS => lv_ifnonnull C.1 C.2.1 hd ht (kk p e s m args below meth c H locs ls C hl hR hS)
theorem x_ifnull {k : KT} {μ : MT} {Z : ZT} {pc : Nat} {lv : List (Nat × Value)} {rest : List Value} {S : HS} {cells slots : Nat} {x : Nat} {off : Int} (hd : decode μ.2.2.1 pc = .ok (.ifnull off, 3)) (kk : X k μ Z (pc + 3) lv rest S cells slots) : X k μ Z pc lv (.ref x :: rest) S cells slots := fun p e s m args below meth c H locs ls C hl hR hS => lv_ifnull C.1 C.2.1 hd (kk p e s m args below meth c H locs ls C hl hR hS)
theorem x_ifnullN {k : KT} {μ : MT} {Z : ZT} {pc : Nat} {lv : List (Nat × Value)} {rest : List Value} {S : HS} {cells slots : Nat} {off : Int} (tgt : Nat) (hd : decode μ.2.2.1 pc = .ok (.ifnull off, 3)) (ht : (pc : Int) + off = (tgt : Int)) (kk : X k μ Z tgt lv rest S cells slots) : X k μ Z pc lv (.null :: rest) S cells slots := fun p e s m args below meth c H locs ls C hl hR hS => lv_ifnullN C.1 C.2.1 hd ht (kk p e s m args below meth c H locs ls C hl hR hS)
theorem x_ifnonnullN {k : KT} {μ : MT} {Z : ZT} {pc : Nat} {lv : List (Nat × Value)} {rest : List Value} {S : HS} {cells slots : Nat} {off : Int} (hd : decode μ.2.2.1 pc = .ok (.ifnonnull off, 3)) (kk : X k μ Z (pc + 3) lv rest S cells slots) : X k μ Z pc lv (.null :: rest) S cells slots := fun p e s m args below meth c H locs ls C hl hR hS => lv_ifnonnullN C.1 C.2.1 hd (kk p e s m args below meth c H locs ls C hl hR hS)
theorem x_acmp_eq {k : KT} {μ : MT} {Z : ZT} {pc : Nat} {lv : List (Nat × Value)} {rest : List Value} {S : HS} {cells slots : Nat} {a b : Nat} {off : Int} (tgt : Nat) (hd : decode μ.2.2.1 pc = .ok (.if_acmp .eq off, 3)) (ht : (pc : Int) + off = (tgt : Int)) (kt : a = b → X k μ Z tgt lv rest S cells slots) (kf : ¬ a = b → X k μ Z (pc + 3) lv rest S cells slots) : X k μ Z pc lv (.ref b :: .ref a :: rest) S cells slots := fun p e s m args below meth c H locs ls C hl hR hS => lv_acmp_eq (rx := some a) (ry := some b) C.1 C.2.1 hd ht (fun q => kt (by simpa using q) p e s m args below meth c H locs ls C hl hR hS) (fun q => kf (by simpa using q) p e s m args below meth c H locs ls C hl hR hS)
theorem x_acmp_ne {k : KT} {μ : MT} {Z : ZT} {pc : Nat} {lv : List (Nat × Value)} {rest : List Value} {S : HS} {cells slots : Nat} {a b : Nat} {off : Int} (tgt : Nat) (hd : decode μ.2.2.1 pc = .ok (.if_acmp .ne off, 3)) (ht : (pc : Int) + off = (tgt : Int)) (kt : ¬ a = b → X k μ Z tgt lv rest S cells slots) (kf : a = b → X k μ Z (pc + 3) lv rest S cells slots) : X k μ Z pc lv (.ref b :: .ref a :: rest) S cells slots := fun p e s m args below meth c H locs ls C hl hR hS => lv_acmp_ne (rx := some a) (ry := some b) C.1 C.2.1 hd ht (fun q => kt (by simpa using q) p e s m args below meth c H locs ls C hl hR hS) (fun q => kf (by simpa using q) p e s m args below meth c H locs ls C hl hR hS)
theorem x_tableIn {k : KT} {μ : MT} {Z : ZT} {pc : Nat} {lv : List (Nat × Value)} {rest : List Value} {S : HS} {cells slots : Nat} {dflt lo hi : Int} {offs : Array Int} {len : Nat} {x : Int32} (off : Int) (tgt : Nat) (hd : decode μ.2.2.1 pc = .ok (.tableswitch dflt lo hi offs, len)) (h1 : ¬ x.toInt < lo) (h2 : ¬ hi < x.toInt) (ho : offs[(x.toInt - lo).toNat]? = some off) (ht : (pc : Int) + off = (tgt : Int)) (kk : X k μ Z tgt lv rest S cells slots) : X k μ Z pc lv (.int x :: rest) S cells slots := fun p e s m args below meth c H locs ls C hl hR hS => lv_tableIn C.1 C.2.1 hd h1 h2 ho ht (kk p e s m args below meth c H locs ls C hl hR hS)
theorem x_tableOut {k : KT} {μ : MT} {Z : ZT} {pc : Nat} {lv : List (Nat × Value)} {rest : List Value} {S : HS} {cells slots : Nat} {dflt lo hi : Int} {offs : Array Int} {len : Nat} {x : Int32} (tgt : Nat) (hd : decode μ.2.2.1 pc = .ok (.tableswitch dflt lo hi offs, len)) (h : x.toInt < lo ∨ hi < x.toInt) (ht : (pc : Int) + dflt = (tgt : Int)) (kk : X k μ Z tgt lv rest S cells slots) : X k μ Z pc lv (.int x :: rest) S cells slots := fun p e s m args below meth c H locs ls C hl hR hS => lv_tableOut C.1 C.2.1 hd h ht (kk p e s m args below meth c H locs ls C hl hR hS)
theorem x_topi {k : KT} {μ : MT} {Z : ZT} {pc : Nat} {lv : List (Nat × Value)} {rest : List Value} {S : HS} {cells slots : Nat} {x : Int32} (kk : ∀ y : Int32, y = x → X k μ Z pc lv (.int y :: rest) S cells slots) : X k μ Z pc lv (.int x :: rest) S cells slots := kk x rfl
theorem x_widen {k : KT} {μ : MT} {Z : ZT} {pc : Nat} {lv : List (Nat × Value)} {S : HS} {cells slots : Nat} (st : List Value) (c2 s2 : Nat) (h1 : cells ≤ c2) (h2 : slots ≤ s2) (kk : X k μ Z pc lv st S c2 s2) : X k μ Z pc lv st S cells slots := fun p e s m args below meth c H locs ls C hl hR hS => W.widen h1 h2 (kk p e s m args below meth c H locs ls C hl hR hS)
theorem x_ireturn {k : KT} {μ : MT} {Q : Option Value → HS → Prop} {pc : Nat} {lv : List (Nat × Value)} {S : HS} {cells slots : Nat} {v : Int32} (hd : decode μ.2.2.1 pc = .ok (.ireturn, 1)) (hr : μ.2.2.2.2 = some .int) (hc : cells ≤ μ.1.cells) (hs : slots ≤ μ.1.slots) (hq : Q (some (.int v)) S) : X k μ (Zm k μ Q) pc lv [.int v] S cells slots := fun p e s m args below meth c H locs ls C hl hR hS => W.widen hc hs (W.iret C.1 C.2.1 (C.2.2.2.1.trans hr) (fun t ht hW => ⟨⟨_, S, rfl, hq, by rw [ht]; exact hR⟩, hS.F ht⟩) hS.2.2 hd C.2.2.2.2.2.2.1)
theorem x_zreturn {k : KT} {μ : MT} {Q : Option Value → HS → Prop} {pc : Nat} {lv : List (Nat × Value)} {S : HS} {cells slots : Nat} {v : Int32} (hd : decode μ.2.2.1 pc = .ok (.ireturn, 1)) (hr : μ.2.2.2.2 = some .boolean) (hn : narrow .boolean (.int v) = .int v) (hc : cells ≤ μ.1.cells) (hs : slots ≤ μ.1.slots) (hq : Q (some (.int v)) S) : X k μ (Zm k μ Q) pc lv [.int v] S cells slots := fun p e s m args below meth c H locs ls C hl hR hS => W.widen hc hs (W.zret C.1 C.2.1 (C.2.2.2.1.trans hr) hn (fun t ht hW => ⟨⟨_, S, rfl, hq, by rw [ht]; exact hR⟩, hS.F ht⟩) hS.2.2 hd C.2.2.2.2.2.2.1)
theorem x_return {k : KT} {μ : MT} {Q : Option Value → HS → Prop} {pc : Nat} {lv : List (Nat × Value)} {S : HS} {cells slots : Nat}  (hd : decode μ.2.2.1 pc = .ok (.return_, 1)) (hr : μ.2.2.2.2 = none) (hc : cells ≤ μ.1.cells) (hs : slots ≤ μ.1.slots) (hq : Q none S) : X k μ (Zm k μ Q) pc lv [] S cells slots := fun p e s m args below meth c H locs ls C hl hR hS => W.widen hc hs (W.vret C.1 C.2.1 (C.2.2.2.1.trans hr) (fun t ht hW => ⟨⟨_, S, rfl, hq, by rw [ht]; exact hR⟩, hS.F ht⟩) hS.2.2 hd C.2.2.2.2.2.2.1)
theorem x_areturn {k : KT} {μ : MT} {Q : Option Value → HS → Prop} {pc : Nat} {lv : List (Nat × Value)} {S : HS} {cells slots : Nat} {a : Nat} {rt : FieldType} (hd : decode μ.2.2.1 pc = .ok (.areturn, 1)) (hr : μ.2.2.2.2 = some rt) (hrt : (∃ n, rt = .object n) ∨ ∃ t, rt = .array t) (hc : cells ≤ μ.1.cells) (hs : slots ≤ μ.1.slots) (hq : Q (some (.ref a)) S) : X k μ (Zm k μ Q) pc lv [.ref a] S cells slots := fun p e s m args below meth c H locs ls C hl hR hS => W.widen hc hs (W.aret C.1 C.2.1 (C.2.2.2.1.trans hr) hrt (Or.inr ⟨a, rfl⟩) (fun t ht hW => ⟨⟨_, S, rfl, hq, by rw [ht]; exact hR⟩, hS.F ht⟩) hS.2.2 hd C.2.2.2.2.2.2.1)
theorem x_areturnN {k : KT} {μ : MT} {Q : Option Value → HS → Prop} {pc : Nat} {lv : List (Nat × Value)} {S : HS} {cells slots : Nat} {rt : FieldType} (hd : decode μ.2.2.1 pc = .ok (.areturn, 1)) (hr : μ.2.2.2.2 = some rt) (hrt : (∃ n, rt = .object n) ∨ ∃ t, rt = .array t) (hc : cells ≤ μ.1.cells) (hs : slots ≤ μ.1.slots) (hq : Q (some .null) S) : X k μ (Zm k μ Q) pc lv [.null] S cells slots := fun p e s m args below meth c H locs ls C hl hR hS => W.widen hc hs (W.aret C.1 C.2.1 (C.2.2.2.1.trans hr) hrt (Or.inl rfl) (fun t ht hW => ⟨⟨_, S, rfl, hq, by rw [ht]; exact hR⟩, hS.F ht⟩) hS.2.2 hd C.2.2.2.2.2.2.1)
end
section
/-! ROWS OF THE HEAP over the judgement X -/
theorem vP1 {D : va_G} {cl : List vw_C} {a : Nat} {e : va_E} {H : Heap} (h : va_at D cl (a, e) H) : va_P D cl [(a, e)] H := by
  intro i q hq
  match i, hq with
  | 0, hq => cases hq; exact h
  | i + 1, hq => simp at hq
theorem Rl.at {k : KT} {S : HS} {H : Heap} (h : Rl k S H) {a c : Nat} (hK : gK S a = c + 1) (h9 : c < 9) : va_at k.2.1 vwCl (a, .inr (c, fv S c a)) H := by
  have h1 := (h.2 a (by omega)).2
  rw [ce_o hK h9] at h1
  exact h1
theorem Rl.lo {k : KT} {S : HS} {H : Heap} (h : Rl k S H) {a : Nat} (hK : gK S a ≠ 0) : kA k a := (h.2 a hK).1
theorem Cx.exec {k : KT} {μ : MT} {p : Program} {s : State} {m : MethodId} {args : Array Value} {meth : Method} {c : Code} (C : Cx k μ p s m args meth c) : p.tables.exec = Jvm.exec := C.1
theorem Cx.bytes {k : KT} {μ : MT} {p : Program} {s : State} {m : MethodId} {args : Array Value} {meth : Method} {c : Code} (C : Cx k μ p s m args meth c) : c.code = μ.2.2.1 := C.2.1
theorem Cx.maxL {k : KT} {μ : MT} {p : Program} {s : State} {m : MethodId} {args : Array Value} {meth : Method} {c : Code} (C : Cx k μ p s m args meth c) : c.maxLocals = μ.2.2.2.1 := C.2.2.1
theorem Cx.words {k : KT} {μ : MT} {p : Program} {s : State} {m : MethodId} {args : Array Value} {meth : Method} {c : Code} (C : Cx k μ p s m args meth c) : ∀ w ∈ wsL_law, w.before args s = true := C.2.2.2.2.1
theorem Cx.own {k : KT} {μ : MT} {p : Program} {s : State} {m : MethodId} {args : Array Value} {meth : Method} {c : Code} (C : Cx k μ p s m args meth c) : s.vm.findClass μ.2.1.cls = some m.cls := C.2.2.2.2.2.1
theorem Cx.name {k : KT} {μ : MT} {p : Program} {s : State} {m : MethodId} {args : Array Value} {meth : Method} {c : Code} (C : Cx k μ p s m args meth c) : meth.name = μ.2.1.name := C.2.2.2.2.2.2.2.1
theorem Cx.gd {k : KT} {μ : MT} {p : Program} {s : State} {m : MethodId} {args : Array Value} {meth : Method} {c : Code} (C : Cx k μ p s m args meth c) : Gd k s := C.2.2.2.2.2.2.2.2
theorem Cx.cls {k : KT} {μ : MT} {p : Program} {s : State} {m : MethodId} {args : Array Value} {meth : Method} {c : Code} (C : Cx k μ p s m args meth c) : va_K k.2.1 vwCl (kT k) s := C.gd.1
theorem x_get {k : KT} {μ : MT} {Z : ZT} {pc : Nat} {lv : List (Nat × Value)} {rest : List Value} {S : HS} {cells slots a idx : Nat} {Cn ref : String} {T : u_T} {N : Nat} {b : Bool} (c j : Nat) (hd : decode μ.2.2.1 pc = .ok (.getfield idx, 3)) (hc : vwCl[c]? = some (Cn, T, N)) (h9 : c < 9) (hj : j < N) (hr : (rfT c)[j]? = some b) (hin : ∀ w ∈ u_ws Cn T N, w ∈ wsL_law) (hw : Cond.fieldLink μ.2.1.cls idx ref (T j).2.1 (T j).2.2.1 ∈ wsL_law) (hsm : (T j).1 = ref ∨ Cond.sameField ref (T j).1 (T j).2.1 (T j).2.2.1 ∈ wsL_law) (hK : gK S a = c + 1) (kk : X k μ Z (pc + 3) lv ((if b then va_rf (gP S (32 * c + j) a) else .int (gI S (32 * c + j) a)) :: rest) S cells slots) : X k μ Z pc lv (.ref a :: rest) S cells slots := by
  intro p e s m args below meth cd H locs ls C hl hR hS
  refine va_get (D := k.2.1) (cl := vwCl) (ci := c) C.exec C.bytes C.words hin C.own C.cls (vP1 (hR.at hK h9)) 0 rfl hc j hj (C.words _ hw) (fun x hx => ?_) (fv_get S a hr) hd (kk p e s m args below meth cd H locs ls C hl hR hS)
  rcases hsm with h | h
  · rw [← h]; exact hx
  · exact u_same (C.words _ h) x hx
theorem x_put {k : KT} {μ : MT} {Z : ZT} {pc : Nat} {lv : List (Nat × Value)} {rest : List Value} {S S' : HS} {cells slots a idx : Nat} {Cn ref : String} {T : u_T} {N : Nat} {ty : FieldType} {v : Value} (c j : Nat) (ty0 : Nat → FieldType) (hd : decode μ.2.2.1 pc = .ok (.putfield idx, 3)) (hc : vwCl[c]? = some (Cn, T, N)) (h9 : c < 9) (hj : j < N) (hin : ∀ w ∈ u_ws Cn T N, w ∈ wsL_law) (hty : ∀ k, k < N → parseFieldDescriptor (T k).2.2.1 = some (ty0 k)) (hnm : ∀ a, a < N → ∀ b, b < N → a ≠ b → (T a).2.1 ≠ (T b).2.1) (hw : Cond.fieldLink μ.2.1.cls idx ref (T j).2.1 (T j).2.2.1 ∈ wsL_law) (hsm : (T j).1 = ref ∨ Cond.sameField ref (T j).1 (T j).2.1 (T j).2.2.1 ∈ wsL_law) (hfin : (T j).2.2.2 = false ∨ ((T j).2.2.2 = true ∧ μ.2.1.name = "<init>" ∧ (T j).1 = μ.2.1.cls)) (hds : parseFieldDescriptor (T j).2.2.1 = some ty) (hn : narrow ty v = v) (hfit : fits ty v = true) (hK : gK S a = c + 1)
    (hKs : ∀ b, gK S' b = gK S b) (hNs : gN S' = gN S) (hce : ∀ b, b ≠ a → ce k S' b = ce k S b) (hlen : j < (fv S c a).length) (hfv : fv S' c a = (fv S c a).set j v) (kk : X k μ Z (pc + 3) lv rest S' cells slots) : X k μ Z pc lv (v :: .ref a :: rest) S cells slots := by
  intro p e s m args below meth cd H locs ls C hl hR hS
  have hsame : ∀ x, s.fieldFound? (T j).1 (T j).2.1 (T j).2.2.1 = some x → s.fieldFound? ref (T j).2.1 (T j).2.2.1 = some x := fun x hx => by
    rcases hsm with h | h
    · rw [← h]; exact hx
    · exact u_same (C.words _ h) x hx
  have hap := va_apart (own := μ.2.1.cls) C.words hin ty0 hty hnm C.cls hc
  obtain ⟨r, h1, cell, q1, q2, q3, q4⟩ := hR.at hK h9
  have hr : r = (Cn, T, N) := Option.some.inj (h1.symm.trans hc)
  subst hr
  obtain ⟨hS1, hfc, kC, hkC, hkind⟩ := C.cls.1 c _ hc
  obtain ⟨cf, kf, fi, f, hi, hsl⟩ := hS1 j hj
  have hlay := C.words _ (hin _ (u_in_lay hj))
  have hst := (u_facts hfc hkC (u_lays C.words hin hj) hi).1
  have fin : ∀ (H' : Heap), H'[a]? = some (cell.setSlot f.slot v) → H'.size = H.size → (∀ q, q ≠ a → H'[q]? = H[q]?) → Rl k S' H' := by
    intro H' e1 e2 e3
    rw [hsl] at e1
    refine hR.set e2 e3 hKs hNs hce ?_
    rw [ce_o (show gK S' a = c + 1 by rw [hKs]; exact hK) h9, hfv]
    exact ⟨_, hc, t_OB.to (V := updV (vp_V (fv S c a)) j v) ⟨_, e1, q2, q3, t_set q4 hap hj v⟩ (fun i _ => vp_updV_set hlen v i)⟩
  have hA : kA k a := hR.lo (by omega)
  rcases hfin with hfin | ⟨hfin, hin2, hdecl⟩
  · unfold u_lay at hlay
    rw [if_neg (by rw [hfin]; decide)] at hlay
    have h6 := u_store hfc hkC hkind hlay hi hds hn hfit
    exact W.putK C.exec C.bytes (f := f) ⟨C.own, C.words _ hw, ⟨_, _, _, hsame _ hi⟩, hst⟩ (by rw [q2]; exact h6) q1 q3 (by rw [hsl]; exact k2_hasslot (q4 j hj)) rfl rfl hd fun H' e1 e2 e3 => kk p e s m args below meth cd H' _ ls C hl (fin H' e1 e2 e3) (hS.put e2 e3 hA)
  · unfold u_lay at hlay
    rw [if_pos hfin] at hlay
    have hcf : m.cls = cf := by
      obtain ⟨_, _, c', _, _, _, -, -, hf', -, -, -, hown2, -⟩ := Cond.laysFinal_spec hlay
      have e1 : c' = cf := by have := hi.symm.trans hf'; simp at this; exact this.1.symm
      rw [hdecl] at hown2
      rw [← e1]; exact Option.some.inj (C.own.symm.trans hown2)
    have h6 := u_fits hfc hkC hkind (Or.inr hlay) hi hds hn hfit
    exact W.putFinK C.exec C.bytes C.own (C.words _ hw) (hsame _ hi) hst hcf (C.name.trans hin2) (by rw [q2]; exact h6) q1 q3 (by rw [hsl]; exact k2_hasslot (q4 j hj)) rfl rfl hd fun H' e1 e2 e3 => kk p e s m args below meth cd H' _ ls C hl (fin H' e1 e2 e3) (hS.put e2 e3 hA)
theorem x_putI {k : KT} {μ : MT} {Z : ZT} {pc : Nat} {lv : List (Nat × Value)} {rest : List Value} {S : HS} {cells slots a idx : Nat} {Cn ref : String} {T : u_T} {N : Nat} {ty : FieldType} {v : Int32} (c j : Nat) (ty0 : Nat → FieldType) (hd : decode μ.2.2.1 pc = .ok (.putfield idx, 3)) (hc : vwCl[c]? = some (Cn, T, N)) (h9 : c < 9) (hj : j < N) (hr : (rfT c)[j]? = some false) (hin : ∀ w ∈ u_ws Cn T N, w ∈ wsL_law) (hty : ∀ k, k < N → parseFieldDescriptor (T k).2.2.1 = some (ty0 k)) (hnm : ∀ a, a < N → ∀ b, b < N → a ≠ b → (T a).2.1 ≠ (T b).2.1) (hw : Cond.fieldLink μ.2.1.cls idx ref (T j).2.1 (T j).2.2.1 ∈ wsL_law) (hsm : (T j).1 = ref ∨ Cond.sameField ref (T j).1 (T j).2.1 (T j).2.2.1 ∈ wsL_law) (hfin : (T j).2.2.2 = false ∨ ((T j).2.2.2 = true ∧ μ.2.1.name = "<init>" ∧ (T j).1 = μ.2.1.cls)) (hds : parseFieldDescriptor (T j).2.2.1 = some ty) (hn : narrow ty (.int v) = .int v) (hfit : fits ty (.int v) = true) (hK : gK S a = c + 1)
    (kk : X k μ Z (pc + 3) lv rest (uI S (32 * c + j) a v) cells slots) : X k μ Z pc lv (.int v :: .ref a :: rest) S cells slots :=
  x_put (S' := uI S (32 * c + j) a v) c j ty0 hd hc h9 hj hin hty hnm hw hsm hfin hds hn hfit hK (fun _ => rfl) rfl (fun _ h => ce_uI h) (by rw [fv_len]; exact (List.getElem?_eq_some_iff.mp hr).1) (fv_setI S a v hr) kk
theorem x_putP {k : KT} {μ : MT} {Z : ZT} {pc : Nat} {lv : List (Nat × Value)} {rest : List Value} {S : HS} {cells slots a idx : Nat} {Cn ref : String} {T : u_T} {N : Nat} {ty : FieldType} {v : Nat} (c j : Nat) (ty0 : Nat → FieldType) (hd : decode μ.2.2.1 pc = .ok (.putfield idx, 3)) (hc : vwCl[c]? = some (Cn, T, N)) (h9 : c < 9) (hj : j < N) (hr : (rfT c)[j]? = some true) (hin : ∀ w ∈ u_ws Cn T N, w ∈ wsL_law) (hty : ∀ k, k < N → parseFieldDescriptor (T k).2.2.1 = some (ty0 k)) (hnm : ∀ a, a < N → ∀ b, b < N → a ≠ b → (T a).2.1 ≠ (T b).2.1) (hw : Cond.fieldLink μ.2.1.cls idx ref (T j).2.1 (T j).2.2.1 ∈ wsL_law) (hsm : (T j).1 = ref ∨ Cond.sameField ref (T j).1 (T j).2.1 (T j).2.2.1 ∈ wsL_law) (hfin : (T j).2.2.2 = false ∨ ((T j).2.2.2 = true ∧ μ.2.1.name = "<init>" ∧ (T j).1 = μ.2.1.cls)) (hds : parseFieldDescriptor (T j).2.2.1 = some ty) (hn : narrow ty (.ref v) = .ref v) (hfit : fits ty (.ref v) = true) (hK : gK S a = c + 1)
    (kk : X k μ Z (pc + 3) lv rest (uP S (32 * c + j) a (some v)) cells slots) : X k μ Z pc lv (.ref v :: .ref a :: rest) S cells slots :=
  x_put (S' := uP S (32 * c + j) a (some v)) c j ty0 hd hc h9 hj hin hty hnm hw hsm hfin hds hn hfit hK (fun _ => rfl) rfl (fun _ h => ce_uP h) (by rw [fv_len]; exact (List.getElem?_eq_some_iff.mp hr).1) (fv_setP S a (some v) hr) kk
theorem fv_new (S : HS) (c : Nat) : fv (nO S c) c (gN S) = (rfT c).map (fun b => if b then Value.null else .int 0) := by
  apply List.ext_getElem?
  intro i
  simp only [fv, List.getElem?_map, List.getElem?_zipIdx]
  cases hb : (rfT c)[i]? with
  | none => rfl
  | some b => cases b <;> simp [gI_nO, gP_nO, va_rf]
theorem x_new {k : KT} {μ : MT} {Z : ZT} {pc : Nat} {lv : List (Nat × Value)} {rest : List Value} {S : HS} {cells slots idx : Nat} {Cn : String} {T : u_T} {N : Nat} (c : Nat) (ty : Nat → FieldType) (hd : decode μ.2.2.1 pc = .ok (.new idx, 3)) (hc : vwCl[c]? = some (Cn, T, N)) (h9 : c < 9) (hin : ∀ w ∈ u_ws Cn T N, w ∈ wsL_law) (hty : ∀ k, k < N → parseFieldDescriptor (T k).2.2.1 = some (ty k)) (hcl : Cond.classLink μ.2.1.cls idx Cn ∈ wsL_law) (hinst : Cond.instantiable Cn N ∈ wsL_law) (hini : Cond.initialized Cn ∈ wsL_law) (hfs : ∀ j, j < N → defaultValue (ty j) = vp_V ((rfT c).map (fun b => if b then Value.null else .int 0)) j) (hce : cells + 1 ≤ μ.1.cells) (hsl : slots + N ≤ μ.1.slots)
    (kk : X k μ Z (pc + 3) lv (.ref (gN S) :: rest) (nO S c) (cells + 1) (slots + N)) : X k μ Z pc lv rest S cells slots := by
  intro p e s m args below meth cd H locs ls C hl hR hS
  have hKn := C.cls.1 c _ hc
  refine W.newcK C.exec C.bytes C.own (C.words _ hcl) (C.words _ hinst) (C.words _ hini) rfl hd hce hsl hKn.2.1 hR.1 fun H1 kC hkC e1 z1 o1 => ?_
  have hlo : k.2.2.2.2 ≤ H.size := Nat.le_trans C.gd.2.2.2.2.2.2.2.2 hS.1
  rw [← hR.1] at o1
  refine kk p e s m args below meth cd H1 locs ls C hl (hR.push (S' := nO S c) (by rw [z1, hR.1]) o1 hlo (fun b hb => by rw [gK_nO, if_neg hb]) (gN_nO S c) (fun b hb => ce_nO hb) ?_) ⟨Nat.le_trans hS.1 (by rw [z1, hR.1]; omega), fun x h1 h2 => (o1 x (Nat.lt_of_lt_of_le h1 hS.1)).trans (hS.2.1 x h1 h2), hS.2.2⟩
  rw [ce_o (show gK (nO S c) (gN S) = c + 1 by rw [gK_nO, if_pos rfl]) h9, fv_new]
  exact ⟨_, hc, (u_born ty C.words hin hKn hkC e1 hty).to hfs⟩
end
section
/-! ROWS OF ARRAYS, STATICS, CASTS over the judgement X -/
theorem Rl.at20 {k : KT} {S : HS} {H : Heap} (h : Rl k S H) {a : Nat} (hK : gK S a = 20) : va_at k.2.1 vwCl (a, .inl (k.2.2.1 0, gL S a, .inl (gR S a))) H := by
  have h1 := (h.2 a (by omega)).2
  rw [ce_20 hK] at h1; exact h1
theorem Rl.at21 {k : KT} {S : HS} {H : Heap} (h : Rl k S H) {a : Nat} (hK : gK S a = 21) : va_at k.2.1 vwCl (a, .inl (k.2.2.1 1, gL S a, .inl (gR S a))) H := by
  have h1 := (h.2 a (by omega)).2
  rw [ce_21 hK] at h1; exact h1
theorem Rl.at22 {k : KT} {S : HS} {H : Heap} (h : Rl k S H) {a : Nat} (hK : gK S a = 22) : va_at k.2.1 vwCl (a, .inl (k.2.2.1 2, gL S a, .inr (.inr (.inr (.inr (gQ S a)))))) H := by
  have h1 := (h.2 a (by omega)).2
  rw [ce_22 hK] at h1; exact h1
theorem Rl.at23 {k : KT} {S : HS} {H : Heap} (h : Rl k S H) {a : Nat} (hK : gK S a = 23) : va_at k.2.1 vwCl (a, .inl (k.2.2.1 3, gL S a, .inr (.inr (.inr (.inr (gQ S a)))))) H := by
  have h1 := (h.2 a (by omega)).2
  rw [ce_23 hK] at h1; exact h1
theorem x_iaload {k : KT} {μ : MT} {Z : ZT} {pc : Nat} {lv : List (Nat × Value)} {rest : List Value} {S : HS} {cells slots a : Nat} {i : Int32} (hd : decode μ.2.2.1 pc = .ok (.iaload, 1)) (hK : gK S a = 20) (hin : vp_in i (gL S a)) (kk : X k μ Z (pc + 1) lv (.int (gR S a i.toNatClampNeg) :: rest) S cells slots) : X k μ Z pc lv (.int i :: .ref a :: rest) S cells slots := fun p e s m args below meth cd H locs ls C hl hR hS =>
  va_iald (D := k.2.1) (cl := vwCl) C.exec C.bytes C.cls (vP1 (hR.at20 hK)) 0 0 rfl rfl hin hd (kk p e s m args below meth cd H locs ls C hl hR hS)
theorem x_baload {k : KT} {μ : MT} {Z : ZT} {pc : Nat} {lv : List (Nat × Value)} {rest : List Value} {S : HS} {cells slots a : Nat} {i : Int32} (hd : decode μ.2.2.1 pc = .ok (.baload, 1)) (hK : gK S a = 21) (hin : vp_in i (gL S a)) (kk : X k μ Z (pc + 1) lv (.int (gR S a i.toNatClampNeg) :: rest) S cells slots) : X k μ Z pc lv (.int i :: .ref a :: rest) S cells slots := fun p e s m args below meth cd H locs ls C hl hR hS =>
  va_zald (D := k.2.1) (cl := vwCl) C.exec C.bytes C.cls (vP1 (hR.at21 hK)) 0 1 rfl rfl hin hd (kk p e s m args below meth cd H locs ls C hl hR hS)
theorem x_aaload22 {k : KT} {μ : MT} {Z : ZT} {pc : Nat} {lv : List (Nat × Value)} {rest : List Value} {S : HS} {cells slots a : Nat} {i : Int32} (hd : decode μ.2.2.1 pc = .ok (.aaload, 1)) (hK : gK S a = 22) (hin : vp_in i (gL S a)) (kk : X k μ Z (pc + 1) lv (va_rf (gQ S a i.toNatClampNeg) :: rest) S cells slots) : X k μ Z pc lv (.int i :: .ref a :: rest) S cells slots := fun p e s m args below meth cd H locs ls C hl hR hS =>
  va_aldq (D := k.2.1) (cl := vwCl) C.exec C.bytes C.cls (vP1 (hR.at22 hK)) 0 2 rfl rfl hin hd (kk p e s m args below meth cd H locs ls C hl hR hS)
theorem x_aaload23 {k : KT} {μ : MT} {Z : ZT} {pc : Nat} {lv : List (Nat × Value)} {rest : List Value} {S : HS} {cells slots a : Nat} {i : Int32} (hd : decode μ.2.2.1 pc = .ok (.aaload, 1)) (hK : gK S a = 23) (hin : vp_in i (gL S a)) (kk : X k μ Z (pc + 1) lv (va_rf (gQ S a i.toNatClampNeg) :: rest) S cells slots) : X k μ Z pc lv (.int i :: .ref a :: rest) S cells slots := fun p e s m args below meth cd H locs ls C hl hR hS =>
  va_aldq (D := k.2.1) (cl := vwCl) C.exec C.bytes C.cls (vP1 (hR.at23 hK)) 0 3 rfl rfl hin hd (kk p e s m args below meth cd H locs ls C hl hR hS)
theorem x_alen {k : KT} {μ : MT} {Z : ZT} {pc : Nat} {lv : List (Nat × Value)} {rest : List Value} {S : HS} {cells slots a : Nat} (hd : decode μ.2.2.1 pc = .ok (.arraylength, 1)) (hK : gK S a = 20 ∨ gK S a = 22 ∨ gK S a = 23) (kk : X k μ Z (pc + 1) lv (.int (nI (gL S a)) :: rest) S cells slots) : X k μ Z pc lv (.ref a :: rest) S cells slots := fun p e s m args below meth cd H locs ls C hl hR hS => by
  rcases hK with hK | hK | hK
  · exact va_alen (D := k.2.1) (cl := vwCl) C.exec C.bytes C.cls (vP1 (hR.at20 hK)) 0 0 rfl (ty := .int) rfl (v := nI (gL S a)) rfl hd (kk p e s m args below meth cd H locs ls C hl hR hS)
  · exact va_alen (D := k.2.1) (cl := vwCl) C.exec C.bytes C.cls (vP1 (hR.at22 hK)) 0 2 rfl (ty := .object "GlobeWorks$Gore") rfl (v := nI (gL S a)) rfl hd (kk p e s m args below meth cd H locs ls C hl hR hS)
  · exact va_alen (D := k.2.1) (cl := vwCl) C.exec C.bytes C.cls (vP1 (hR.at23 hK)) 0 3 rfl (ty := .object "java/lang/Object") rfl (v := nI (gL S a)) rfl hd (kk p e s m args below meth cd H locs ls C hl hR hS)
theorem x_iastore {k : KT} {μ : MT} {Z : ZT} {pc : Nat} {lv : List (Nat × Value)} {rest : List Value} {S : HS} {cells slots a : Nat} {i x : Int32} (hd : decode μ.2.2.1 pc = .ok (.iastore, 1)) (hK : gK S a = 20) (hin : vp_in i (gL S a)) (kk : X k μ Z (pc + 1) lv rest (uR S a (upd (gR S a) i.toNatClampNeg x)) cells slots) : X k μ Z pc lv (.int x :: .int i :: .ref a :: rest) S cells slots := fun p e s m args below meth cd H locs ls C hl hR hS => by
  refine W.iast C.exec C.bytes (hR.at20 hK) ((C.cls.2 0 _ rfl).1 (gL S a) (fun j => .int (gR S a j))) (fun q => by cases q) (by show ¬ (i < 0 ∨ (arrV _ _ _).slots.size ≤ _); rw [arrV_size]; exact hin) rfl rfl hd fun H1 e1 z oq => ?_
  refine kk p e s m args below meth cd H1 _ ls C hl (hR.set z oq (fun _ => rfl) rfl (fun b hb => ce_uR hb) ?_) (hS.put z oq (hR.lo (a := a) (by rw [hK]; decide)))
  rw [ce_20 (show gK (uR S a _) a = 20 from hK)]
  show H1[a]? = some (vp_cell _ _)
  rw [e1, vp_cell_i, vp_cell_i, arrV_store, gR_uR, if_pos rfl]
  show some (arrV _ _ _) = some (arrV _ (gL S a) _)
  congr 2
  funext q
  by_cases hq : q = i.toNatClampNeg
  · subst hq; simp [updV, upd]
  · simp [updV, upd, hq]
theorem x_bastore {k : KT} {μ : MT} {Z : ZT} {pc : Nat} {lv : List (Nat × Value)} {rest : List Value} {S : HS} {cells slots a : Nat} {i x : Int32} (hd : decode μ.2.2.1 pc = .ok (.bastore, 1)) (hK : gK S a = 21) (hin : vp_in i (gL S a)) (hx : narrow .boolean (.int x) = .int x) (kk : X k μ Z (pc + 1) lv rest (uR S a (upd (gR S a) i.toNatClampNeg x)) cells slots) : X k μ Z pc lv (.int x :: .int i :: .ref a :: rest) S cells slots := fun p e s m args below meth cd H locs ls C hl hR hS => by
  refine W.zast C.exec C.bytes (hR.at21 hK) ((C.cls.2 1 _ rfl).1 (gL S a) (fun j => .int (gR S a j))) (fun q => by cases q) (by show ¬ (i < 0 ∨ (arrV _ _ _).slots.size ≤ _); rw [arrV_size]; exact hin) rfl rfl hd fun H1 e1 z oq => ?_
  refine kk p e s m args below meth cd H1 _ ls C hl (hR.set z oq (fun _ => rfl) rfl (fun b hb => ce_uR hb) ?_) (hS.put z oq (hR.lo (a := a) (by rw [hK]; decide)))
  rw [ce_21 (show gK (uR S a _) a = 21 from hK)]
  show H1[a]? = some (vp_cell _ _)
  rw [e1, hx, vp_cell_i, vp_cell_i, arrV_store, gR_uR, if_pos rfl]
  show some (arrV _ _ _) = some (arrV _ (gL S a) _)
  congr 2
  funext q
  by_cases hq : q = i.toNatClampNeg
  · subst hq; simp [updV, upd]
  · simp [updV, upd, hq]
/-- an object of a class may stand in a row of Objects -/
theorem Rl.any {k : KT} {S : HS} {H : Heap} {s : State} (h : Rl k S H) (hK : va_K k.2.1 vwCl (kT k) s) {v c : Nat} {q : vw_C} {E : String} (hv : gK S v = c + 1) (h9 : c < 9) (hc : vwCl[c]? = some q) (hca : ∀ comp c0 : ClassId, s.vm.findClass E = some comp → s.vm.findClass q.1 = some c0 → s.vm.assignable c0 comp = true) : va_Any E s H v :=
  va_rAny hK (vP1 (h.at hv h9)) (q0 := 0) rfl hc hca
theorem x_aastore {k : KT} {μ : MT} {Z : ZT} {pc : Nat} {lv : List (Nat × Value)} {rest : List Value} {S : HS} {cells slots a v c : Nat} {q : vw_C} {i : Int32} (hd : decode μ.2.2.1 pc = .ok (.aastore, 1)) (hK : gK S a = 23) (hin : vp_in i (gL S a)) (hv : gK S v = c + 1) (h9 : c < 9) (hc : vwCl[c]? = some q) (hcs : (q.1, "java/lang/Object") ∈ csL) (kk : X k μ Z (pc + 1) lv rest (uQ S a (va_up (gQ S a) i.toNatClampNeg (some v))) cells slots) : X k μ Z pc lv (.ref v :: .int i :: .ref a :: rest) S cells slots := fun p e s m args below meth cd H locs ls C hl hR hS => by
  have hlt : i.toNatClampNeg < gL S a := Nat.not_le.mp fun q => hin (Or.inr q)
  have h0 : ¬ i < 0 := fun q => hin (Or.inl q)
  obtain ⟨cellV, g1, g3, ⟨kC, hkC⟩, hasg⟩ := hR.any C.cls hv h9 hc (vb_asgC (E := "java/lang/Object") (C.gd.2.2.1 _ hcs))
  obtain ⟨kA, comp, k1, k2, k3, -⟩ := (C.cls.2 3 _ rfl).2
  obtain ⟨kE, hkE, -⟩ := Vm.findClass_spec k3
  refine W.aast C.exec C.bytes (hR.at23 hK) (fun q h => by cases h) (fun h => by cases h) k1 k2 rfl hkE ⟨h0, by show _ < (arrV _ _ _).slots.size; rw [arrV_size]; exact hlt⟩ g1 (fun q h => by rw [h] at g3; cases g3) hkC (hasg _ k3) rfl rfl hd fun H1 e1 z oq => ?_
  refine kk p e s m args below meth cd H1 _ ls C hl (hR.set z oq (fun _ => rfl) rfl (fun b hb => ce_uQ hb) ?_) (hS.put z oq (hR.lo (a := a) (by rw [hK]; decide)))
  rw [ce_23 (show gK (uQ S a _) a = 23 from hK)]
  show H1[a]? = some (vp_cell _ _)
  rw [e1, vp_cell_q, vp_cell_q, arrV_store, gQ_uQ, if_pos rfl]
  show some (arrV _ _ _) = some (arrV _ (gL S a) _)
  congr 2
  funext q
  by_cases hq : q = i.toNatClampNeg
  · subst hq; simp [updV, va_up, va_rf]
  · simp [updV, va_up, hq]
theorem x_aastoreN {k : KT} {μ : MT} {Z : ZT} {pc : Nat} {lv : List (Nat × Value)} {rest : List Value} {S : HS} {cells slots a : Nat} {i : Int32} (hd : decode μ.2.2.1 pc = .ok (.aastore, 1)) (hK : gK S a = 23) (hin : vp_in i (gL S a)) (kk : X k μ Z (pc + 1) lv rest (uQ S a (va_up (gQ S a) i.toNatClampNeg none)) cells slots) : X k μ Z pc lv (.null :: .int i :: .ref a :: rest) S cells slots := fun p e s m args below meth cd H locs ls C hl hR hS => by
  refine va_WaastN (C := "java/lang/Object") C.exec C.bytes (hR.at23 hK) ((C.cls.2 3 _ rfl).1 (gL S a) (fun j => va_rf (gQ S a j))) (fun h => by cases h) (by show ¬ (i < 0 ∨ (arrV _ _ _).slots.size ≤ _); rw [arrV_size]; exact hin) rfl rfl hd fun H1 e1 z oq => ?_
  refine kk p e s m args below meth cd H1 _ ls C hl (hR.set z oq (fun _ => rfl) rfl (fun b hb => ce_uQ hb) ?_) (hS.put z oq (hR.lo (a := a) (by rw [hK]; decide)))
  rw [ce_23 (show gK (uQ S a _) a = 23 from hK)]
  show H1[a]? = some (vp_cell _ _)
  rw [e1, vp_cell_q, vp_cell_q, arrV_store, gQ_uQ, if_pos rfl]
  show some (arrV _ _ _) = some (arrV _ (gL S a) _)
  congr 2
  funext q
  by_cases hq : q = i.toNatClampNeg
  · subst hq; simp [updV, va_up, va_rf]
  · simp [updV, va_up, hq]
/-- a gore is put into the row of gores -/
theorem x_aastore22 {k : KT} {μ : MT} {Z : ZT} {pc : Nat} {lv : List (Nat × Value)} {rest : List Value} {S : HS} {cells slots a v : Nat} {i : Int32} (hd : decode μ.2.2.1 pc = .ok (.aastore, 1)) (hK : gK S a = 22) (hin : vp_in i (gL S a)) (hv : gK S v = 3) (kk : X k μ Z (pc + 1) lv rest (uQ S a (va_up (gQ S a) i.toNatClampNeg (some v))) cells slots) : X k μ Z pc lv (.ref v :: .int i :: .ref a :: rest) S cells slots := fun p e s m args below meth cd H locs ls C hl hR hS => by
  have hlt : i.toNatClampNeg < gL S a := Nat.not_le.mp fun q => hin (Or.inr q)
  have h0 : ¬ i < 0 := fun q => hin (Or.inl q)
  obtain ⟨cellV, g1, g3, ⟨kC, hkC⟩, hasg⟩ := hR.any C.cls (c := 2) (q := (RX1, TX1, 5)) (E := "GlobeWorks$Gore") hv (by decide) rfl (vb_asgS (C := "GlobeWorks$Gore"))
  obtain ⟨kA, comp, k1, k2, k3, -⟩ := (C.cls.2 2 _ rfl).2
  obtain ⟨kE, hkE, -⟩ := Vm.findClass_spec k3
  refine W.aast C.exec C.bytes (hR.at22 hK) (fun q h => by cases h) (fun h => by cases h) k1 k2 rfl hkE ⟨h0, by show _ < (arrV _ _ _).slots.size; rw [arrV_size]; exact hlt⟩ g1 (fun q h => by rw [h] at g3; cases g3) hkC (hasg _ k3) rfl rfl hd fun H1 e1 z oq => ?_
  refine kk p e s m args below meth cd H1 _ ls C hl (hR.set z oq (fun _ => rfl) rfl (fun b hb => ce_uQ hb) ?_) (hS.put z oq (hR.lo (a := a) (by rw [hK]; decide)))
  rw [ce_22 (show gK (uQ S a _) a = 22 from hK)]
  show H1[a]? = some (vp_cell _ _)
  rw [e1, vp_cell_q, vp_cell_q, arrV_store, gQ_uQ, if_pos rfl]
  show some (arrV _ _ _) = some (arrV _ (gL S a) _)
  congr 2
  funext q
  by_cases hq : q = i.toNatClampNeg
  · subst hq; simp [updV, va_up, va_rf]
  · simp [updV, va_up, hq]
theorem x_newaI {k : KT} {μ : MT} {Z : ZT} {pc : Nat} {lv : List (Nat × Value)} {rest : List Value} {S : HS} {cells slots : Nat} {n : Int32} (N : Nat) (hd : decode μ.2.2.1 pc = .ok (.newarray .int, 2)) (hw : Cond.arrayClass .int ∈ wsL_law) (hn : ¬ n < 0) (hN : n.toNatClampNeg = N) (hb : N * 4 ≤ 536870912) (hce : cells + 1 ≤ μ.1.cells) (hsl : slots + N ≤ μ.1.slots) (kk : X k μ Z (pc + 2) lv (.ref (gN S) :: rest) (nA S 20 N) (cells + 1) (slots + N)) : X k μ Z pc lv (.int n :: rest) S cells slots := fun p e s m args below meth cd H locs ls C hl hR hS => by
  refine va_newaK C.exec C.bytes (atype := .int) (C.words _ hw) rfl hd rfl hn hN hb hce hsl hR.1 fun H1 cA e1 z1 o1 hAr hNm => ?_
  have hcA : cA = k.2.2.1 0 := Option.some.inj (hNm.symm.trans (C.cls.2 0 _ rfl).2)
  subst hcA
  have hlo : k.2.2.2.2 ≤ H.size := Nat.le_trans C.gd.2.2.2.2.2.2.2.2 hS.1
  rw [← hR.1] at o1
  refine kk p e s m args below meth cd H1 locs ls C hl (hR.push (S' := nA S 20 N) (by rw [z1, hR.1]) o1 hlo (fun b hb => by rw [gK_nA, if_neg hb]) (gN_nA S 20 N) (fun b hb => ce_nA hb) ?_) ⟨Nat.le_trans hS.1 (by rw [z1, hR.1]; omega), fun x h1 h2 => (o1 x (Nat.lt_of_lt_of_le h1 hS.1)).trans (hS.2.1 x h1 h2), hS.2.2⟩
  rw [ce_20 (show gK (nA S 20 N) (gN S) = 20 by rw [gK_nA, if_pos rfl])]
  show H1[gN S]? = some (vp_cell _ _)
  rw [e1, vp_cell_i, gR_nA, if_pos rfl, gL_nA, if_pos rfl]
  rfl
theorem x_newaZ {k : KT} {μ : MT} {Z : ZT} {pc : Nat} {lv : List (Nat × Value)} {rest : List Value} {S : HS} {cells slots : Nat} {n : Int32} (N : Nat) (hd : decode μ.2.2.1 pc = .ok (.newarray .boolean, 2)) (hw : Cond.arrayClass .boolean ∈ wsL_law) (hn : ¬ n < 0) (hN : n.toNatClampNeg = N) (hb : N * 1 ≤ 536870912) (hce : cells + 1 ≤ μ.1.cells) (hsl : slots + N ≤ μ.1.slots) (kk : X k μ Z (pc + 2) lv (.ref (gN S) :: rest) (nA S 21 N) (cells + 1) (slots + N)) : X k μ Z pc lv (.int n :: rest) S cells slots := fun p e s m args below meth cd H locs ls C hl hR hS => by
  refine va_newaK C.exec C.bytes (atype := .boolean) (C.words _ hw) rfl hd rfl hn hN hb hce hsl hR.1 fun H1 cA e1 z1 o1 hAr hNm => ?_
  have hcA : cA = k.2.2.1 1 := Option.some.inj (hNm.symm.trans (C.cls.2 1 _ rfl).2)
  subst hcA
  have hlo : k.2.2.2.2 ≤ H.size := Nat.le_trans C.gd.2.2.2.2.2.2.2.2 hS.1
  rw [← hR.1] at o1
  refine kk p e s m args below meth cd H1 locs ls C hl (hR.push (S' := nA S 21 N) (by rw [z1, hR.1]) o1 hlo (fun b hb => by rw [gK_nA, if_neg hb]) (gN_nA S 21 N) (fun b hb => ce_nA hb) ?_) ⟨Nat.le_trans hS.1 (by rw [z1, hR.1]; omega), fun x h1 h2 => (o1 x (Nat.lt_of_lt_of_le h1 hS.1)).trans (hS.2.1 x h1 h2), hS.2.2⟩
  rw [ce_21 (show gK (nA S 21 N) (gN S) = 21 by rw [gK_nA, if_pos rfl])]
  show H1[gN S]? = some (vp_cell _ _)
  rw [e1, vp_cell_i, gR_nA, if_pos rfl, gL_nA, if_pos rfl]
  rfl
theorem x_anew {k : KT} {μ : MT} {Z : ZT} {pc : Nat} {lv : List (Nat × Value)} {rest : List Value} {S : HS} {cells slots idx : Nat} {n : Int32} {Cn : String} (kd t N : Nat) (hd : decode μ.2.2.1 pc = .ok (.anewarray idx, 3)) (hcl : Cond.classLink μ.2.1.cls idx Cn ∈ wsL_law) (hkd : (kd = 22 ∧ t = 2 ∧ Cn = "GlobeWorks$Gore") ∨ (kd = 23 ∧ t = 3 ∧ Cn = "java/lang/Object")) (hn : ¬ n < 0) (hN : n.toNatClampNeg = N) (hb : N * 4 ≤ 536870912) (hce : cells + 1 ≤ μ.1.cells) (hsl : slots + N ≤ μ.1.slots) (kk : X k μ Z (pc + 3) lv (.ref (gN S) :: rest) (nA S kd N) (cells + 1) (slots + N)) : X k μ Z pc lv (.int n :: rest) S cells slots := fun p e s m args below meth cd H locs ls C hl hR hS => by
  subst hN
  have hover : va_AO Cn s := by
    rcases hkd with ⟨-, -, rfl⟩ | ⟨-, -, rfl⟩
    · exact C.gd.2.2.2.1.1
    · exact C.gd.2.2.2.1.2
  refine W.anew C.exec C.bytes C.own (C.words _ hcl) (va_AO.use hover) rfl hd rfl hn hb hce hsl fun cA kAr comp f1 f2 f3 f4 => ?_
  generalize hH1 : H.push ({ cls := cA, slots := Array.replicate n.toNatClampNeg .null, vm := .none } : Cell) = H1
  have z1 : H1.size = H.size + 1 := by rw [← hH1, Array.size_push]
  have e1 : H1[H.size]? = some (arrV cA n.toNatClampNeg (fun _ => .null)) := by rw [← hH1, Array.getElem?_push_size, ← arrV_new]
  have o1 : ∀ q : Nat, q < H.size → H1[q]? = H[q]? := fun q hq => by rw [← hH1, Array.getElem?_push, if_neg (Nat.ne_of_lt hq)]
  have hlo : k.2.2.2.2 ≤ H.size := Nat.le_trans C.gd.2.2.2.2.2.2.2.2 hS.1
  have hSs : va_S (kA k) s.heap H1 locs := ⟨Nat.le_trans hS.1 (by rw [z1]; omega), fun x h1 h2 => (o1 x (Nat.lt_of_lt_of_le h1 hS.1)).trans (hS.2.1 x h1 h2), hS.2.2⟩
  have hRl : Rl k (nA S kd n.toNatClampNeg) H1 := by
    refine hR.push (S' := nA S kd n.toNatClampNeg) z1 o1 hlo (fun b hb => by rw [gK_nA, if_neg hb]) (gN_nA S kd _) (fun b hb => ce_nA hb) ?_
    have hk0 : gK (nA S kd n.toNatClampNeg) (gN S) = kd := by rw [gK_nA, if_pos rfl]
    rcases hkd with ⟨rfl, -, rfl⟩ | ⟨rfl, -, rfl⟩
    · obtain ⟨-, -, -, -, -, r4⟩ := (C.cls.2 2 _ rfl).2
      have hcA : cA = k.2.2.1 2 := Option.some.inj (f1.symm.trans r4)
      rw [ce_22 hk0]
      show H1[gN S]? = some (vp_cell _ _)
      rw [vp_cell_q, gQ_nA, if_pos rfl, gL_nA, if_pos rfl, ← hcA, ← hR.1, e1]
      rfl
    · obtain ⟨-, -, -, -, -, r4⟩ := (C.cls.2 3 _ rfl).2
      have hcA : cA = k.2.2.1 3 := Option.some.inj (f1.symm.trans r4)
      rw [ce_23 hk0]
      show H1[gN S]? = some (vp_cell _ _)
      rw [vp_cell_q, gQ_nA, if_pos rfl, gL_nA, if_pos rfl, ← hcA, ← hR.1, e1]
      rfl
  have := kk p e s m args below meth cd H1 locs ls C hl hRl hSs
  rw [← hR.1] at this
  exact this
theorem x_ldc {k : KT} {μ : MT} {Z : ZT} {pc : Nat} {lv : List (Nat × Value)} {rest : List Value} {S : HS} {cells slots idx : Nat} {v : Int32} (hd : decode μ.2.2.1 pc = .ok (.ldc idx, 2)) (hw : Cond.constant μ.2.1.cls idx v ∈ wsL_law) (kk : X k μ Z (pc + 2) lv (.int v :: rest) S cells slots) : X k μ Z pc lv rest S cells slots := fun p e s m args below meth cd H locs ls C hl hR hS =>
  lv_ldc C.exec C.bytes C.own (C.words _ hw) hd (kk p e s m args below meth cd H locs ls C hl hR hS)
theorem x_ldcM {k : KT} {μ : MT} {Z : ZT} {pc : Nat} {lv : List (Nat × Value)} {rest : List Value} {S : HS} {cells slots idx : Nat} (hd : decode μ.2.2.1 pc = .ok (.ldc idx, 2)) (hw : Cond.classLink μ.2.1.cls idx "[Ljava/lang/Object;" ∈ wsL_law) (kk : X k μ Z (pc + 2) lv (.ref (k.2.2.2.1 3) :: rest) S cells slots) : X k μ Z pc lv rest S cells slots := fun p e s m args below meth cd H locs ls C hl hR hS =>
  va_ldcM C.exec C.bytes C.own (C.words _ hw) C.gd.2.2.2.2.2.2.1 hd (kk p e s m args below meth cd H locs ls C hl hR hS)
theorem x_getsE {k : KT} {μ : MT} {Z : ZT} {pc : Nat} {lv : List (Nat × Value)} {rest : List Value} {S : HS} {cells slots idx : Nat} (hd : decode μ.2.2.1 pc = .ok (.getstatic idx, 3)) (hw : Cond.fieldLink μ.2.1.cls idx "java/util/ArrayList" "DEFAULTCAPACITY_EMPTY_ELEMENTDATA" "[Ljava/lang/Object;" ∈ wsL_law) (kk : X k μ Z (pc + 3) lv (.ref (k.2.2.2.1 0) :: rest) S cells slots) : X k μ Z pc lv rest S cells slots := fun p e s m args below meth cd H locs ls C hl hR hS =>
  va_gets C.exec C.bytes C.gd.2.2.2.2.1.1 hS C.own (C.words _ hw) (fun _ h => h) hd (kk p e s m args below meth cd H locs ls C hl hR hS)
theorem x_getsC {k : KT} {μ : MT} {Z : ZT} {pc : Nat} {lv : List (Nat × Value)} {rest : List Value} {S : HS} {cells slots idx : Nat} (hd : decode μ.2.2.1 pc = .ok (.getstatic idx, 3)) (hw : Cond.fieldLink μ.2.1.cls idx "GlobeWorks" "COS" "[I" ∈ wsL_law) (kk : X k μ Z (pc + 3) lv (.ref (k.2.2.2.1 1) :: rest) S cells slots) : X k μ Z pc lv rest S cells slots := fun p e s m args below meth cd H locs ls C hl hR hS =>
  va_gets C.exec C.bytes C.gd.2.2.2.2.1.2.1 hS C.own (C.words _ hw) (fun _ h => h) hd (kk p e s m args below meth cd H locs ls C hl hR hS)
theorem x_getsG {k : KT} {μ : MT} {Z : ZT} {pc : Nat} {lv : List (Nat × Value)} {rest : List Value} {S : HS} {cells slots idx : Nat} (hd : decode μ.2.2.1 pc = .ok (.getstatic idx, 3)) (hw : Cond.fieldLink μ.2.1.cls idx "GlobeWorks" "GORE_NUMBERS" "[I" ∈ wsL_law) (kk : X k μ Z (pc + 3) lv (.ref (k.2.2.2.1 2) :: rest) S cells slots) : X k μ Z pc lv rest S cells slots := fun p e s m args below meth cd H locs ls C hl hR hS =>
  va_gets C.exec C.bytes C.gd.2.2.2.2.1.2.2 hS C.own (C.words _ hw) (fun _ h => h) hd (kk p e s m args below meth cd H locs ls C hl hR hS)
theorem x_tiC {k : KT} {μ : MT} {Z : ZT} {pc : Nat} {lv : List (Nat × Value)} {rest : List Value} {S : HS} {cells slots : Nat} {i : Int32} (hd : decode μ.2.2.1 pc = .ok (.iaload, 1)) (hin : vp_in i 91) (kk : X k μ Z (pc + 1) lv (.int (cosL.getD i.toNatClampNeg 0) :: rest) S cells slots) : X k μ Z pc lv (.int i :: .ref (k.2.2.2.1 1) :: rest) S cells slots := fun p e s m args below meth cd H locs ls C hl hR hS =>
  va_ti C.exec C.bytes C.gd.2.2.2.2.2.1.2.1 hS hin rfl hd (kk p e s m args below meth cd H locs ls C hl hR hS)
theorem x_tiG {k : KT} {μ : MT} {Z : ZT} {pc : Nat} {lv : List (Nat × Value)} {rest : List Value} {S : HS} {cells slots : Nat} {i : Int32} (hd : decode μ.2.2.1 pc = .ok (.iaload, 1)) (hin : vp_in i 9) (kk : X k μ Z (pc + 1) lv (.int (gorL.getD i.toNatClampNeg 0) :: rest) S cells slots) : X k μ Z pc lv (.int i :: .ref (k.2.2.2.1 2) :: rest) S cells slots := fun p e s m args below meth cd H locs ls C hl hR hS =>
  va_ti C.exec C.bytes C.gd.2.2.2.2.2.1.2.2 hS hin rfl hd (kk p e s m args below meth cd H locs ls C hl hR hS)
theorem x_tlenE {k : KT} {μ : MT} {Z : ZT} {pc : Nat} {lv : List (Nat × Value)} {rest : List Value} {S : HS} {cells slots : Nat} (hd : decode μ.2.2.1 pc = .ok (.arraylength, 1)) (kk : X k μ Z (pc + 1) lv (.int 0 :: rest) S cells slots) : X k μ Z pc lv (.ref (k.2.2.2.1 0) :: rest) S cells slots := fun p e s m args below meth cd H locs ls C hl hR hS =>
  va_tlen C.exec C.bytes C.gd.2.2.2.2.2.1.1 hS (v := 0) rfl hd (kk p e s m args below meth cd H locs ls C hl hR hS)
theorem x_tlenC {k : KT} {μ : MT} {Z : ZT} {pc : Nat} {lv : List (Nat × Value)} {rest : List Value} {S : HS} {cells slots : Nat} (hd : decode μ.2.2.1 pc = .ok (.arraylength, 1)) (kk : X k μ Z (pc + 1) lv (.int 91 :: rest) S cells slots) : X k μ Z pc lv (.ref (k.2.2.2.1 1) :: rest) S cells slots := fun p e s m args below meth cd H locs ls C hl hR hS =>
  va_tlen C.exec C.bytes C.gd.2.2.2.2.2.1.2.1 hS (v := 91) rfl hd (kk p e s m args below meth cd H locs ls C hl hR hS)
theorem x_tlenG {k : KT} {μ : MT} {Z : ZT} {pc : Nat} {lv : List (Nat × Value)} {rest : List Value} {S : HS} {cells slots : Nat} (hd : decode μ.2.2.1 pc = .ok (.arraylength, 1)) (kk : X k μ Z (pc + 1) lv (.int 9 :: rest) S cells slots) : X k μ Z pc lv (.ref (k.2.2.2.1 2) :: rest) S cells slots := fun p e s m args below meth cd H locs ls C hl hR hS =>
  va_tlen C.exec C.bytes C.gd.2.2.2.2.2.1.2.2 hS (v := 9) rfl hd (kk p e s m args below meth cd H locs ls C hl hR hS)
theorem x_cast {k : KT} {μ : MT} {Z : ZT} {pc : Nat} {lv : List (Nat × Value)} {rest : List Value} {S : HS} {cells slots idx a : Nat} {q : vw_C} (c : Nat) (hd : decode μ.2.2.1 pc = .ok (.checkcast idx, 3)) (hc : vwCl[c]? = some q) (h9 : c < 9) (hw : Cond.classLink μ.2.1.cls idx q.1 ∈ wsL_law) (hK : gK S a = c + 1) (kk : X k μ Z (pc + 3) lv (.ref a :: rest) S cells slots) : X k μ Z pc lv (.ref a :: rest) S cells slots := fun p e s m args below meth cd H locs ls C hl hR hS =>
  va_castS C.exec C.bytes C.own (C.words _ hw) (C.cls.1 c _ hc).2 (va_recv C.cls (vP1 (hR.at hK h9)) hc (q0 := 0) rfl) hd (kk p e s m args below meth cd H locs ls C hl hR hS)
end
section
/-! CALLS over the judgement X -/
theorem x_back {k : KT} {μ : MT} {Z : ZT} {Q : Option Value → HS → Prop} {mc ms pc : Nat} {a : Array Value} {ls : Array Slot} {lv : List (Nat × Value)} {st0 rest : List Value} {p : Program} {e : Env} {s : State} {m : MethodId} {args : Array Value} {below : List Frame} {meth : Method} {c : Code} {H : Heap} {locs : List Loc} {cells slots : Nat} (C : Cx k μ p s m args meth c) (hl : lv_has ls μ.2.2.2.1 lv) (hS : va_S (kA k) s.heap H locs) (hr : va_Run p k.1 e μ.1 s m args below meth c H locs cells slots mc ms (F0 m pc ls st0) rest (Qc k Q a) (kA k)) (kk : ∀ v S', Q v S' → X k μ Z (pc + 3) lv (v.toList ++ rest) S' (cells + mc) (slots + ms)) : W p k.1 e μ.1 s m args below meth c H locs cells slots (Z below args s) (F0 m pc ls st0) := by
  intro T hT X0
  obtain ⟨v, st₀, t, T', L, h0, X', hL, e1, e2, ⟨⟨v', S', hv, hq, hRl⟩, hz, hk⟩, st⟩ := hr T hT X0
  cases hv
  rw [h0] at hz hk
  obtain ⟨t2, a1, b1⟩ := kk v S' hq p e s m args below meth c T'.heap (locs ++ L) ls C hl (by rw [e1]; exact hRl) ⟨Nat.le_trans hS.1 (by rw [e1]; exact hz), fun q h1 h2 => by rw [e1, hk q (Nat.lt_of_lt_of_le h1 hS.1) h2]; exact hS.2.1 q h1 h2, fun q hq => by
    rcases List.mem_append.mp hq with h | h
    · exact hS.2.2 q h
    · exact hL q h⟩ T' rfl X'
  exact ⟨t2, st t2 a1, b1⟩
abbrev okN (y : MethodName) (n : Nat) : Prop := y.cls ≠ "java/lang/invoke/MethodHandle" ∧ y.cls ≠ "java/lang/invoke/VarHandle" ∧ (parseMethodDescriptor y.desc).map (fun d => d.parameters.length) = some n
abbrev okR (ν μ : MT) (cells slots : Nat) (rest : List Value) : Prop := ν.1.frames + 1 ≤ μ.1.frames ∧ 8 + (ν.2.2.2.1 + 11) + ν.1.locals ≤ μ.1.locals ∧ cells + ν.1.cells ≤ μ.1.cells ∧ slots + ν.1.slots ≤ μ.1.slots ∧ (rest.map fun v => v.category).sum ≤ 8
theorem x_static {k : KT} {μ : MT} {Z : ZT} {Q : Option Value → HS → Prop} {pc idx : Nat} {lv : List (Nat × Value)} {st : List Value} {S : HS} {cells slots : Nat} (ν : MT) (As rest : List Value) (hd : decode μ.2.2.1 pc = .ok (.invokestatic idx, 3)) (hst : st = As.reverse ++ rest) (hC : Ct k ν As S Q) (hlk : Cond.methodLink μ.2.1.cls idx ν.2.1 ∈ wsL_law) (hs : Cond.static ν.2.1 ∈ wsL_law) (hi : Cond.initialized ν.2.1.cls ∈ wsL_law) (hcd : Cond.code ν.2.1 ν.2.2.1 ν.2.2.2.1 ν.2.2.2.2 ∈ wsL_law) (hn : okN ν.2.1 As.length) (hrm : okR ν μ cells slots rest) (kk : ∀ v S', Q v S' → X k μ Z (pc + 3) lv (v.toList ++ rest) S' (cells + ν.1.cells) (slots + ν.1.slots)) : X k μ Z pc lv st S cells slots := fun p e s m args below meth c H locs ls C hl hR hS => by
  obtain ⟨r1, r2, r3, r4, r5⟩ := hrm
  exact x_back C hl hS (va_runS (nL := μ.2.2.2.1) (As := As) (rest := rest) ⟨C.exec, C.bytes, C.maxL, C.own, C.words⟩ hC ⟨callB_of As.length C.words (tl_good_in hcd) rfl rfl rfl (C.words _ hi) (C.words _ hlk) hn ⟨r1, r2⟩, C.words _ hs⟩ ⟨Pcd.blind, fun U hU hW => ⟨rfl, by rw [hU]; exact hR, C.gd.warm hW hU hS⟩⟩ rfl rfl hl.1 hst (lv_room r5) hd ⟨r3, r4⟩) kk
theorem x_staticN {k : KT} {μ : MT} {Z : ZT} {Q : Option Value → HS → Prop} {pc idx : Nat} {lv : List (Nat × Value)} {st : List Value} {S : HS} {cells slots : Nat} (ν : MT) (As rest : List Value) (hd : decode μ.2.2.1 pc = .ok (.invokestatic idx, 3)) (hst : st = As.reverse ++ rest) (hC : Ct k ν As S Q) (hlk : ∀ s : State, Gd k s → va_Nw (.methodLinkNest μ.2.1.cls idx ν.2.1 "GlobeWorks") s) (hs : Cond.static ν.2.1 ∈ wsL_law) (hi : Cond.initialized ν.2.1.cls ∈ wsL_law) (hcd : Cond.code ν.2.1 ν.2.2.1 ν.2.2.2.1 ν.2.2.2.2 ∈ wsL_law) (hn : okN ν.2.1 As.length) (hrm : okR ν μ cells slots rest) (kk : ∀ v S', Q v S' → X k μ Z (pc + 3) lv (v.toList ++ rest) S' (cells + ν.1.cells) (slots + ν.1.slots)) : X k μ Z pc lv st S cells slots := fun p e s m args below meth c H locs ls C hl hR hS => by
  obtain ⟨r1, r2, r3, r4, r5⟩ := hrm
  exact x_back C hl hS (va_runSN (nL := μ.2.2.2.1) (As := As) (rest := rest) (Ts := wsL_law) ⟨C.exec, C.bytes, C.maxL, C.own, C.words⟩ hC ⟨va_cnB As.length C.words (tl_good_in hcd) rfl rfl rfl (hlk s C.gd) (C.words _ hi) hn ⟨r1, r2⟩, C.words _ hs, trivial⟩ ⟨Pcd.blind, fun U hU hW => ⟨rfl, by rw [hU]; exact hR, C.gd.warm hW hU hS⟩⟩ rfl rfl hl.1 hst (lv_room r5) hd ⟨r3, r4⟩) kk
theorem x_virtual {k : KT} {μ : MT} {Z : ZT} {Q : Option Value → HS → Prop} {pc idx b : Nat} {lv : List (Nat × Value)} {st : List Value} {S : HS} {cells slots : Nat} {q : vw_C} (c : Nat) (ν : MT) (As rest : List Value) (hd : decode μ.2.2.1 pc = .ok (.invokevirtual idx, 3)) (hst : st = As.reverse ++ .ref b :: rest) (hC : Ct k ν (.ref b :: As) S Q) (hK : gK S b = c + 1) (h9 : c < 9) (hq : vwCl[c]? = some q) (hqc : q.1 = ν.2.1.cls) (hlk : Cond.methodLink μ.2.1.cls idx ν.2.1 ∈ wsL_law) (hs : Cond.instanceMethod ν.2.1 ∈ wsL_law) (hse : Cond.selects ν.2.1.cls ν.2.1 ν.2.1 ∈ wsL_law) (hi : Cond.initialized ν.2.1.cls ∈ wsL_law) (hcd : Cond.code ν.2.1 ν.2.2.1 ν.2.2.2.1 ν.2.2.2.2 ∈ wsL_law) (hn : okN ν.2.1 As.length) (hrm : okR ν μ cells slots rest) (kk : ∀ v S', Q v S' → X k μ Z (pc + 3) lv (v.toList ++ rest) S' (cells + ν.1.cells) (slots + ν.1.slots)) : X k μ Z pc lv st S cells slots := fun p e s m args below meth cd H locs ls C hl hR hS => by
  obtain ⟨r1, r2, r3, r4, r5⟩ := hrm
  have hrc := va_recv C.cls (vP1 (hR.at hK h9)) hq (q0 := 0) rfl
  rw [hqc] at hrc
  exact x_back C hl hS (va_runV (nL := μ.2.2.2.1) (C := ν.2.1.cls) (As := As) (rest := rest) ⟨C.exec, C.bytes, C.maxL, C.own, C.words⟩ hC ⟨callB_of As.length C.words (tl_good_in hcd) rfl rfl rfl (C.words _ hi) (C.words _ hlk) hn ⟨r1, r2⟩, C.words _ hs, C.words _ hse⟩ ⟨Pcd.blind, hrc, fun U hU hW => ⟨rfl, by rw [hU]; exact hR, C.gd.warm hW hU hS⟩⟩ rfl rfl hl.1 hst (lv_room r5) hd ⟨r3, r4⟩) kk
theorem x_special {k : KT} {μ : MT} {Z : ZT} {Q : Option Value → HS → Prop} {pc idx b : Nat} {lv : List (Nat × Value)} {st : List Value} {S : HS} {cells slots : Nat} (ν : MT) (As rest : List Value) (hd : decode μ.2.2.1 pc = .ok (.invokespecial idx, 3)) (hst : st = As.reverse ++ .ref b :: rest) (hC : Ct k ν (.ref b :: As) S Q) (hret : ν.2.2.2.2 = none) (hnm : ν.2.1.name = "<init>") (hlk : Cond.methodLink μ.2.1.cls idx ν.2.1 ∈ wsL_law) (hs : Cond.instanceMethod ν.2.1 ∈ wsL_law) (hi : Cond.initialized ν.2.1.cls ∈ wsL_law) (hcd : Cond.code ν.2.1 ν.2.2.1 ν.2.2.2.1 none ∈ wsL_law) (hn : okN ν.2.1 As.length) (hrm : okR ν μ cells slots rest) (kk : ∀ v S', Q v S' → X k μ Z (pc + 3) lv (v.toList ++ rest) S' (cells + ν.1.cells) (slots + ν.1.slots)) : X k μ Z pc lv st S cells slots := fun p e s m args below meth c H locs ls C hl hR hS => by
  obtain ⟨r1, r2, r3, r4, r5⟩ := hrm
  unfold Ct at hC
  rw [hret] at hC
  exact x_back C hl hS (va_runI (nL := μ.2.2.2.1) (As := As) (rest := rest) ⟨C.exec, C.bytes, C.maxL, C.own, C.words⟩ hC ⟨callB_of As.length C.words (tl_good_in hcd) rfl rfl rfl (C.words _ hi) (C.words _ hlk) hn ⟨r1, r2⟩, hnm, C.words _ hs⟩ ⟨Pcd.blind, fun U hU hW => ⟨rfl, by rw [hU]; exact hR, C.gd.warm hW hU hS⟩⟩ rfl rfl hl.1 hst (lv_room r5) hd ⟨r3, r4⟩) kk
theorem x_specialN {k : KT} {μ : MT} {Z : ZT} {Q : Option Value → HS → Prop} {pc idx b : Nat} {lv : List (Nat × Value)} {st : List Value} {S : HS} {cells slots : Nat} (ν : MT) (As rest : List Value) (hd : decode μ.2.2.1 pc = .ok (.invokespecial idx, 3)) (hst : st = As.reverse ++ .ref b :: rest) (hC : Ct k ν (.ref b :: As) S Q) (hret : ν.2.2.2.2 = none) (hnm : ν.2.1.name = "<init>") (hlk : ∀ s : State, Gd k s → va_Nw (.methodLinkNest μ.2.1.cls idx ν.2.1 "GlobeWorks") s) (hs : Cond.instanceMethod ν.2.1 ∈ wsL_law) (hi : Cond.initialized ν.2.1.cls ∈ wsL_law) (hcd : Cond.code ν.2.1 ν.2.2.1 ν.2.2.2.1 none ∈ wsL_law) (hn : okN ν.2.1 As.length) (hrm : okR ν μ cells slots rest) (kk : ∀ v S', Q v S' → X k μ Z (pc + 3) lv (v.toList ++ rest) S' (cells + ν.1.cells) (slots + ν.1.slots)) : X k μ Z pc lv st S cells slots := fun p e s m args below meth c H locs ls C hl hR hS => by
  obtain ⟨r1, r2, r3, r4, r5⟩ := hrm
  unfold Ct at hC
  rw [hret] at hC
  exact x_back C hl hS (va_runIN (nL := μ.2.2.2.1) (As := As) (rest := rest) (Ts := wsL_law) ⟨C.exec, C.bytes, C.maxL, C.own, C.words⟩ hC ⟨va_cnB As.length C.words (tl_good_in hcd) rfl rfl rfl (hlk s C.gd) (C.words _ hi) hn ⟨r1, r2⟩, hnm, C.words _ hs⟩ ⟨Pcd.blind, fun U hU hW => ⟨rfl, by rw [hU]; exact hR, C.gd.warm hW hU hS⟩⟩ rfl rfl hl.1 hst (lv_room r5) hd ⟨r3, r4⟩) kk
theorem x_objInit {k : KT} {μ : MT} {Z : ZT} {pc idx b : Nat} {lv : List (Nat × Value)} {rest : List Value} {S : HS} {cells slots : Nat} (hd : decode μ.2.2.1 pc = .ok (.invokespecial idx, 3)) (hlk : Cond.methodLink μ.2.1.cls idx objectInit ∈ wsL_law) (hs : Cond.instanceMethod objectInit ∈ wsL_law) (hcd : Cond.code objectInit ⟨#[0xb1]⟩ 1 none ∈ wsL_law) (hf : 1 ≤ μ.1.frames) (hlo : (rest.map fun v => v.category).sum + 12 ≤ μ.1.locals) (kk : X k μ Z (pc + 3) lv rest S cells slots) : X k μ Z pc lv (.ref b :: rest) S cells slots := fun p e s m args below meth c H locs ls C hl hR hS => by
  refine W.objInit C.exec C.bytes C.own (C.words _ hlk) (C.words _ hs) (C.words _ hcd) rfl (by rw [C.maxL]; exact hl.1) rfl hd hf ?_ (kk p e s m args below meth c H locs ls C hl hR hS)
  show 2 * 0 + _ + 12 ≤ _
  omega
theorem x_mmax {k : KT} {μ : MT} {Z : ZT} {pc idx : Nat} {lv : List (Nat × Value)} {rest : List Value} {S : HS} {cells slots : Nat} {x y : Int32} (hd : decode μ.2.2.1 pc = .ok (.invokestatic idx, 3)) (hlk : Cond.methodLink μ.2.1.cls idx Lib.Math.max.name ∈ wsL_law) (hs : Cond.static Lib.Math.max.name ∈ wsL_law) (hi : Cond.initialized "java/lang/Math" ∈ wsL_law) (hcd : Cond.code Lib.Math.max.name Lib.Math.max.code 2 (some .int) ∈ wsL_law) (hf : 1 ≤ μ.1.frames) (hlo : (rest.map fun v => v.category).sum + 13 ≤ μ.1.locals) (hc : cells ≤ μ.1.cells) (hsl : slots ≤ μ.1.slots) (kk : X k μ Z (pc + 3) lv (.int (if x < y then y else x) :: rest) S cells slots) : X k μ Z pc lv (.int y :: .int x :: rest) S cells slots := fun p e s m args below meth c H locs ls C hl hR hS =>
  va_mmax C.exec C.bytes (C.maxL.trans hl.1.symm) C.own (C.words _ hlk) (C.words _ hs) (C.words _ hi) (C.words _ hcd) hf hlo hc hsl hd (kk p e s m args below meth c H locs ls C hl hR hS)
theorem x_mmin {k : KT} {μ : MT} {Z : ZT} {pc idx : Nat} {lv : List (Nat × Value)} {rest : List Value} {S : HS} {cells slots : Nat} {x y : Int32} (hd : decode μ.2.2.1 pc = .ok (.invokestatic idx, 3)) (hlk : Cond.methodLink μ.2.1.cls idx Lib.Math.min.name ∈ wsL_law) (hs : Cond.static Lib.Math.min.name ∈ wsL_law) (hi : Cond.initialized "java/lang/Math" ∈ wsL_law) (hcd : Cond.code Lib.Math.min.name Lib.Math.min.code 2 (some .int) ∈ wsL_law) (hf : 1 ≤ μ.1.frames) (hlo : (rest.map fun v => v.category).sum + 13 ≤ μ.1.locals) (hc : cells ≤ μ.1.cells) (hsl : slots ≤ μ.1.slots) (kk : X k μ Z (pc + 3) lv (.int (if y < x then y else x) :: rest) S cells slots) : X k μ Z pc lv (.int y :: .int x :: rest) S cells slots := fun p e s m args below meth c H locs ls C hl hR hS =>
  va_mmin C.exec C.bytes (C.maxL.trans hl.1.symm) C.own (C.words _ hlk) (C.words _ hs) (C.words _ hi) (C.words _ hcd) hf hlo hc hsl hd (kk p e s m args below meth c H locs ls C hl hR hS)
theorem x_mabs {k : KT} {μ : MT} {Z : ZT} {pc idx : Nat} {lv : List (Nat × Value)} {rest : List Value} {S : HS} {cells slots : Nat} {x : Int32} (hd : decode μ.2.2.1 pc = .ok (.invokestatic idx, 3)) (hlk : Cond.methodLink μ.2.1.cls idx Lib.Math.abs.name ∈ wsL_law) (hs : Cond.static Lib.Math.abs.name ∈ wsL_law) (hi : Cond.initialized "java/lang/Math" ∈ wsL_law) (hcd : Cond.code Lib.Math.abs.name Lib.Math.abs.code 1 (some .int) ∈ wsL_law) (hf : 1 ≤ μ.1.frames) (hlo : (rest.map fun v => v.category).sum + 13 ≤ μ.1.locals) (hc : cells ≤ μ.1.cells) (hsl : slots ≤ μ.1.slots) (kk : X k μ Z (pc + 3) lv (.int (if 0 ≤ x then x else 0 - x) :: rest) S cells slots) : X k μ Z pc lv (.int x :: rest) S cells slots := fun p e s m args below meth c H locs ls C hl hR hS =>
  va_mabs C.exec C.bytes (C.maxL.trans hl.1.symm) C.own (C.words _ hlk) (C.words _ hs) (C.words _ hi) (C.words _ hcd) hf hlo hc hsl hd (kk p e s m args below meth c H locs ls C hl hR hS)
theorem x_getC {k : KT} {μ : MT} {Z : ZT} {pc idx a : Nat} {lv : List (Nat × Value)} {rest : List Value} {S : HS} {cells slots : Nat} (hd : decode μ.2.2.1 pc = .ok (.invokevirtual idx, 3)) (hK : gK S a = 23) (hlk : Cond.methodLink μ.2.1.cls idx ⟨"java/lang/Object", "getClass", "()Ljava/lang/Class;"⟩ ∈ wsL_law) (hse : Cond.selects "[Ljava/lang/Object;" ⟨"java/lang/Object", "getClass", "()Ljava/lang/Class;"⟩ ⟨"java/lang/Object", "getClass", "()Ljava/lang/Class;"⟩ ∈ wsL_law) (hin : Cond.instanceMethod ⟨"java/lang/Object", "getClass", "()Ljava/lang/Class;"⟩ ∈ wsL_law) (hna : Cond.native ⟨"java/lang/Object", "getClass", "()Ljava/lang/Class;"⟩ ∈ wsL_law) (hf : 1 ≤ μ.1.frames) (hlo : (rest.map fun v => v.category).sum + 14 ≤ μ.1.locals) (kk : X k μ Z (pc + 3) lv (.ref (k.2.2.2.1 3) :: rest) S cells slots) : X k μ Z pc lv (.ref a :: rest) S cells slots := fun p e s m args below meth c H locs ls C hl hR hS => by
  obtain ⟨kAr, comp, r1, r2, r3, r4⟩ := (C.cls.2 3 _ rfl).2
  have hat := hR.at23 hK
  exact va_getC C.exec C.bytes (C.maxL.trans hl.1.symm) C.own (C.words _ hlk) (va_Dc.use C.gd.2.2.2.2.2.2.2.1) (C.words _ hse) (C.words _ hin) (C.words _ hna) C.gd.2.2.2.2.2.2.1 ⟨_, hat, rfl, r4⟩ hf hlo hd (kk p e s m args below meth c H locs ls C hl hR hS)
theorem nn_of {z : Int32} (hz : ¬ z < 0) : z.toInt = (z.toNatClampNeg : Int) := by
  have hz0 : (0 : Int) ≤ z.toInt := by
    have := Int32.not_lt.mp hz
    simpa using Int32.le_iff_toInt_le.mp this
  show z.toInt = ((z.toInt.toNat : Nat) : Int)
  omega
theorem x_copyI {k : KT} {μ : MT} {Z : ZT} {pc idx a a0 : Nat} {lv : List (Nat × Value)} {rest : List Value} {S : HS} {cells slots : Nat} {sp dp n : Int32} (hd : decode μ.2.2.1 pc = .ok (.invokestatic idx, 3)) (hK0 : gK S a0 = 20) (hK : gK S a = 20) (hlk : Cond.methodLink μ.2.1.cls idx arraycopyName ∈ wsL_law) (hna : Cond.native arraycopyName ∈ wsL_law) (hs : Cond.static arraycopyName ∈ wsL_law) (hi : Cond.initialized "java/lang/System" ∈ wsL_law) (h1 : ¬ sp < 0) (h2 : ¬ dp < 0) (h3 : ¬ n < 0) (h4 : sp.toNatClampNeg + n.toNatClampNeg ≤ gL S a0) (h5 : dp.toNatClampNeg + n.toNatClampNeg ≤ gL S a) (hf : 1 ≤ μ.1.frames) (hlo : (rest.map fun v => v.category).sum + (nativeFrameWords "java/lang/System" "arraycopy" 5 + 11) ≤ μ.1.locals) (kk : X k μ Z (pc + 3) lv rest (uR S a (va_cpy (gR S a0) (gR S a) sp.toNatClampNeg dp.toNatClampNeg n.toNatClampNeg)) cells slots) : X k μ Z pc lv (.int n :: .int dp :: .ref a :: .int sp :: .ref a0 :: rest) S cells slots := fun p e s m args below meth c H locs ls C hl hR hS => by
  intro T hT X0
  have hc0 : H[a0]? = some (vp_cell (k.2.2.1 0) (gL S a0, .inl (gR S a0))) := hR.at20 hK0
  have hc1 : H[a]? = some (vp_cell (k.2.2.1 0) (gL S a, .inl (gR S a))) := hR.at20 hK
  obtain ⟨-, k0, hk0, cm0, hkk0⟩ := (C.cls.2 0 _ rfl).1 (gL S a0) (fun j => .int (gR S a0 j))
  obtain ⟨-, k1, hk1, cm1, hkk1⟩ := (C.cls.2 0 _ rfl).1 (gL S a) (fun j => .int (gR S a j))
  obtain ⟨vm', X', step⟩ := X0.arraycopy C.exec C.own (C.words _ hlk) (C.words _ hna) (C.words _ hs) (C.words _ hi) (src := a0) (dst := a) (cs := vp_cell (k.2.2.1 0) (gL S a0, .inl (gR S a0))) (cd := vp_cell (k.2.2.1 0) (gL S a, .inl (gR S a))) (srcPos := sp) (destPos := dp) (n := n) (by rw [hT]; exact hc0) (by rw [hT]; exact hc1)
    (fun _ h => by cases h) (fun _ h => by cases h) (fun h => by cases h) (fun h => by cases h) hk0 hk1 hkk0 hkk1 (by rfl) h1 h2 h3
    (by rw [nn_of h1, nn_of h3]; show ¬ _ > ((arrV _ (gL S a0) _).slots.size : Int); rw [arrV_size]; omega)
    (by rw [nn_of h2, nn_of h3]; show ¬ _ > ((arrV _ (gL S a) _).slots.size : Int); rw [arrV_size]; omega)
    (fun vm₁ _ i hi => by
      have e : (vp_cell (k.2.2.1 0) (gL S a0, .inl (gR S a0))).slots.getD (sp.toNatClampNeg + i) .null = .int (gR S a0 (sp.toNatClampNeg + i)) := by
        show (arrV (k.2.2.1 0) (gL S a0) (fun j => .int (gR S a0 j))).slots.getD _ _ = _
        rw [Array.getD_eq_getD_getElem?, arrV_read _ _ (by omega)]
        rfl
      refine ⟨?_, ?_⟩
      · rw [e]; rfl
      · rw [e]; exact trivial)
    (g := F0 m pc ls (.int n :: .int dp :: .ref a :: .int sp :: .ref a0 :: rest)) rfl (by rw [C.maxL]; exact hl.1) (rest := rest) rfl (by rw [C.bytes]; exact hd) hf (by show 2 * 0 + _ + _ ≤ _; omega)
  have e1 : copied (vp_cell (k.2.2.1 0) (gL S a0, .inl (gR S a0))) (vp_cell (k.2.2.1 0) (gL S a, .inl (gR S a))) sp dp n = vp_cell (k.2.2.1 0) (gL S a, .inl (va_cpy (gR S a0) (gR S a) sp.toNatClampNeg dp.toNatClampNeg n.toNatClampNeg)) := va_copied (fun z => .int z) _ _ (gR S a0) (gR S a) h4
  rw [e1] at X' step
  have hlt : a < H.size := (Array.getElem?_eq_some_iff.mp hc1).1
  have oq : ∀ q : Nat, q ≠ a → (H.setIfInBounds a (vp_cell (k.2.2.1 0) (gL S a, .inl (va_cpy (gR S a0) (gR S a) sp.toNatClampNeg dp.toNatClampNeg n.toNatClampNeg))))[q]? = H[q]? := fun q hq => by simp [Array.getElem?_setIfInBounds, Ne.symm hq]
  obtain ⟨t, a1, b1⟩ := kk p e s m args below meth c (H.setIfInBounds a (vp_cell (k.2.2.1 0) (gL S a, .inl (va_cpy (gR S a0) (gR S a) sp.toNatClampNeg dp.toNatClampNeg n.toNatClampNeg)))) _ ls C hl (hR.set (by simp) oq (fun _ => rfl) rfl (fun b hb => ce_uR hb) (by
      rw [ce_20 (show gK (uR S a _) a = 20 from hK), gR_uR, if_pos rfl]
      show (H.setIfInBounds a _)[a]? = some (vp_cell _ _)
      simp [Array.getElem?_setIfInBounds, hlt]; rfl)) ⟨by simp; exact hS.1, fun q g1 g2 => by
      rw [oq q (fun e => g2 (by rw [e]; exact hR.lo (a := a) (by rw [hK]; decide)))]
      exact hS.2.1 q g1 g2, fun q hq => by
      rcases List.mem_append.mp hq with h | h
      · exact hS.2.2 q h
      · obtain ⟨z, -, hz⟩ := List.mem_map.mp h
        rw [← hz]
        exact hR.lo (a := a) (by rw [hK]; decide)⟩ _ (by rw [← hT]; rfl) X'
  exact ⟨t, step t a1, b1⟩
theorem x_copyQ {k : KT} {μ : MT} {Z : ZT} {pc idx a a0 : Nat} {lv : List (Nat × Value)} {rest : List Value} {S : HS} {cells slots : Nat} {sp dp n : Int32} (hd : decode μ.2.2.1 pc = .ok (.invokestatic idx, 3)) (hK0 : gK S a0 = 23) (hK : gK S a = 23) (hlk : Cond.methodLink μ.2.1.cls idx arraycopyName ∈ wsL_law) (hna : Cond.native arraycopyName ∈ wsL_law) (hs : Cond.static arraycopyName ∈ wsL_law) (hi : Cond.initialized "java/lang/System" ∈ wsL_law) (h1 : ¬ sp < 0) (h2 : ¬ dp < 0) (h3 : ¬ n < 0) (h4 : sp.toNatClampNeg + n.toNatClampNeg ≤ gL S a0) (h5 : dp.toNatClampNeg + n.toNatClampNeg ≤ gL S a) (hel : ∀ i : Nat, i < n.toNatClampNeg → ∀ y : Nat, gQ S a0 (sp.toNatClampNeg + i) = some y → ∃ (c : Nat) (q : vw_C), gK S y = c + 1 ∧ c < 9 ∧ vwCl[c]? = some q ∧ (q.1, "java/lang/Object") ∈ csL) (hf : 1 ≤ μ.1.frames) (hlo : (rest.map fun v => v.category).sum + (nativeFrameWords "java/lang/System" "arraycopy" 5 + 11) ≤ μ.1.locals) (kk : X k μ Z (pc + 3) lv rest (uQ S a (va_cpy (gQ S a0) (gQ S a) sp.toNatClampNeg dp.toNatClampNeg n.toNatClampNeg)) cells slots) : X k μ Z pc lv (.int n :: .int dp :: .ref a :: .int sp :: .ref a0 :: rest) S cells slots := fun p e s m args below meth c H locs ls C hl hR hS => by
  intro T hT X0
  have hc0 : H[a0]? = some (vp_cell (k.2.2.1 3) (gL S a0, .inr (.inr (.inr (.inr (gQ S a0)))))) := hR.at23 hK0
  have hc1 : H[a]? = some (vp_cell (k.2.2.1 3) (gL S a, .inr (.inr (.inr (.inr (gQ S a)))))) := hR.at23 hK
  obtain ⟨-, k0, hk0, cm0, hkk0⟩ := (C.cls.2 3 _ rfl).1 (gL S a0) (fun j => va_rf (gQ S a0 j))
  obtain ⟨-, k1, hk1, cm1, hkk1⟩ := (C.cls.2 3 _ rfl).1 (gL S a) (fun j => va_rf (gQ S a j))
  obtain ⟨vm', X', step⟩ := X0.arraycopy C.exec C.own (C.words _ hlk) (C.words _ hna) (C.words _ hs) (C.words _ hi) (src := a0) (dst := a) (cs := vp_cell (k.2.2.1 3) (gL S a0, .inr (.inr (.inr (.inr (gQ S a0)))))) (cd := vp_cell (k.2.2.1 3) (gL S a, .inr (.inr (.inr (.inr (gQ S a)))))) (srcPos := sp) (destPos := dp) (n := n) (by rw [hT]; exact hc0) (by rw [hT]; exact hc1)
    (fun _ h => by cases h) (fun _ h => by cases h) (fun h => by cases h) (fun h => by cases h) hk0 hk1 hkk0 hkk1 rfl h1 h2 h3
    (by rw [nn_of h1, nn_of h3]; show ¬ _ > ((arrV _ (gL S a0) _).slots.size : Int); rw [arrV_size]; omega)
    (by rw [nn_of h2, nn_of h3]; show ¬ _ > ((arrV _ (gL S a) _).slots.size : Int); rw [arrV_size]; omega)
    (fun vm₁ hal i hi => by
      have e : (vp_cell (k.2.2.1 3) (gL S a0, .inr (.inr (.inr (.inr (gQ S a0)))))).slots.getD (sp.toNatClampNeg + i) .null = va_rf (gQ S a0 (sp.toNatClampNeg + i)) := by
        show (arrV (k.2.2.1 3) (gL S a0) (fun j => va_rf (gQ S a0 j))).slots.getD _ _ = _
        rw [Array.getD_eq_getD_getElem?, arrV_read _ _ (by omega)]
        rfl
      rw [e]
      cases hy : gQ S a0 (sp.toNatClampNeg + i) with
      | none => exact ⟨rfl, trivial⟩
      | some y =>
        obtain ⟨cq, q, w1, w2, w3, w4⟩ := hel i hi y hy
        obtain ⟨cellV, g1, g2, ⟨kC, hkC⟩, hasg⟩ := hR.any C.cls w1 w2 w3 (vb_asgC (E := "java/lang/Object") (C.gd.2.2.1 _ w4))
        obtain ⟨kAr, comp, r1, r2, r3, -⟩ := (C.cls.2 3 _ rfl).2
        cases hk1.symm.trans r1
        cases hkk1.symm.trans r2
        obtain ⟨kE, hkE, -⟩ := Vm.findClass_spec r3
        obtain ⟨kC', hkC', -⟩ := hal.2.2 _ _ hkC
        obtain ⟨kE', hkE', -⟩ := hal.2.2 _ _ hkE
        refine ⟨rfl, cellV, (show T.heap[y]? = some cellV by rw [hT]; exact g1), (fun q h => by rw [h] at g2; cases g2), ⟨kC', hkC'⟩, ?_, ?_⟩
        · exact ⟨kE', hkE'⟩
        · show vm₁.assignable _ _ = true
          rw [hal.assignable]
          exact hasg _ r3)
    (g := F0 m pc ls (.int n :: .int dp :: .ref a :: .int sp :: .ref a0 :: rest)) rfl (by rw [C.maxL]; exact hl.1) (rest := rest) rfl (by rw [C.bytes]; exact hd) hf (by show 2 * 0 + _ + _ ≤ _; omega)
  have e1 : copied (vp_cell (k.2.2.1 3) (gL S a0, .inr (.inr (.inr (.inr (gQ S a0)))))) (vp_cell (k.2.2.1 3) (gL S a, .inr (.inr (.inr (.inr (gQ S a)))))) sp dp n = vp_cell (k.2.2.1 3) (gL S a, .inr (.inr (.inr (.inr (va_cpy (gQ S a0) (gQ S a) sp.toNatClampNeg dp.toNatClampNeg n.toNatClampNeg))))) := by
    rw [vp_cell_q, vp_cell_q, vp_cell_q]
    exact va_copied (fun z => va_rf z) _ _ (gQ S a0) (gQ S a) h4
  rw [e1] at X' step
  have hlt : a < H.size := (Array.getElem?_eq_some_iff.mp hc1).1
  have oq : ∀ q : Nat, q ≠ a → (H.setIfInBounds a (vp_cell (k.2.2.1 3) (gL S a, .inr (.inr (.inr (.inr (va_cpy (gQ S a0) (gQ S a) sp.toNatClampNeg dp.toNatClampNeg n.toNatClampNeg)))))))[q]? = H[q]? := fun q hq => by simp [Array.getElem?_setIfInBounds, Ne.symm hq]
  obtain ⟨t, a1, b1⟩ := kk p e s m args below meth c (H.setIfInBounds a (vp_cell (k.2.2.1 3) (gL S a, .inr (.inr (.inr (.inr (va_cpy (gQ S a0) (gQ S a) sp.toNatClampNeg dp.toNatClampNeg n.toNatClampNeg))))))) _ ls C hl (hR.set (by simp) oq (fun _ => rfl) rfl (fun b hb => ce_uQ hb) (by
      rw [ce_23 (show gK (uQ S a _) a = 23 from hK), gQ_uQ, if_pos rfl]
      show (H.setIfInBounds a _)[a]? = some (vp_cell _ _)
      simp [Array.getElem?_setIfInBounds, hlt]; rfl)) ⟨by simp; exact hS.1, fun q g1 g2 => by
      rw [oq q (fun e => g2 (by rw [e]; exact hR.lo (a := a) (by rw [hK]; decide)))]
      exact hS.2.1 q g1 g2, fun q hq => by
      rcases List.mem_append.mp hq with h | h
      · exact hS.2.2 q h
      · obtain ⟨z, -, hz⟩ := List.mem_map.mp h
        rw [← hz]
        exact hR.lo (a := a) (by rw [hK]; decide)⟩ _ (by rw [← hT]; rfl) X'
  exact ⟨t, step t a1, b1⟩
end
