section
-- ===== PART A: goes FIRST, ahead of the names: the tables' words, and 'selects' of the private methods out of them =====
/-- a private method of a class that the tables say can be made, by its rows of tables_1 -/
def lw_okq (q : MethodName × Nat) : Prop := (q.1.cls ≠ "java/lang/invoke/MethodHandle" ∧ q.1.cls ≠ "java/lang/invoke/VarHandle") ∧ Cond.instantiable q.1.cls q.2 ∈ tables_1 ∧ Cond.privateMethod q.1 ∈ tables_1 ∧ Cond.instanceMethod q.1 ∈ tables_1
theorem lw_p0 : lw_okq (⟨"java/util/ArrayList", "add", "(Ljava/lang/Object;[Ljava/lang/Object;I)V"⟩, 3) := ⟨⟨by decide +kernel, by decide +kernel⟩, List.mem_of_getElem? (i := 27) (by decide +kernel), List.mem_of_getElem? (i := 192) (by decide +kernel), List.mem_of_getElem? (i := 193) (by decide +kernel)⟩
theorem lw_p1 : lw_okq (⟨"java/util/ArrayList", "grow", "()[Ljava/lang/Object;"⟩, 3) := ⟨⟨by decide +kernel, by decide +kernel⟩, List.mem_of_getElem? (i := 27) (by decide +kernel), List.mem_of_getElem? (i := 196) (by decide +kernel), List.mem_of_getElem? (i := 197) (by decide +kernel)⟩
theorem lw_p2 : lw_okq (⟨"java/util/ArrayList", "grow", "(I)[Ljava/lang/Object;"⟩, 3) := ⟨⟨by decide +kernel, by decide +kernel⟩, List.mem_of_getElem? (i := 27) (by decide +kernel), List.mem_of_getElem? (i := 200) (by decide +kernel), List.mem_of_getElem? (i := 201) (by decide +kernel)⟩
theorem lw_p3 : lw_okq (⟨"GlobeWorks", "coastOf", "(I)LGlobeWorks$Coast;"⟩, 9) := ⟨⟨by decide +kernel, by decide +kernel⟩, List.mem_of_getElem? (i := 19) (by decide +kernel), List.mem_of_getElem? (i := 248) (by decide +kernel), List.mem_of_getElem? (i := 249) (by decide +kernel)⟩
theorem lw_p4 : lw_okq (⟨"GlobeWorks", "piecesOf", "(LGlobeWorks$Step;)I"⟩, 9) := ⟨⟨by decide +kernel, by decide +kernel⟩, List.mem_of_getElem? (i := 19) (by decide +kernel), List.mem_of_getElem? (i := 301) (by decide +kernel), List.mem_of_getElem? (i := 302) (by decide +kernel)⟩
theorem lw_p5 : lw_okq (⟨"GlobeWorks", "goneFromEdge", "(LGlobeWorks$Step;)I"⟩, 9) := ⟨⟨by decide +kernel, by decide +kernel⟩, List.mem_of_getElem? (i := 19) (by decide +kernel), List.mem_of_getElem? (i := 305) (by decide +kernel), List.mem_of_getElem? (i := 306) (by decide +kernel)⟩
theorem lw_p6 : lw_okq (⟨"GlobeWorks", "cutUpright", "(ILGlobeWorks$Step;)V"⟩, 9) := ⟨⟨by decide +kernel, by decide +kernel⟩, List.mem_of_getElem? (i := 19) (by decide +kernel), List.mem_of_getElem? (i := 310) (by decide +kernel), List.mem_of_getElem? (i := 311) (by decide +kernel)⟩
theorem lw_p7 : lw_okq (⟨"GlobeWorks", "layUpright", "(ILGlobeWorks$Step;I)V"⟩, 9) := ⟨⟨by decide +kernel, by decide +kernel⟩, List.mem_of_getElem? (i := 19) (by decide +kernel), List.mem_of_getElem? (i := 314) (by decide +kernel), List.mem_of_getElem? (i := 315) (by decide +kernel)⟩
theorem lw_p8 : lw_okq (⟨"GlobeWorks", "sideOf", "(II)I"⟩, 9) := ⟨⟨by decide +kernel, by decide +kernel⟩, List.mem_of_getElem? (i := 19) (by decide +kernel), List.mem_of_getElem? (i := 318) (by decide +kernel), List.mem_of_getElem? (i := 319) (by decide +kernel)⟩
theorem lw_p9 : lw_okq (⟨"GlobeWorks", "lay", "(ILGlobeWorks$Piece;)V"⟩, 9) := ⟨⟨by decide +kernel, by decide +kernel⟩, List.mem_of_getElem? (i := 19) (by decide +kernel), List.mem_of_getElem? (i := 349) (by decide +kernel), List.mem_of_getElem? (i := 350) (by decide +kernel)⟩
theorem lw_p10 : lw_okq (⟨"GlobeWorks", "goreOf", "(I)LGlobeWorks$Gore;"⟩, 9) := ⟨⟨by decide +kernel, by decide +kernel⟩, List.mem_of_getElem? (i := 19) (by decide +kernel), List.mem_of_getElem? (i := 353) (by decide +kernel), List.mem_of_getElem? (i := 354) (by decide +kernel)⟩
theorem lw_p11 : lw_okq (⟨"GlobeWorks", "cutSlanting", "(ILGlobeWorks$Step;I)V"⟩, 9) := ⟨⟨by decide +kernel, by decide +kernel⟩, List.mem_of_getElem? (i := 19) (by decide +kernel), List.mem_of_getElem? (i := 357) (by decide +kernel), List.mem_of_getElem? (i := 358) (by decide +kernel)⟩
theorem lw_p12 : lw_okq (⟨"GlobeWorks", "grownThousand", "(I)I"⟩, 9) := ⟨⟨by decide +kernel, by decide +kernel⟩, List.mem_of_getElem? (i := 19) (by decide +kernel), List.mem_of_getElem? (i := 399) (by decide +kernel), List.mem_of_getElem? (i := 400) (by decide +kernel)⟩
theorem lw_p13 : lw_okq (⟨"GlobeWorks", "waysWithinEdges", "(LGlobeWorks$Name;)I"⟩, 9) := ⟨⟨by decide +kernel, by decide +kernel⟩, List.mem_of_getElem? (i := 19) (by decide +kernel), List.mem_of_getElem? (i := 452) (by decide +kernel), List.mem_of_getElem? (i := 453) (by decide +kernel)⟩
theorem lw_p14 : lw_okq (⟨"GlobeWorks", "isWithinEdges", "(LGlobeWorks$Name;II)Z"⟩, 9) := ⟨⟨by decide +kernel, by decide +kernel⟩, List.mem_of_getElem? (i := 19) (by decide +kernel), List.mem_of_getElem? (i := 460) (by decide +kernel), List.mem_of_getElem? (i := 461) (by decide +kernel)⟩
theorem lw_p15 : lw_okq (⟨"GlobeWorks", "changeNames", "(LGlobeWorks$Gore;)V"⟩, 9) := ⟨⟨by decide +kernel, by decide +kernel⟩, List.mem_of_getElem? (i := 19) (by decide +kernel), List.mem_of_getElem? (i := 473) (by decide +kernel), List.mem_of_getElem? (i := 474) (by decide +kernel)⟩
def lw_privs_1 : List (MethodName × Nat) := [(⟨"java/util/ArrayList", "add", "(Ljava/lang/Object;[Ljava/lang/Object;I)V"⟩, 3), (⟨"java/util/ArrayList", "grow", "()[Ljava/lang/Object;"⟩, 3), (⟨"java/util/ArrayList", "grow", "(I)[Ljava/lang/Object;"⟩, 3), (⟨"GlobeWorks", "coastOf", "(I)LGlobeWorks$Coast;"⟩, 9), (⟨"GlobeWorks", "piecesOf", "(LGlobeWorks$Step;)I"⟩, 9), (⟨"GlobeWorks", "goneFromEdge", "(LGlobeWorks$Step;)I"⟩, 9), (⟨"GlobeWorks", "cutUpright", "(ILGlobeWorks$Step;)V"⟩, 9), (⟨"GlobeWorks", "layUpright", "(ILGlobeWorks$Step;I)V"⟩, 9), (⟨"GlobeWorks", "sideOf", "(II)I"⟩, 9), (⟨"GlobeWorks", "lay", "(ILGlobeWorks$Piece;)V"⟩, 9), (⟨"GlobeWorks", "goreOf", "(I)LGlobeWorks$Gore;"⟩, 9), (⟨"GlobeWorks", "cutSlanting", "(ILGlobeWorks$Step;I)V"⟩, 9), (⟨"GlobeWorks", "grownThousand", "(I)I"⟩, 9), (⟨"GlobeWorks", "waysWithinEdges", "(LGlobeWorks$Name;)I"⟩, 9), (⟨"GlobeWorks", "isWithinEdges", "(LGlobeWorks$Name;II)Z"⟩, 9), (⟨"GlobeWorks", "changeNames", "(LGlobeWorks$Gore;)V"⟩, 9)]
theorem lw_r1 : ∀ q ∈ lw_privs_1, lw_okq q := List.forall_mem_cons.mpr ⟨lw_p0, List.forall_mem_cons.mpr ⟨lw_p1, List.forall_mem_cons.mpr ⟨lw_p2, List.forall_mem_cons.mpr ⟨lw_p3, List.forall_mem_cons.mpr ⟨lw_p4, List.forall_mem_cons.mpr ⟨lw_p5, List.forall_mem_cons.mpr ⟨lw_p6, List.forall_mem_cons.mpr ⟨lw_p7, List.forall_mem_cons.mpr ⟨lw_p8, List.forall_mem_cons.mpr ⟨lw_p9, List.forall_mem_cons.mpr ⟨lw_p10, List.forall_mem_cons.mpr ⟨lw_p11, List.forall_mem_cons.mpr ⟨lw_p12, List.forall_mem_cons.mpr ⟨lw_p13, List.forall_mem_cons.mpr ⟨lw_p14, List.forall_mem_cons.mpr ⟨lw_p15, fun _ h => absurd h List.not_mem_nil⟩⟩⟩⟩⟩⟩⟩⟩⟩⟩⟩⟩⟩⟩⟩⟩
theorem lw_p16 : lw_okq (⟨"GlobeWorks", "nameOf", "(I)LGlobeWorks$Name;"⟩, 9) := ⟨⟨by decide +kernel, by decide +kernel⟩, List.mem_of_getElem? (i := 19) (by decide +kernel), List.mem_of_getElem? (i := 507) (by decide +kernel), List.mem_of_getElem? (i := 508) (by decide +kernel)⟩
theorem lw_p17 : lw_okq (⟨"java/util/ArrayList", "fastRemove", "([Ljava/lang/Object;I)V"⟩, 3) := ⟨⟨by decide +kernel, by decide +kernel⟩, List.mem_of_getElem? (i := 27) (by decide +kernel), List.mem_of_getElem? (i := 521) (by decide +kernel), List.mem_of_getElem? (i := 522) (by decide +kernel)⟩
theorem lw_p18 : lw_okq (⟨"GlobeWorks", "namesThere", "()I"⟩, 9) := ⟨⟨by decide +kernel, by decide +kernel⟩, List.mem_of_getElem? (i := 19) (by decide +kernel), List.mem_of_getElem? (i := 558) (by decide +kernel), List.mem_of_getElem? (i := 559) (by decide +kernel)⟩
theorem lw_p19 : lw_okq (⟨"GlobeWorks", "freshGores", "()I"⟩, 9) := ⟨⟨by decide +kernel, by decide +kernel⟩, List.mem_of_getElem? (i := 19) (by decide +kernel), List.mem_of_getElem? (i := 562) (by decide +kernel), List.mem_of_getElem? (i := 563) (by decide +kernel)⟩
theorem lw_p20 : lw_okq (⟨"GlobeWorksModel", "narrowOf", "(I)I"⟩, 26) := ⟨⟨by decide +kernel, by decide +kernel⟩, List.mem_of_getElem? (i := 569) (by decide +kernel), List.mem_of_getElem? (i := 662) (by decide +kernel), List.mem_of_getElem? (i := 663) (by decide +kernel)⟩
theorem lw_p21 : lw_okq (⟨"GlobeWorksModel", "acrossOf", "(II)I"⟩, 26) := ⟨⟨by decide +kernel, by decide +kernel⟩, List.mem_of_getElem? (i := 569) (by decide +kernel), List.mem_of_getElem? (i := 670) (by decide +kernel), List.mem_of_getElem? (i := 671) (by decide +kernel)⟩
theorem lw_p22 : lw_okq (⟨"GlobeWorksModel", "parts", "(II)I"⟩, 26) := ⟨⟨by decide +kernel, by decide +kernel⟩, List.mem_of_getElem? (i := 569) (by decide +kernel), List.mem_of_getElem? (i := 686) (by decide +kernel), List.mem_of_getElem? (i := 687) (by decide +kernel)⟩
theorem lw_p23 : lw_okq (⟨"GlobeWorksModel", "isEdge", "(I)Z"⟩, 26) := ⟨⟨by decide +kernel, by decide +kernel⟩, List.mem_of_getElem? (i := 569) (by decide +kernel), List.mem_of_getElem? (i := 690) (by decide +kernel), List.mem_of_getElem? (i := 691) (by decide +kernel)⟩
theorem lw_p24 : lw_okq (⟨"GlobeWorksModel", "stays", "(IIII)V"⟩, 26) := ⟨⟨by decide +kernel, by decide +kernel⟩, List.mem_of_getElem? (i := 569) (by decide +kernel), List.mem_of_getElem? (i := 694) (by decide +kernel), List.mem_of_getElem? (i := 695) (by decide +kernel)⟩
theorem lw_p25 : lw_okq (⟨"GlobeWorksModel", "adds", "(IIIIII)V"⟩, 26) := ⟨⟨by decide +kernel, by decide +kernel⟩, List.mem_of_getElem? (i := 569) (by decide +kernel), List.mem_of_getElem? (i := 698) (by decide +kernel), List.mem_of_getElem? (i := 699) (by decide +kernel)⟩
theorem lw_p26 : lw_okq (⟨"GlobeWorksModel", "goes", "(IIIII)V"⟩, 26) := ⟨⟨by decide +kernel, by decide +kernel⟩, List.mem_of_getElem? (i := 569) (by decide +kernel), List.mem_of_getElem? (i := 702) (by decide +kernel), List.mem_of_getElem? (i := 703) (by decide +kernel)⟩
theorem lw_p27 : lw_okq (⟨"GlobeWorksModel", "sideWest", "(II)I"⟩, 26) := ⟨⟨by decide +kernel, by decide +kernel⟩, List.mem_of_getElem? (i := 569) (by decide +kernel), List.mem_of_getElem? (i := 706) (by decide +kernel), List.mem_of_getElem? (i := 707) (by decide +kernel)⟩
theorem lw_p28 : lw_okq (⟨"GlobeWorksModel", "isGore", "(I)Z"⟩, 26) := ⟨⟨by decide +kernel, by decide +kernel⟩, List.mem_of_getElem? (i := 569) (by decide +kernel), List.mem_of_getElem? (i := 720) (by decide +kernel), List.mem_of_getElem? (i := 721) (by decide +kernel)⟩
theorem lw_p29 : lw_okq (⟨"GlobeWorksModel", "grown", "(I)I"⟩, 26) := ⟨⟨by decide +kernel, by decide +kernel⟩, List.mem_of_getElem? (i := 569) (by decide +kernel), List.mem_of_getElem? (i := 736) (by decide +kernel), List.mem_of_getElem? (i := 737) (by decide +kernel)⟩
theorem lw_p30 : lw_okq (⟨"GlobeWorksModel", "namesIn", "(I)I"⟩, 26) := ⟨⟨by decide +kernel, by decide +kernel⟩, List.mem_of_getElem? (i := 569) (by decide +kernel), List.mem_of_getElem? (i := 748) (by decide +kernel), List.mem_of_getElem? (i := 749) (by decide +kernel)⟩
theorem lw_p31 : lw_okq (⟨"GlobeWorksModel", "isName", "(I)Z"⟩, 26) := ⟨⟨by decide +kernel, by decide +kernel⟩, List.mem_of_getElem? (i := 569) (by decide +kernel), List.mem_of_getElem? (i := 756) (by decide +kernel), List.mem_of_getElem? (i := 757) (by decide +kernel)⟩
def lw_privs_2 : List (MethodName × Nat) := [(⟨"GlobeWorks", "nameOf", "(I)LGlobeWorks$Name;"⟩, 9), (⟨"java/util/ArrayList", "fastRemove", "([Ljava/lang/Object;I)V"⟩, 3), (⟨"GlobeWorks", "namesThere", "()I"⟩, 9), (⟨"GlobeWorks", "freshGores", "()I"⟩, 9), (⟨"GlobeWorksModel", "narrowOf", "(I)I"⟩, 26), (⟨"GlobeWorksModel", "acrossOf", "(II)I"⟩, 26), (⟨"GlobeWorksModel", "parts", "(II)I"⟩, 26), (⟨"GlobeWorksModel", "isEdge", "(I)Z"⟩, 26), (⟨"GlobeWorksModel", "stays", "(IIII)V"⟩, 26), (⟨"GlobeWorksModel", "adds", "(IIIIII)V"⟩, 26), (⟨"GlobeWorksModel", "goes", "(IIIII)V"⟩, 26), (⟨"GlobeWorksModel", "sideWest", "(II)I"⟩, 26), (⟨"GlobeWorksModel", "isGore", "(I)Z"⟩, 26), (⟨"GlobeWorksModel", "grown", "(I)I"⟩, 26), (⟨"GlobeWorksModel", "namesIn", "(I)I"⟩, 26), (⟨"GlobeWorksModel", "isName", "(I)Z"⟩, 26)]
theorem lw_r2 : ∀ q ∈ lw_privs_2, lw_okq q := List.forall_mem_cons.mpr ⟨lw_p16, List.forall_mem_cons.mpr ⟨lw_p17, List.forall_mem_cons.mpr ⟨lw_p18, List.forall_mem_cons.mpr ⟨lw_p19, List.forall_mem_cons.mpr ⟨lw_p20, List.forall_mem_cons.mpr ⟨lw_p21, List.forall_mem_cons.mpr ⟨lw_p22, List.forall_mem_cons.mpr ⟨lw_p23, List.forall_mem_cons.mpr ⟨lw_p24, List.forall_mem_cons.mpr ⟨lw_p25, List.forall_mem_cons.mpr ⟨lw_p26, List.forall_mem_cons.mpr ⟨lw_p27, List.forall_mem_cons.mpr ⟨lw_p28, List.forall_mem_cons.mpr ⟨lw_p29, List.forall_mem_cons.mpr ⟨lw_p30, List.forall_mem_cons.mpr ⟨lw_p31, fun _ h => absurd h List.not_mem_nil⟩⟩⟩⟩⟩⟩⟩⟩⟩⟩⟩⟩⟩⟩⟩⟩
theorem lw_p32 : lw_okq (⟨"GlobeWorksModel", "canBe", "(II)Z"⟩, 26) := ⟨⟨by decide +kernel, by decide +kernel⟩, List.mem_of_getElem? (i := 569) (by decide +kernel), List.mem_of_getElem? (i := 764) (by decide +kernel), List.mem_of_getElem? (i := 765) (by decide +kernel)⟩
theorem lw_p33 : lw_okq (⟨"GlobeWorksModel", "left", "(II)I"⟩, 26) := ⟨⟨by decide +kernel, by decide +kernel⟩, List.mem_of_getElem? (i := 569) (by decide +kernel), List.mem_of_getElem? (i := 768) (by decide +kernel), List.mem_of_getElem? (i := 769) (by decide +kernel)⟩
theorem lw_p34 : lw_okq (⟨"GlobeWorksModel", "low", "(II)I"⟩, 26) := ⟨⟨by decide +kernel, by decide +kernel⟩, List.mem_of_getElem? (i := 569) (by decide +kernel), List.mem_of_getElem? (i := 772) (by decide +kernel), List.mem_of_getElem? (i := 773) (by decide +kernel)⟩
theorem lw_p35 : lw_okq (⟨"GlobeWorksModel", "isWithin", "(II)Z"⟩, 26) := ⟨⟨by decide +kernel, by decide +kernel⟩, List.mem_of_getElem? (i := 569) (by decide +kernel), List.mem_of_getElem? (i := 776) (by decide +kernel), List.mem_of_getElem? (i := 777) (by decide +kernel)⟩
theorem lw_p36 : lw_okq (⟨"GlobeWorksModel", "sets", "(I)I"⟩, 26) := ⟨⟨by decide +kernel, by decide +kernel⟩, List.mem_of_getElem? (i := 569) (by decide +kernel), List.mem_of_getElem? (i := 784) (by decide +kernel), List.mem_of_getElem? (i := 785) (by decide +kernel)⟩
theorem lw_p37 : lw_okq (⟨"GlobeWorksModel", "isGood", "(I)Z"⟩, 26) := ⟨⟨by decide +kernel, by decide +kernel⟩, List.mem_of_getElem? (i := 569) (by decide +kernel), List.mem_of_getElem? (i := 788) (by decide +kernel), List.mem_of_getElem? (i := 789) (by decide +kernel)⟩
theorem lw_p38 : lw_okq (⟨"GlobeWorksModel", "areApart", "(IIII)Z"⟩, 26) := ⟨⟨by decide +kernel, by decide +kernel⟩, List.mem_of_getElem? (i := 569) (by decide +kernel), List.mem_of_getElem? (i := 792) (by decide +kernel), List.mem_of_getElem? (i := 793) (by decide +kernel)⟩
def lw_privs_3 : List (MethodName × Nat) := [(⟨"GlobeWorksModel", "canBe", "(II)Z"⟩, 26), (⟨"GlobeWorksModel", "left", "(II)I"⟩, 26), (⟨"GlobeWorksModel", "low", "(II)I"⟩, 26), (⟨"GlobeWorksModel", "isWithin", "(II)Z"⟩, 26), (⟨"GlobeWorksModel", "sets", "(I)I"⟩, 26), (⟨"GlobeWorksModel", "isGood", "(I)Z"⟩, 26), (⟨"GlobeWorksModel", "areApart", "(IIII)Z"⟩, 26)]
theorem lw_r3 : ∀ q ∈ lw_privs_3, lw_okq q := List.forall_mem_cons.mpr ⟨lw_p32, List.forall_mem_cons.mpr ⟨lw_p33, List.forall_mem_cons.mpr ⟨lw_p34, List.forall_mem_cons.mpr ⟨lw_p35, List.forall_mem_cons.mpr ⟨lw_p36, List.forall_mem_cons.mpr ⟨lw_p37, List.forall_mem_cons.mpr ⟨lw_p38, fun _ h => absurd h List.not_mem_nil⟩⟩⟩⟩⟩⟩⟩
def lw_privs : List (MethodName × Nat) := lw_privs_1 ++ (lw_privs_2 ++ (lw_privs_3))
def lw_tbl : List Cond := k2_sels lw_privs ++ tables_1
theorem lw_privs_ok : ∀ q ∈ lw_privs, lw_okq q := by
  show ∀ q ∈ lw_privs_1 ++ (lw_privs_2 ++ (lw_privs_3)), lw_okq q
  exact List.forall_mem_append.mpr ⟨lw_r1, List.forall_mem_append.mpr ⟨lw_r2, lw_r3⟩⟩
end
section
/-! ===== BEGIN words of one list among another's, by their places ===== -/
theorem goodIn_r {big : List Cond} (ws : List Cond) (ps : List Nat) (hp : ws = ps.filterMap (fun i => big[i]?)) (h : ws.all goodWord = true) : GoodIn big ws := by
  intro w hw
  have h1 := List.all_eq_true.mp h w hw
  rw [hp] at hw
  obtain ⟨i, -, hi⟩ := List.mem_filterMap.mp hw
  have hm : w ∈ big := by first | exact List.mem_of_getElem? hi | exact List.getElem?_mem hi
  exact ⟨hm, good_of_word h1⟩
theorem goodIn_app {big a b : List Cond} (ha : GoodIn big a) (hb : GoodIn big b) : GoodIn big (a ++ b) := fun w h => (List.mem_append.mp h).elim (ha w) (hb w)
theorem goodIn_ca {big a b : List Cond} {c : Cond} (ha : GoodIn big (c :: a)) (hb : GoodIn big b) : GoodIn big (c :: (a ++ b)) := fun w h => (List.mem_cons.mp h).elim (fun e => ha w (List.mem_cons.mpr (Or.inl e))) (fun h => (List.mem_append.mp h).elim (fun h => ha w (List.mem_cons.mpr (Or.inr h))) (hb w))
theorem goodIn_sub {big ws : List Cond} (hm : ∀ w ∈ ws, w ∈ big) (h : ws.all goodWord = true) : GoodIn big ws := fun w hw => ⟨hm w hw, good_of_word (List.all_eq_true.mp h w hw)⟩
/-! ===== END ===== -/

/-! ===== BEGIN printed: names, fields, word lists, decode rows ===== -/
def RX0 : String := "GlobeWorks$Coast"
def TX0 : u_T := fun k => match k with
  | 0 => ("GlobeWorks$Coast", "longitude", "I", false)
  | _ => ("GlobeWorks$Coast", "latitude", "I", false)
def tyX0 : Nat → FieldType := fun k => match k with
  | 0 => .int
  | _ => .int
abbrev wsX00 : List Cond := u_ws RX0 TX0 2
theorem nmX0 : ∀ a, a < 2 → ∀ b, b < 2 → a ≠ b → (TX0 a).2.1 ≠ (TX0 b).2.1 := by decide +kernel
theorem tyX0_ok : ∀ k, k < 2 → parseFieldDescriptor (TX0 k).2.2.1 = some (tyX0 k) := by decide +kernel
abbrev cX0_init : ByteArray := prog_2_method_1_code
def yX0_init : MethodName := ⟨RX0, "<init>", "(II)V"⟩
abbrev cX0_isAt : ByteArray := prog_2_method_2_code
def yX0_isAt : MethodName := ⟨RX0, "isAt", "(II)Z"⟩
def RX1 : String := "GlobeWorks$Gore"
def TX1 : u_T := fun k => match k with
  | 0 => ("GlobeWorks$Gore", "pieces", "Ljava/util/ArrayList;", true)
  | 1 => ("GlobeWorks$Gore", "names", "Ljava/util/ArrayList;", true)
  | 2 => ("GlobeWorks$Gore", "settingCost", "I", false)
  | 3 => ("GlobeWorks$Gore", "isFresh", "Z", false)
  | _ => ("GlobeWorks$Gore", "lastEdition", "I", false)
def tyX1 : Nat → FieldType := fun k => match k with
  | 0 => .object "java/util/ArrayList"
  | 1 => .object "java/util/ArrayList"
  | 2 => .int
  | 3 => .boolean
  | _ => .int
abbrev wsX10 : List Cond := u_ws RX1 TX1 5
theorem nmX1 : ∀ a, a < 5 → ∀ b, b < 5 → a ≠ b → (TX1 a).2.1 ≠ (TX1 b).2.1 := by decide +kernel
theorem tyX1_ok : ∀ k, k < 5 → parseFieldDescriptor (TX1 k).2.2.1 = some (tyX1 k) := by decide +kernel
abbrev cX1_init : ByteArray := prog_3_method_1_code
def yX1_init : MethodName := ⟨RX1, "<init>", "()V"⟩
abbrev cX1_takeOut : ByteArray := prog_3_method_2_code
def yX1_takeOut : MethodName := ⟨RX1, "takeOut", "(LGlobeWorks$Name;)V"⟩
def RX2 : String := "GlobeWorks$Name"
def TX2 : u_T := fun k => match k with
  | 0 => ("GlobeWorks$Name", "gore", "I", true)
  | 1 => ("GlobeWorks$Name", "side", "I", true)
  | 2 => ("GlobeWorks$Name", "height", "I", true)
  | 3 => ("GlobeWorks$Name", "x", "I", true)
  | 4 => ("GlobeWorks$Name", "letters", "I", true)
  | 5 => ("GlobeWorks$Name", "price", "I", true)
  | 6 => ("GlobeWorks$Name", "ways", "I", false)
  | 7 => ("GlobeWorks$Name", "setWay", "I", false)
  | _ => ("GlobeWorks$Name", "isStruck", "Z", false)
def tyX2 : Nat → FieldType := fun k => match k with
  | 0 => .int
  | 1 => .int
  | 2 => .int
  | 3 => .int
  | 4 => .int
  | 5 => .int
  | 6 => .int
  | 7 => .int
  | _ => .boolean
abbrev wsX20 : List Cond := u_ws RX2 TX2 9
theorem nmX2 : ∀ a, a < 9 → ∀ b, b < 9 → a ≠ b → (TX2 a).2.1 ≠ (TX2 b).2.1 := by decide +kernel
theorem tyX2_ok : ∀ k, k < 9 → parseFieldDescriptor (TX2 k).2.2.1 = some (tyX2 k) := by decide +kernel
abbrev cX2_init : ByteArray := prog_4_method_1_code
def yX2_init : MethodName := ⟨RX2, "<init>", "(IIIIII)V"⟩
abbrev cX2_allows : ByteArray := prog_4_method_2_code
def yX2_allows : MethodName := ⟨RX2, "allows", "(I)Z"⟩
abbrev cX2_costOf : ByteArray := prog_4_method_3_code
def yX2_costOf : MethodName := ⟨RX2, "costOf", "(I)I"⟩
abbrev cX2_left : ByteArray := prog_4_method_4_code
def yX2_left : MethodName := ⟨RX2, "left", "(I)I"⟩
abbrev cX2_right : ByteArray := prog_4_method_5_code
def yX2_right : MethodName := ⟨RX2, "right", "(I)I"⟩
abbrev cX2_bottom : ByteArray := prog_4_method_6_code
def yX2_bottom : MethodName := ⟨RX2, "bottom", "(I)I"⟩
abbrev cX2_covers : ByteArray := prog_4_method_7_code
def yX2_covers : MethodName := ⟨RX2, "covers", "(ILGlobeWorks$Name;I)Z"⟩
def RX3 : String := "GlobeWorks$Piece"
def TX3 : u_T := fun k => match k with
  | 0 => ("GlobeWorks$Piece", "coast", "I", true)
  | 1 => ("GlobeWorks$Piece", "beginSide", "I", true)
  | 2 => ("GlobeWorks$Piece", "beginHeight", "I", true)
  | 3 => ("GlobeWorks$Piece", "endSide", "I", true)
  | _ => ("GlobeWorks$Piece", "endHeight", "I", true)
def tyX3 : Nat → FieldType := fun k => match k with
  | 0 => .int
  | 1 => .int
  | 2 => .int
  | 3 => .int
  | _ => .int
abbrev wsX30 : List Cond := u_ws RX3 TX3 5
theorem nmX3 : ∀ a, a < 5 → ∀ b, b < 5 → a ≠ b → (TX3 a).2.1 ≠ (TX3 b).2.1 := by decide +kernel
theorem tyX3_ok : ∀ k, k < 5 → parseFieldDescriptor (TX3 k).2.2.1 = some (tyX3 k) := by decide +kernel
abbrev cX3_init : ByteArray := prog_5_method_1_code
def yX3_init : MethodName := ⟨RX3, "<init>", "(IIIII)V"⟩
def RX4 : String := "GlobeWorks$Search"
def TX4 : u_T := fun k => match k with
  | 0 => ("GlobeWorks$Search", "trial", "[I", true)
  | 1 => ("GlobeWorks$Search", "best", "[I", true)
  | _ => ("GlobeWorks$Search", "leastCost", "I", false)
def tyX4 : Nat → FieldType := fun k => match k with
  | 0 => .array .int
  | 1 => .array .int
  | _ => .int
abbrev wsX40 : List Cond := u_ws RX4 TX4 3
theorem nmX4 : ∀ a, a < 3 → ∀ b, b < 3 → a ≠ b → (TX4 a).2.1 ≠ (TX4 b).2.1 := by decide +kernel
theorem tyX4_ok : ∀ k, k < 3 → parseFieldDescriptor (TX4 k).2.2.1 = some (tyX4 k) := by decide +kernel
abbrev cX4_init : ByteArray := prog_6_method_1_code
def yX4_init : MethodName := ⟨RX4, "<init>", "()V"⟩
abbrev cX4_keep : ByteArray := prog_6_method_2_code
def yX4_keep : MethodName := ⟨RX4, "keep", "(I)V"⟩
def RX5 : String := "GlobeWorks$Step"
def TX5 : u_T := fun k => match k with
  | 0 => ("GlobeWorks$Step", "longitude", "I", true)
  | 1 => ("GlobeWorks$Step", "height", "I", true)
  | 2 => ("GlobeWorks$Step", "rise", "I", true)
  | 3 => ("GlobeWorks$Step", "length", "I", true)
  | _ => ("GlobeWorks$Step", "direction", "I", true)
def tyX5 : Nat → FieldType := fun k => match k with
  | 0 => .int
  | 1 => .int
  | 2 => .int
  | 3 => .int
  | _ => .int
abbrev wsX50 : List Cond := u_ws RX5 TX5 5
theorem nmX5 : ∀ a, a < 5 → ∀ b, b < 5 → a ≠ b → (TX5 a).2.1 ≠ (TX5 b).2.1 := by decide +kernel
theorem tyX5_ok : ∀ k, k < 5 → parseFieldDescriptor (TX5 k).2.2.1 = some (tyX5 k) := by decide +kernel
abbrev cX5_init : ByteArray := prog_7_method_1_code
def yX5_init : MethodName := ⟨RX5, "<init>", "(LGlobeWorks$Coast;II)V"⟩
abbrev cX5_longitudeAt : ByteArray := prog_7_method_2_code
def yX5_longitudeAt : MethodName := ⟨RX5, "longitudeAt", "(I)I"⟩
abbrev cX5_heightAt : ByteArray := prog_7_method_3_code
def yX5_heightAt : MethodName := ⟨RX5, "heightAt", "(I)I"⟩
def RX6 : String := "GlobeWorks"
def TX6 : u_T := fun k => match k with
  | 0 => ("GlobeWorks", "width", "I", true)
  | 1 => ("GlobeWorks", "gores", "[LGlobeWorks$Gore;", true)
  | 2 => ("GlobeWorks", "coasts", "Ljava/util/ArrayList;", true)
  | 3 => ("GlobeWorks", "names", "Ljava/util/ArrayList;", true)
  | 4 => ("GlobeWorks", "search", "LGlobeWorks$Search;", true)
  | 5 => ("GlobeWorks", "pieceCount", "I", false)
  | 6 => ("GlobeWorks", "growsAcross", "I", false)
  | 7 => ("GlobeWorks", "growsAlong", "I", false)
  | _ => ("GlobeWorks", "editions", "I", false)
def tyX6 : Nat → FieldType := fun k => match k with
  | 0 => .int
  | 1 => .array (.object "GlobeWorks$Gore")
  | 2 => .object "java/util/ArrayList"
  | 3 => .object "java/util/ArrayList"
  | 4 => .object "GlobeWorks$Search"
  | 5 => .int
  | 6 => .int
  | 7 => .int
  | _ => .int
abbrev wsX60 : List Cond := u_ws RX6 TX6 9
theorem nmX6 : ∀ a, a < 9 → ∀ b, b < 9 → a ≠ b → (TX6 a).2.1 ≠ (TX6 b).2.1 := by decide +kernel
theorem tyX6_ok : ∀ k, k < 9 → parseFieldDescriptor (TX6 k).2.2.1 = some (tyX6 k) := by decide +kernel
abbrev cX6_init : ByteArray := prog_1_method_1_code
def yX6_init : MethodName := ⟨RX6, "<init>", "(I)V"⟩
abbrev cX6_narrow : ByteArray := prog_1_method_2_code
def yX6_narrow : MethodName := ⟨RX6, "narrow", "(I)I"⟩
abbrev cX6_across : ByteArray := prog_1_method_3_code
def yX6_across : MethodName := ⟨RX6, "across", "(II)I"⟩
abbrev cX6_coast : ByteArray := prog_1_method_4_code
def yX6_coast : MethodName := ⟨RX6, "coast", "(II)I"⟩
abbrev cX6_to : ByteArray := prog_1_method_5_code
def yX6_to : MethodName := ⟨RX6, "to", "(III)I"⟩
abbrev cX6_pieces : ByteArray := prog_1_method_6_code
def yX6_pieces : MethodName := ⟨RX6, "pieces", "(I)I"⟩
abbrev cX6_piece : ByteArray := prog_1_method_7_code
def yX6_piece : MethodName := ⟨RX6, "piece", "(III)I"⟩
abbrev cX6_paper : ByteArray := prog_1_method_8_code
def yX6_paper : MethodName := ⟨RX6, "paper", "(II)Z"⟩
abbrev cX6_drawn : ByteArray := prog_1_method_9_code
def yX6_drawn : MethodName := ⟨RX6, "drawn", "(II)I"⟩
abbrev cX6_wet : ByteArray := prog_1_method_10_code
def yX6_wet : MethodName := ⟨RX6, "wet", "(II)I"⟩
abbrev cX6_name : ByteArray := prog_1_method_11_code
def yX6_name : MethodName := ⟨RX6, "name", "(IIII)I"⟩
abbrev cX6_strike : ByteArray := prog_1_method_12_code
def yX6_strike : MethodName := ⟨RX6, "strike", "(I)Z"⟩
abbrev cX6_may : ByteArray := prog_1_method_13_code
def yX6_may : MethodName := ⟨RX6, "may", "(II)Z"⟩
abbrev cX6_set : ByteArray := prog_1_method_14_code
def yX6_set : MethodName := ⟨RX6, "set", "(I)I"⟩
abbrev cX6_cost : ByteArray := prog_1_method_15_code
def yX6_cost : MethodName := ⟨RX6, "cost", "(I)I"⟩
abbrev cX6_told : ByteArray := prog_1_method_16_code
def yX6_told : MethodName := ⟨RX6, "told", "(II)I"⟩
abbrev cX6_fresh : ByteArray := prog_1_method_17_code
def yX6_fresh : MethodName := ⟨RX6, "fresh", "(I)Z"⟩
abbrev cX6_edition : ByteArray := prog_1_method_18_code
def yX6_edition : MethodName := ⟨RX6, "edition", "()I"⟩
abbrev cX6_printed : ByteArray := prog_1_method_19_code
def yX6_printed : MethodName := ⟨RX6, "printed", "(I)I"⟩
abbrev cX6_count : ByteArray := prog_1_method_20_code
def yX6_count : MethodName := ⟨RX6, "count", "(I)I"⟩
abbrev cX6_goreNumber : ByteArray := prog_1_method_21_code
def yX6_goreNumber : MethodName := ⟨RX6, "goreNumber", "(I)I"⟩
abbrev cX6_isPlace : ByteArray := prog_1_method_22_code
def yX6_isPlace : MethodName := ⟨RX6, "isPlace", "(II)Z"⟩
abbrev cX6_isHeight : ByteArray := prog_1_method_23_code
def yX6_isHeight : MethodName := ⟨RX6, "isHeight", "(I)Z"⟩
abbrev cX6_isGrowth : ByteArray := prog_1_method_24_code
def yX6_isGrowth : MethodName := ⟨RX6, "isGrowth", "(I)Z"⟩
abbrev cX6_isOnPaper : ByteArray := prog_1_method_25_code
def yX6_isOnPaper : MethodName := ⟨RX6, "isOnPaper", "(II)Z"⟩
abbrev cX6_roundBy : ByteArray := prog_1_method_26_code
def yX6_roundBy : MethodName := ⟨RX6, "roundBy", "(II)I"⟩
abbrev cX6_cosOf : ByteArray := prog_1_method_27_code
def yX6_cosOf : MethodName := ⟨RX6, "cosOf", "(I)I"⟩
abbrev cX6_narrowAt : ByteArray := prog_1_method_28_code
def yX6_narrowAt : MethodName := ⟨RX6, "narrowAt", "(I)I"⟩
abbrev cX6_xOf : ByteArray := prog_1_method_29_code
def yX6_xOf : MethodName := ⟨RX6, "xOf", "(II)I"⟩
abbrev cX6_grownThousand : ByteArray := prog_1_method_30_code
def yX6_grownThousand : MethodName := ⟨RX6, "grownThousand", "(I)I"⟩
abbrev cX6_goreOf : ByteArray := prog_1_method_31_code
def yX6_goreOf : MethodName := ⟨RX6, "goreOf", "(I)LGlobeWorks$Gore;"⟩
abbrev cX6_coastOf : ByteArray := prog_1_method_32_code
def yX6_coastOf : MethodName := ⟨RX6, "coastOf", "(I)LGlobeWorks$Coast;"⟩
abbrev cX6_nameOf : ByteArray := prog_1_method_33_code
def yX6_nameOf : MethodName := ⟨RX6, "nameOf", "(I)LGlobeWorks$Name;"⟩
abbrev cX6_namesThere : ByteArray := prog_1_method_34_code
def yX6_namesThere : MethodName := ⟨RX6, "namesThere", "()I"⟩
abbrev cX6_freshGores : ByteArray := prog_1_method_35_code
def yX6_freshGores : MethodName := ⟨RX6, "freshGores", "()I"⟩
abbrev cX6_sideOf : ByteArray := prog_1_method_36_code
def yX6_sideOf : MethodName := ⟨RX6, "sideOf", "(II)I"⟩
abbrev cX6_goneFromEdge : ByteArray := prog_1_method_37_code
def yX6_goneFromEdge : MethodName := ⟨RX6, "goneFromEdge", "(LGlobeWorks$Step;)I"⟩
abbrev cX6_piecesOf : ByteArray := prog_1_method_38_code
def yX6_piecesOf : MethodName := ⟨RX6, "piecesOf", "(LGlobeWorks$Step;)I"⟩
abbrev cX6_cutUpright : ByteArray := prog_1_method_39_code
def yX6_cutUpright : MethodName := ⟨RX6, "cutUpright", "(ILGlobeWorks$Step;)V"⟩
abbrev cX6_layUpright : ByteArray := prog_1_method_40_code
def yX6_layUpright : MethodName := ⟨RX6, "layUpright", "(ILGlobeWorks$Step;I)V"⟩
abbrev cX6_cutSlanting : ByteArray := prog_1_method_41_code
def yX6_cutSlanting : MethodName := ⟨RX6, "cutSlanting", "(ILGlobeWorks$Step;I)V"⟩
abbrev cX6_lay : ByteArray := prog_1_method_42_code
def yX6_lay : MethodName := ⟨RX6, "lay", "(ILGlobeWorks$Piece;)V"⟩
abbrev cX6_waysWithinEdges : ByteArray := prog_1_method_43_code
def yX6_waysWithinEdges : MethodName := ⟨RX6, "waysWithinEdges", "(LGlobeWorks$Name;)I"⟩
abbrev cX6_isWithinEdges : ByteArray := prog_1_method_44_code
def yX6_isWithinEdges : MethodName := ⟨RX6, "isWithinEdges", "(LGlobeWorks$Name;II)Z"⟩
abbrev cX6_changeNames : ByteArray := prog_1_method_45_code
def yX6_changeNames : MethodName := ⟨RX6, "changeNames", "(LGlobeWorks$Gore;)V"⟩
abbrev cX6_tryWays : ByteArray := prog_1_method_46_code
def yX6_tryWays : MethodName := ⟨RX6, "tryWays", "(LGlobeWorks$Gore;LGlobeWorks$Search;II)V"⟩
abbrev cX6_isClear : ByteArray := prog_1_method_47_code
def yX6_isClear : MethodName := ⟨RX6, "isClear", "(LGlobeWorks$Name;ILGlobeWorks$Gore;LGlobeWorks$Search;I)Z"⟩
def RX7 : String := "GlobeWorksModel"
def TX7 : u_T := fun k => match k with
  | 0 => ("GlobeWorksModel", "cos", "[I", true)
  | 1 => ("GlobeWorksModel", "gores", "I", true)
  | 2 => ("GlobeWorksModel", "wide", "I", true)
  | 3 => ("GlobeWorksModel", "coasts", "I", false)
  | 4 => ("GlobeWorksModel", "coastAt", "[I", true)
  | 5 => ("GlobeWorksModel", "coastHigh", "[I", true)
  | 6 => ("GlobeWorksModel", "pieces", "I", false)
  | 7 => ("GlobeWorksModel", "pieceGore", "[I", true)
  | 8 => ("GlobeWorksModel", "pieceCoast", "[I", true)
  | 9 => ("GlobeWorksModel", "pieceEnds", "[I", true)
  | 10 => ("GlobeWorksModel", "growsAcross", "I", false)
  | 11 => ("GlobeWorksModel", "growsAlong", "I", false)
  | 12 => ("GlobeWorksModel", "names", "I", false)
  | 13 => ("GlobeWorksModel", "isThere", "[Z", true)
  | 14 => ("GlobeWorksModel", "nameGore", "[I", true)
  | 15 => ("GlobeWorksModel", "nameSide", "[I", true)
  | 16 => ("GlobeWorksModel", "nameHigh", "[I", true)
  | 17 => ("GlobeWorksModel", "letters", "[I", true)
  | 18 => ("GlobeWorksModel", "price", "[I", true)
  | 19 => ("GlobeWorksModel", "isFresh", "[Z", true)
  | 20 => ("GlobeWorksModel", "printedIn", "[I", true)
  | 21 => ("GlobeWorksModel", "editions", "I", false)
  | 22 => ("GlobeWorksModel", "here", "[I", true)
  | 23 => ("GlobeWorksModel", "ways", "[I", true)
  | 24 => ("GlobeWorksModel", "bestWays", "[I", true)
  | _ => ("GlobeWorksModel", "bestCost", "I", false)
def tyX7 : Nat → FieldType := fun k => match k with
  | 0 => .array .int
  | 1 => .int
  | 2 => .int
  | 3 => .int
  | 4 => .array .int
  | 5 => .array .int
  | 6 => .int
  | 7 => .array .int
  | 8 => .array .int
  | 9 => .array .int
  | 10 => .int
  | 11 => .int
  | 12 => .int
  | 13 => .array .boolean
  | 14 => .array .int
  | 15 => .array .int
  | 16 => .array .int
  | 17 => .array .int
  | 18 => .array .int
  | 19 => .array .boolean
  | 20 => .array .int
  | 21 => .int
  | 22 => .array .int
  | 23 => .array .int
  | 24 => .array .int
  | _ => .int
abbrev wsX70 : List Cond := u_ws RX7 TX7 26
theorem nmX7 : ∀ a, a < 26 → ∀ b, b < 26 → a ≠ b → (TX7 a).2.1 ≠ (TX7 b).2.1 := by decide +kernel
theorem tyX7_ok : ∀ k, k < 26 → parseFieldDescriptor (TX7 k).2.2.1 = some (tyX7 k) := by decide +kernel
abbrev cX7_init : ByteArray := prog_9_method_1_code
def yX7_init : MethodName := ⟨RX7, "<init>", "(I)V"⟩
abbrev cX7_in : ByteArray := prog_9_method_2_code
def yX7_in : MethodName := ⟨RX7, "in", "(III)Z"⟩
abbrev cX7_isGore : ByteArray := prog_9_method_3_code
def yX7_isGore : MethodName := ⟨RX7, "isGore", "(I)Z"⟩
abbrev cX7_round : ByteArray := prog_9_method_4_code
def yX7_round : MethodName := ⟨RX7, "round", "(II)I"⟩
abbrev cX7_narrowOf : ByteArray := prog_9_method_5_code
def yX7_narrowOf : MethodName := ⟨RX7, "narrowOf", "(I)I"⟩
abbrev cX7_acrossOf : ByteArray := prog_9_method_6_code
def yX7_acrossOf : MethodName := ⟨RX7, "acrossOf", "(II)I"⟩
abbrev cX7_narrow : ByteArray := prog_9_method_7_code
def yX7_narrow : MethodName := ⟨RX7, "narrow", "(I)I"⟩
abbrev cX7_across : ByteArray := prog_9_method_8_code
def yX7_across : MethodName := ⟨RX7, "across", "(II)I"⟩
abbrev cX7_isPlace : ByteArray := prog_9_method_9_code
def yX7_isPlace : MethodName := ⟨RX7, "isPlace", "(II)Z"⟩
abbrev cX7_coast : ByteArray := prog_9_method_10_code
def yX7_coast : MethodName := ⟨RX7, "coast", "(II)I"⟩
abbrev cX7_heightAt : ByteArray := prog_9_method_11_code
def yX7_heightAt : MethodName := ⟨RX7, "heightAt", "(IIII)I"⟩
abbrev cX7_adds : ByteArray := prog_9_method_12_code
def yX7_adds : MethodName := ⟨RX7, "adds", "(IIIIII)V"⟩
abbrev cX7_isEdge : ByteArray := prog_9_method_13_code
def yX7_isEdge : MethodName := ⟨RX7, "isEdge", "(I)Z"⟩
abbrev cX7_parts : ByteArray := prog_9_method_14_code
def yX7_parts : MethodName := ⟨RX7, "parts", "(II)I"⟩
abbrev cX7_to : ByteArray := prog_9_method_15_code
def yX7_to : MethodName := ⟨RX7, "to", "(III)I"⟩
abbrev cX7_stays : ByteArray := prog_9_method_16_code
def yX7_stays : MethodName := ⟨RX7, "stays", "(IIII)V"⟩
abbrev cX7_goes : ByteArray := prog_9_method_17_code
def yX7_goes : MethodName := ⟨RX7, "goes", "(IIIII)V"⟩
abbrev cX7_sideWest : ByteArray := prog_9_method_18_code
def yX7_sideWest : MethodName := ⟨RX7, "sideWest", "(II)I"⟩
abbrev cX7_pieces : ByteArray := prog_9_method_19_code
def yX7_pieces : MethodName := ⟨RX7, "pieces", "(I)I"⟩
abbrev cX7_piece : ByteArray := prog_9_method_20_code
def yX7_piece : MethodName := ⟨RX7, "piece", "(III)I"⟩
abbrev cX7_paper : ByteArray := prog_9_method_21_code
def yX7_paper : MethodName := ⟨RX7, "paper", "(II)Z"⟩
abbrev cX7_grown : ByteArray := prog_9_method_22_code
def yX7_grown : MethodName := ⟨RX7, "grown", "(I)I"⟩
abbrev cX7_drawn : ByteArray := prog_9_method_23_code
def yX7_drawn : MethodName := ⟨RX7, "drawn", "(II)I"⟩
abbrev cX7_wet : ByteArray := prog_9_method_24_code
def yX7_wet : MethodName := ⟨RX7, "wet", "(II)I"⟩
abbrev cX7_isName : ByteArray := prog_9_method_25_code
def yX7_isName : MethodName := ⟨RX7, "isName", "(I)Z"⟩
abbrev cX7_namesIn : ByteArray := prog_9_method_26_code
def yX7_namesIn : MethodName := ⟨RX7, "namesIn", "(I)I"⟩
abbrev cX7_name : ByteArray := prog_9_method_27_code
def yX7_name : MethodName := ⟨RX7, "name", "(IIII)I"⟩
abbrev cX7_strike : ByteArray := prog_9_method_28_code
def yX7_strike : MethodName := ⟨RX7, "strike", "(I)Z"⟩
abbrev cX7_left : ByteArray := prog_9_method_29_code
def yX7_left : MethodName := ⟨RX7, "left", "(II)I"⟩
abbrev cX7_low : ByteArray := prog_9_method_30_code
def yX7_low : MethodName := ⟨RX7, "low", "(II)I"⟩
abbrev cX7_isWithin : ByteArray := prog_9_method_31_code
def yX7_isWithin : MethodName := ⟨RX7, "isWithin", "(II)Z"⟩
abbrev cX7_canBe : ByteArray := prog_9_method_32_code
def yX7_canBe : MethodName := ⟨RX7, "canBe", "(II)Z"⟩
abbrev cX7_may : ByteArray := prog_9_method_33_code
def yX7_may : MethodName := ⟨RX7, "may", "(II)Z"⟩
abbrev cX7_areApart : ByteArray := prog_9_method_34_code
def yX7_areApart : MethodName := ⟨RX7, "areApart", "(IIII)Z"⟩
abbrev cX7_sets : ByteArray := prog_9_method_35_code
def yX7_sets : MethodName := ⟨RX7, "sets", "(I)I"⟩
abbrev cX7_isGood : ByteArray := prog_9_method_36_code
def yX7_isGood : MethodName := ⟨RX7, "isGood", "(I)Z"⟩
abbrev cX7_set : ByteArray := prog_9_method_37_code
def yX7_set : MethodName := ⟨RX7, "set", "(I)I"⟩
abbrev cX7_cost : ByteArray := prog_9_method_38_code
def yX7_cost : MethodName := ⟨RX7, "cost", "(I)I"⟩
abbrev cX7_told : ByteArray := prog_9_method_39_code
def yX7_told : MethodName := ⟨RX7, "told", "(II)I"⟩
abbrev cX7_fresh : ByteArray := prog_9_method_40_code
def yX7_fresh : MethodName := ⟨RX7, "fresh", "(I)Z"⟩
abbrev cX7_edition : ByteArray := prog_9_method_41_code
def yX7_edition : MethodName := ⟨RX7, "edition", "()I"⟩
abbrev cX7_printed : ByteArray := prog_9_method_42_code
def yX7_printed : MethodName := ⟨RX7, "printed", "(I)I"⟩
abbrev cX7_count : ByteArray := prog_9_method_43_code
def yX7_count : MethodName := ⟨RX7, "count", "(I)I"⟩
def RJx145de : String := "java/io/Serializable"
def TJx145de : u_T := fun k => match k with
  | _ => ("", "", "", false)
def tyJx145de : Nat → FieldType := fun k => match k with
  | _ => .int
abbrev wsJx145de0 : List Cond := u_ws RJx145de TJx145de 0
theorem nmJx145de : ∀ a, a < 0 → ∀ b, b < 0 → a ≠ b → (TJx145de a).2.1 ≠ (TJx145de b).2.1 := by decide +kernel
theorem tyJx145de_ok : ∀ k, k < 0 → parseFieldDescriptor (TJx145de k).2.2.1 = some (tyJx145de k) := by decide +kernel
def RJx8e188 : String := "java/lang/Cloneable"
def TJx8e188 : u_T := fun k => match k with
  | _ => ("", "", "", false)
def tyJx8e188 : Nat → FieldType := fun k => match k with
  | _ => .int
abbrev wsJx8e1880 : List Cond := u_ws RJx8e188 TJx8e188 0
theorem nmJx8e188 : ∀ a, a < 0 → ∀ b, b < 0 → a ≠ b → (TJx8e188 a).2.1 ≠ (TJx8e188 b).2.1 := by decide +kernel
theorem tyJx8e188_ok : ∀ k, k < 0 → parseFieldDescriptor (TJx8e188 k).2.2.1 = some (tyJx8e188 k) := by decide +kernel
def RJxab1ab : String := "java/lang/Iterable"
def TJxab1ab : u_T := fun k => match k with
  | _ => ("", "", "", false)
def tyJxab1ab : Nat → FieldType := fun k => match k with
  | _ => .int
abbrev wsJxab1ab0 : List Cond := u_ws RJxab1ab TJxab1ab 0
theorem nmJxab1ab : ∀ a, a < 0 → ∀ b, b < 0 → a ≠ b → (TJxab1ab a).2.1 ≠ (TJxab1ab b).2.1 := by decide +kernel
theorem tyJxab1ab_ok : ∀ k, k < 0 → parseFieldDescriptor (TJxab1ab k).2.2.1 = some (tyJxab1ab k) := by decide +kernel
def RJ9 : String := "java/lang/Math"
def TJ9 : u_T := fun k => match k with
  | _ => ("", "", "", false)
def tyJ9 : Nat → FieldType := fun k => match k with
  | _ => .int
abbrev wsJ90 : List Cond := u_ws RJ9 TJ9 0
theorem nmJ9 : ∀ a, a < 0 → ∀ b, b < 0 → a ≠ b → (TJ9 a).2.1 ≠ (TJ9 b).2.1 := by decide +kernel
theorem tyJ9_ok : ∀ k, k < 0 → parseFieldDescriptor (TJ9 k).2.2.1 = some (tyJ9 k) := by decide +kernel
abbrev cJ9_floorDiv_7cf53 : ByteArray := prog_13_method_47_code
def yJ9_floorDiv_7cf53 : MethodName := ⟨RJ9, "floorDiv", "(II)I"⟩
abbrev cJ9_floorMod_7cf53 : ByteArray := prog_13_method_50_code
def yJ9_floorMod_7cf53 : MethodName := ⟨RJ9, "floorMod", "(II)I"⟩
abbrev cJ9_abs_0f7a4 : ByteArray := prog_13_method_59_code
def yJ9_abs_0f7a4 : MethodName := ⟨RJ9, "abs", "(I)I"⟩
abbrev cJ9_max_7cf53 : ByteArray := prog_13_method_65_code
def yJ9_max_7cf53 : MethodName := ⟨RJ9, "max", "(II)I"⟩
abbrev cJ9_min_7cf53 : ByteArray := prog_13_method_69_code
def yJ9_min_7cf53 : MethodName := ⟨RJ9, "min", "(II)I"⟩
def RJ10 : String := "java/lang/System"
def TJ10 : u_T := fun k => match k with
  | _ => ("", "", "", false)
def tyJ10 : Nat → FieldType := fun k => match k with
  | _ => .int
abbrev wsJ100 : List Cond := u_ws RJ10 TJ10 0
theorem nmJ10 : ∀ a, a < 0 → ∀ b, b < 0 → a ≠ b → (TJ10 a).2.1 ≠ (TJ10 b).2.1 := by decide +kernel
theorem tyJ10_ok : ∀ k, k < 0 → parseFieldDescriptor (TJ10 k).2.2.1 = some (tyJ10 k) := by decide +kernel
def RJxa1e45 : String := "java/util/AbstractCollection"
def TJxa1e45 : u_T := fun k => match k with
  | _ => ("", "", "", false)
def tyJxa1e45 : Nat → FieldType := fun k => match k with
  | _ => .int
abbrev wsJxa1e450 : List Cond := u_ws RJxa1e45 TJxa1e45 0
theorem nmJxa1e45 : ∀ a, a < 0 → ∀ b, b < 0 → a ≠ b → (TJxa1e45 a).2.1 ≠ (TJxa1e45 b).2.1 := by decide +kernel
theorem tyJxa1e45_ok : ∀ k, k < 0 → parseFieldDescriptor (TJxa1e45 k).2.2.1 = some (tyJxa1e45 k) := by decide +kernel
abbrev cJxa1e45_init_da8c8 : ByteArray := prog_15_method_1_code
def yJxa1e45_init_da8c8 : MethodName := ⟨RJxa1e45, "<init>", "()V"⟩
def RJxc12de : String := "java/util/AbstractList"
def TJxc12de : u_T := fun k => match k with
  | _ => ("", "", "", false)
def tyJxc12de : Nat → FieldType := fun k => match k with
  | _ => .int
abbrev wsJxc12de0 : List Cond := u_ws RJxc12de TJxc12de 0
theorem nmJxc12de : ∀ a, a < 0 → ∀ b, b < 0 → a ≠ b → (TJxc12de a).2.1 ≠ (TJxc12de b).2.1 := by decide +kernel
theorem tyJxc12de_ok : ∀ k, k < 0 → parseFieldDescriptor (TJxc12de k).2.2.1 = some (tyJxc12de k) := by decide +kernel
abbrev cJxc12de_init_da8c8 : ByteArray := prog_16_method_1_code
def yJxc12de_init_da8c8 : MethodName := ⟨RJxc12de, "<init>", "()V"⟩
def RJx4a65c : String := "java/util/ArrayList"
def TJx4a65c : u_T := fun k => match k with
  | 0 => ("java/util/AbstractList", "modCount", "I", false)
  | 1 => ("java/util/ArrayList", "elementData", "[Ljava/lang/Object;", false)
  | _ => ("java/util/ArrayList", "size", "I", false)
def tyJx4a65c : Nat → FieldType := fun k => match k with
  | 0 => .int
  | 1 => .array (.object "java/lang/Object")
  | _ => .int
abbrev wsJx4a65c0 : List Cond := u_ws RJx4a65c TJx4a65c 3
theorem nmJx4a65c : ∀ a, a < 3 → ∀ b, b < 3 → a ≠ b → (TJx4a65c a).2.1 ≠ (TJx4a65c b).2.1 := by decide +kernel
theorem tyJx4a65c_ok : ∀ k, k < 3 → parseFieldDescriptor (TJx4a65c k).2.2.1 = some (tyJx4a65c k) := by decide +kernel
abbrev cJx4a65c_init_da8c8 : ByteArray := prog_17_method_2_code
def yJx4a65c_init_da8c8 : MethodName := ⟨RJx4a65c, "<init>", "()V"⟩
abbrev cJx4a65c_grow_92f84 : ByteArray := prog_17_method_6_code
def yJx4a65c_grow_92f84 : MethodName := ⟨RJx4a65c, "grow", "(I)[Ljava/lang/Object;"⟩
abbrev cJx4a65c_grow_d5877 : ByteArray := prog_17_method_7_code
def yJx4a65c_grow_d5877 : MethodName := ⟨RJx4a65c, "grow", "()[Ljava/lang/Object;"⟩
abbrev cJx4a65c_size_8abf5 : ByteArray := prog_17_method_8_code
def yJx4a65c_size_8abf5 : MethodName := ⟨RJx4a65c, "size", "()I"⟩
abbrev cJx4a65c_elementData_915e3 : ByteArray := prog_17_method_18_code
def yJx4a65c_elementData_915e3 : MethodName := ⟨RJx4a65c, "elementData", "(I)Ljava/lang/Object;"⟩
abbrev cJx4a65c_get_915e3 : ByteArray := prog_17_method_20_code
def yJx4a65c_get_915e3 : MethodName := ⟨RJx4a65c, "get", "(I)Ljava/lang/Object;"⟩
abbrev cJx4a65c_add_72be8 : ByteArray := prog_17_method_24_code
def yJx4a65c_add_72be8 : MethodName := ⟨RJx4a65c, "add", "(Ljava/lang/Object;[Ljava/lang/Object;I)V"⟩
abbrev cJx4a65c_add_9ea2d : ByteArray := prog_17_method_25_code
def yJx4a65c_add_9ea2d : MethodName := ⟨RJx4a65c, "add", "(Ljava/lang/Object;)Z"⟩
abbrev cJx4a65c_remove_915e3 : ByteArray := prog_17_method_29_code
def yJx4a65c_remove_915e3 : MethodName := ⟨RJx4a65c, "remove", "(I)Ljava/lang/Object;"⟩
abbrev cJx4a65c_fastRemove_b59b0 : ByteArray := prog_17_method_39_code
def yJx4a65c_fastRemove_b59b0 : MethodName := ⟨RJx4a65c, "fastRemove", "([Ljava/lang/Object;I)V"⟩
def RJ7 : String := "java/util/Arrays"
def TJ7 : u_T := fun k => match k with
  | _ => ("", "", "", false)
def tyJ7 : Nat → FieldType := fun k => match k with
  | _ => .int
abbrev wsJ70 : List Cond := u_ws RJ7 TJ7 0
theorem nmJ7 : ∀ a, a < 0 → ∀ b, b < 0 → a ≠ b → (TJ7 a).2.1 ≠ (TJ7 b).2.1 := by decide +kernel
theorem tyJ7_ok : ∀ k, k < 0 → parseFieldDescriptor (TJ7 k).2.2.1 = some (tyJ7 k) := by decide +kernel
abbrev cJ7_copyOf_1904c : ByteArray := prog_18_method_119_code
def yJ7_copyOf_1904c : MethodName := ⟨RJ7, "copyOf", "([Ljava/lang/Object;I)[Ljava/lang/Object;"⟩
abbrev cJ7_copyOf_6403c : ByteArray := prog_18_method_120_code
def yJ7_copyOf_6403c : MethodName := ⟨RJ7, "copyOf", "([Ljava/lang/Object;ILjava/lang/Class;)[Ljava/lang/Object;"⟩
def RJx5ef63 : String := "java/util/Collection"
def TJx5ef63 : u_T := fun k => match k with
  | _ => ("", "", "", false)
def tyJx5ef63 : Nat → FieldType := fun k => match k with
  | _ => .int
abbrev wsJx5ef630 : List Cond := u_ws RJx5ef63 TJx5ef63 0
theorem nmJx5ef63 : ∀ a, a < 0 → ∀ b, b < 0 → a ≠ b → (TJx5ef63 a).2.1 ≠ (TJx5ef63 b).2.1 := by decide +kernel
theorem tyJx5ef63_ok : ∀ k, k < 0 → parseFieldDescriptor (TJx5ef63 k).2.2.1 = some (tyJx5ef63 k) := by decide +kernel
def RJxbd725 : String := "java/util/List"
def TJxbd725 : u_T := fun k => match k with
  | _ => ("", "", "", false)
def tyJxbd725 : Nat → FieldType := fun k => match k with
  | _ => .int
abbrev wsJxbd7250 : List Cond := u_ws RJxbd725 TJxbd725 0
theorem nmJxbd725 : ∀ a, a < 0 → ∀ b, b < 0 → a ≠ b → (TJxbd725 a).2.1 ≠ (TJxbd725 b).2.1 := by decide +kernel
theorem tyJxbd725_ok : ∀ k, k < 0 → parseFieldDescriptor (TJxbd725 k).2.2.1 = some (tyJxbd725 k) := by decide +kernel
def RJ15 : String := "java/util/Objects"
def TJ15 : u_T := fun k => match k with
  | _ => ("", "", "", false)
def tyJ15 : Nat → FieldType := fun k => match k with
  | _ => .int
abbrev wsJ150 : List Cond := u_ws RJ15 TJ15 0
theorem nmJ15 : ∀ a, a < 0 → ∀ b, b < 0 → a ≠ b → (TJ15 a).2.1 ≠ (TJ15 b).2.1 := by decide +kernel
theorem tyJ15_ok : ∀ k, k < 0 → parseFieldDescriptor (TJ15 k).2.2.1 = some (tyJ15 k) := by decide +kernel
abbrev cJ15_checkIndex_7cf53 : ByteArray := prog_21_method_17_code
def yJ15_checkIndex_7cf53 : MethodName := ⟨RJ15, "checkIndex", "(II)I"⟩
def RJxf0a74 : String := "java/util/RandomAccess"
def TJxf0a74 : u_T := fun k => match k with
  | _ => ("", "", "", false)
def tyJxf0a74 : Nat → FieldType := fun k => match k with
  | _ => .int
abbrev wsJxf0a740 : List Cond := u_ws RJxf0a74 TJxf0a74 0
theorem nmJxf0a74 : ∀ a, a < 0 → ∀ b, b < 0 → a ≠ b → (TJxf0a74 a).2.1 ≠ (TJxf0a74 b).2.1 := by decide +kernel
theorem tyJxf0a74_ok : ∀ k, k < 0 → parseFieldDescriptor (TJxf0a74 k).2.2.1 = some (tyJxf0a74 k) := by decide +kernel
def RJxa66e6 : String := "java/util/SequencedCollection"
def TJxa66e6 : u_T := fun k => match k with
  | _ => ("", "", "", false)
def tyJxa66e6 : Nat → FieldType := fun k => match k with
  | _ => .int
abbrev wsJxa66e60 : List Cond := u_ws RJxa66e6 TJxa66e6 0
theorem nmJxa66e6 : ∀ a, a < 0 → ∀ b, b < 0 → a ≠ b → (TJxa66e6 a).2.1 ≠ (TJxa66e6 b).2.1 := by decide +kernel
theorem tyJxa66e6_ok : ∀ k, k < 0 → parseFieldDescriptor (TJxa66e6 k).2.2.1 = some (tyJxa66e6 k) := by decide +kernel
def RJ8 : String := "jdk/internal/util/ArraysSupport"
def TJ8 : u_T := fun k => match k with
  | _ => ("", "", "", false)
def tyJ8 : Nat → FieldType := fun k => match k with
  | _ => .int
abbrev wsJ80 : List Cond := u_ws RJ8 TJ8 0
theorem nmJ8 : ∀ a, a < 0 → ∀ b, b < 0 → a ≠ b → (TJ8 a).2.1 ≠ (TJ8 b).2.1 := by decide +kernel
theorem tyJ8_ok : ∀ k, k < 0 → parseFieldDescriptor (TJ8 k).2.2.1 = some (tyJ8 k) := by decide +kernel
abbrev cJ8_newLength_cabcc : ByteArray := prog_24_method_27_code
def yJ8_newLength_cabcc : MethodName := ⟨RJ8, "newLength", "(III)I"⟩
abbrev cJ8_hugeLength_7cf53 : ByteArray := prog_24_method_28_code
def yJ8_hugeLength_7cf53 : MethodName := ⟨RJ8, "hugeLength", "(II)I"⟩
def RJ3 : String := "jdk/internal/util/Preconditions"
def TJ3 : u_T := fun k => match k with
  | _ => ("", "", "", false)
def tyJ3 : Nat → FieldType := fun k => match k with
  | _ => .int
abbrev wsJ30 : List Cond := u_ws RJ3 TJ3 0
theorem nmJ3 : ∀ a, a < 0 → ∀ b, b < 0 → a ≠ b → (TJ3 a).2.1 ≠ (TJ3 b).2.1 := by decide +kernel
theorem tyJ3_ok : ∀ k, k < 0 → parseFieldDescriptor (TJ3 k).2.2.1 = some (tyJ3 k) := by decide +kernel
abbrev cJ3_checkIndex_8e157 : ByteArray := prog_25_method_11_code
def yJ3_checkIndex_8e157 : MethodName := ⟨RJ3, "checkIndex", "(IILjava/util/function/BiFunction;)I"⟩
def RL : String := "GlobeWorksLaw"
abbrev cL_cell : ByteArray := method_2_code
def yL_cell : MethodName := ⟨RL, "cell", "([II)I"⟩
abbrev cL_law : ByteArray := code
def yL_law : MethodName := ⟨RL, "law", "([I)Z"⟩
def wsJx4a65c_fastRemove_b59b0 : List Cond := .code yJx4a65c_fastRemove_b59b0 cJx4a65c_fastRemove_b59b0 4 none :: ([.fieldLink RJx4a65c 63 "java/util/ArrayList" "modCount" "I", .sameField "java/util/ArrayList" "java/util/AbstractList" "modCount" "I", .fieldLink RJx4a65c 48 "java/util/ArrayList" "size" "I", .methodLink RJx4a65c 112 arraycopyName, .native arraycopyName, .static arraycopyName, .initialized "java/lang/System"] ++ wsJx4a65c0)
def wsL_law_r1 : List Cond := [Cond.classLink RL 7 RX6, Cond.instantiable RX6 9, Cond.initialized RX6, Cond.classLink RL 18 RX7, Cond.instantiable RX7 26, Cond.initialized RX7, Cond.methodLink RL 9 yL_cell, Cond.static yL_cell, Cond.initialized RL, Cond.code yL_cell cL_cell 2 (some .int), Cond.methodLink RL 15 yX6_init, Cond.instanceMethod yX6_init, Cond.code yX6_init cX6_init 4 none, Cond.methodLink RX6 3 objectInit, Cond.instanceMethod objectInit, Cond.code objectInit ⟨#[0xb1]⟩ 1 none, Cond.classLink RX6 9 RJx4a65c, Cond.instantiable RJx4a65c 3, Cond.initialized RJx4a65c, Cond.fieldLink RX6 12 "GlobeWorks" "coasts" "Ljava/util/ArrayList;", Cond.fieldLink RX6 16 "GlobeWorks" "names" "Ljava/util/ArrayList;", Cond.classLink RX6 19 RX4, Cond.instantiable RX4 3, Cond.initialized RX4]
def wsL_law_r2 : List Cond := [Cond.fieldLink RX6 22 "GlobeWorks" "search" "LGlobeWorks$Search;", Cond.fieldLink RX6 30 "GlobeWorks" "width" "I", Cond.classLink RX6 34 RX1, Cond.fieldLink RX6 36 "GlobeWorks" "gores" "[LGlobeWorks$Gore;", Cond.instantiable RX1 5, Cond.initialized RX1, Cond.methodLink RX6 11 yJx4a65c_init_da8c8, Cond.instanceMethod yJx4a65c_init_da8c8, Cond.code yJx4a65c_init_da8c8 cJx4a65c_init_da8c8 1 none, Cond.fieldLink RJx4a65c 39 "java/util/ArrayList" "DEFAULTCAPACITY_EMPTY_ELEMENTDATA" "[Ljava/lang/Object;", Cond.fieldLink RJx4a65c 9 "java/util/ArrayList" "elementData" "[Ljava/lang/Object;", Cond.methodLink RJx4a65c 1 yJxc12de_init_da8c8, Cond.instanceMethod yJxc12de_init_da8c8, Cond.initialized RJxc12de, Cond.code yJxc12de_init_da8c8 cJxc12de_init_da8c8 1 none, Cond.fieldLink RJxc12de 7 "java/util/AbstractList" "modCount" "I", Cond.methodLink RJxc12de 1 yJxa1e45_init_da8c8, Cond.instanceMethod yJxa1e45_init_da8c8, Cond.initialized RJxa1e45, Cond.code yJxa1e45_init_da8c8 cJxa1e45_init_da8c8 1 none, Cond.methodLink RJxa1e45 1 objectInit, Cond.instanceMethod yX4_init, Cond.code yX4_init cX4_init 1 none, Cond.methodLink RX4 3 objectInit]
def wsL_law_r3 : List Cond := [Cond.arrayClass .int, Cond.fieldLink RX4 9 "GlobeWorks$Search" "trial" "[I", Cond.fieldLink RX4 15 "GlobeWorks$Search" "best" "[I", Cond.methodLink RX6 26 yX6_goreNumber, Cond.static yX6_goreNumber, Cond.code yX6_goreNumber cX6_goreNumber 3 (some .int), Cond.fieldLink RX6 223 "GlobeWorks" "GORE_NUMBERS" "[I", Cond.instanceMethod yX1_init, Cond.code yX1_init cX1_init 1 none, Cond.methodLink RX1 1 objectInit, Cond.classLink RX1 7 RJx4a65c, Cond.fieldLink RX1 10 "GlobeWorks$Gore" "pieces" "Ljava/util/ArrayList;", Cond.fieldLink RX1 16 "GlobeWorks$Gore" "names" "Ljava/util/ArrayList;", Cond.fieldLink RX1 19 "GlobeWorks$Gore" "isFresh" "Z", Cond.methodLink RX1 9 yJx4a65c_init_da8c8, Cond.methodLink RL 20 yX7_init, Cond.instanceMethod yX7_init, Cond.code yX7_init cX7_init 5 none, Cond.methodLink RX7 1 objectInit, Cond.fieldLink RX7 7 "GlobeWorksModel" "cos" "[I", Cond.fieldLink RX7 13 "GlobeWorksModel" "coastAt" "[I", Cond.fieldLink RX7 16 "GlobeWorksModel" "coastHigh" "[I", Cond.fieldLink RX7 19 "GlobeWorksModel" "pieceGore" "[I", Cond.fieldLink RX7 22 "GlobeWorksModel" "pieceCoast" "[I"]
def wsL_law_r4 : List Cond := [Cond.fieldLink RX7 25 "GlobeWorksModel" "pieceEnds" "[I", Cond.arrayClass .boolean, Cond.fieldLink RX7 28 "GlobeWorksModel" "isThere" "[Z", Cond.fieldLink RX7 32 "GlobeWorksModel" "nameGore" "[I", Cond.fieldLink RX7 35 "GlobeWorksModel" "nameSide" "[I", Cond.fieldLink RX7 38 "GlobeWorksModel" "nameHigh" "[I", Cond.fieldLink RX7 41 "GlobeWorksModel" "letters" "[I", Cond.fieldLink RX7 44 "GlobeWorksModel" "price" "[I", Cond.fieldLink RX7 47 "GlobeWorksModel" "isFresh" "[Z", Cond.fieldLink RX7 50 "GlobeWorksModel" "printedIn" "[I", Cond.fieldLink RX7 53 "GlobeWorksModel" "here" "[I", Cond.fieldLink RX7 56 "GlobeWorksModel" "ways" "[I", Cond.fieldLink RX7 59 "GlobeWorksModel" "bestWays" "[I", Cond.fieldLink RX7 62 "GlobeWorksModel" "gores" "I", Cond.fieldLink RX7 66 "GlobeWorksModel" "wide" "I", Cond.methodLink RL 21 yX6_narrow, Cond.instanceMethod yX6_narrow, Cond.selects RX6 yX6_narrow yX6_narrow, Cond.code yX6_narrow cX6_narrow 2 (some .int), Cond.methodLink RX6 41 yX6_isHeight, Cond.static yX6_isHeight, Cond.code yX6_isHeight cX6_isHeight 1 (some .boolean), Cond.methodLink RX6 45 yX6_narrowAt, Cond.static yX6_narrowAt]
def wsL_law_r5 : List Cond := [Cond.code yX6_narrowAt cX6_narrowAt 4 (some .int), Cond.methodLink RX6 235 Lib.Math.abs.name, Cond.static Lib.Math.abs.name, Cond.initialized "java/lang/Math", Cond.code Lib.Math.abs.name Lib.Math.abs.code 1 (some .int), Cond.methodLink RX6 238 yX6_cosOf, Cond.static yX6_cosOf, Cond.code yX6_cosOf cX6_cosOf 1 (some .int), Cond.fieldLink RX6 232 "GlobeWorks" "COS" "[I", Cond.methodLink RL 25 yX7_narrow, Cond.instanceMethod yX7_narrow, Cond.selects RX7 yX7_narrow yX7_narrow, Cond.code yX7_narrow cX7_narrow 2 (some .int), Cond.methodLink RX7 69 yX7_in, Cond.static yX7_in, Cond.code yX7_in cX7_in 3 (some .boolean), Cond.methodLink RX7 73 yX7_narrowOf, Cond.instanceMethod yX7_narrowOf, Cond.selects RX7 yX7_narrowOf yX7_narrowOf, Cond.code yX7_narrowOf cX7_narrowOf 3 (some .int), Cond.methodLink RL 26 yX6_across, Cond.instanceMethod yX6_across, Cond.selects RX6 yX6_across yX6_across, Cond.code yX6_across cX6_across 4 (some .int)]
def wsL_law_r6 : List Cond := [Cond.constant RX6 52 (-2147483648), Cond.methodLink RX6 48 yX6_xOf, Cond.static yX6_xOf, Cond.code yX6_xOf cX6_xOf 2 (some .int), Cond.methodLink RL 30 yX7_across, Cond.instanceMethod yX7_across, Cond.selects RX7 yX7_across yX7_across, Cond.code yX7_across cX7_across 3 (some .int), Cond.constant RX7 81 (-2147483648), Cond.methodLink RX7 77 yX7_acrossOf, Cond.instanceMethod yX7_acrossOf, Cond.selects RX7 yX7_acrossOf yX7_acrossOf, Cond.code yX7_acrossOf cX7_acrossOf 3 (some .int), Cond.methodLink RL 31 yX6_coast, Cond.instanceMethod yX6_coast, Cond.selects RX6 yX6_coast yX6_coast, Cond.code yX6_coast cX6_coast 3 (some .int), Cond.classLink RX6 61 RX0, Cond.instantiable RX0 2, Cond.initialized RX0, Cond.methodLink RX6 53 yX6_isPlace, Cond.static yX6_isPlace, Cond.code yX6_isPlace cX6_isPlace 2 (some .boolean), Cond.methodLink RX6 57 yJx4a65c_size_8abf5]
def wsL_law_r7 : List Cond := [Cond.instanceMethod yJx4a65c_size_8abf5, Cond.selects RJx4a65c yJx4a65c_size_8abf5 yJx4a65c_size_8abf5, Cond.code yJx4a65c_size_8abf5 cJx4a65c_size_8abf5 1 (some .int), Cond.fieldLink RJx4a65c 48 "java/util/ArrayList" "size" "I", Cond.methodLink RX6 63 yX0_init, Cond.instanceMethod yX0_init, Cond.code yX0_init cX0_init 3 none, Cond.methodLink RX0 1 objectInit, Cond.fieldLink RX0 7 "GlobeWorks$Coast" "longitude" "I", Cond.fieldLink RX0 13 "GlobeWorks$Coast" "latitude" "I", Cond.methodLink RX6 66 yJx4a65c_add_9ea2d, Cond.instanceMethod yJx4a65c_add_9ea2d, Cond.selects RJx4a65c yJx4a65c_add_9ea2d yJx4a65c_add_9ea2d, Cond.code yJx4a65c_add_9ea2d cJx4a65c_add_9ea2d 2 (some .boolean), Cond.fieldLink RJx4a65c 63 "java/util/ArrayList" "modCount" "I", Cond.sameField "java/util/ArrayList" "java/util/AbstractList" "modCount" "I", Cond.methodLink RJx4a65c 131 yJx4a65c_add_72be8, Cond.instanceMethod yJx4a65c_add_72be8, Cond.selects RJx4a65c yJx4a65c_add_72be8 yJx4a65c_add_72be8, Cond.code yJx4a65c_add_72be8 cJx4a65c_add_72be8 4 none, Cond.methodLink RJx4a65c 129 yJx4a65c_grow_d5877, Cond.instanceMethod yJx4a65c_grow_d5877, Cond.selects RJx4a65c yJx4a65c_grow_d5877 yJx4a65c_grow_d5877, Cond.code yJx4a65c_grow_d5877 cJx4a65c_grow_d5877 1 (some (.array (.object "java/lang/Object")))]
def wsL_law_r8 : List Cond := [Cond.methodLink RJx4a65c 69 yJx4a65c_grow_92f84, Cond.instanceMethod yJx4a65c_grow_92f84, Cond.selects RJx4a65c yJx4a65c_grow_92f84 yJx4a65c_grow_92f84, Cond.code yJx4a65c_grow_92f84 cJx4a65c_grow_92f84 4 (some (.array (.object "java/lang/Object"))), Cond.methodLink RJx4a65c 79 Lib.Math.max.name, Cond.static Lib.Math.max.name, Cond.code Lib.Math.max.name Lib.Math.max.code 2 (some .int), Cond.classLink RJx4a65c 7 "java/lang/Object", Cond.methodLink RJx4a65c 73 yJ8_newLength_cabcc, Cond.static yJ8_newLength_cabcc, Cond.initialized RJ8, Cond.code yJ8_newLength_cabcc cJ8_newLength_cabcc 4 (some .int), Cond.methodLink RJ8 194 Lib.Math.max.name, Cond.constant RJ8 200 (2147483639), Cond.methodLink RJ8 201 yJ8_hugeLength_7cf53, Cond.static yJ8_hugeLength_7cf53, Cond.code yJ8_hugeLength_7cf53 cJ8_hugeLength_7cf53 3 (some .int), Cond.methodLink RJx4a65c 66 yJ7_copyOf_1904c, Cond.static yJ7_copyOf_1904c, Cond.initialized RJ7, Cond.code yJ7_copyOf_1904c cJ7_copyOf_1904c 2 (some (.array (.object "java/lang/Object"))), Cond.methodLink RJ7 86 ⟨"java/lang/Object", "getClass", "()Ljava/lang/Class;"⟩, Cond.selects "[Ljava/lang/Object;" ⟨"java/lang/Object", "getClass", "()Ljava/lang/Class;"⟩ ⟨"java/lang/Object", "getClass", "()Ljava/lang/Class;"⟩, Cond.instanceMethod ⟨"java/lang/Object", "getClass", "()Ljava/lang/Class;"⟩]
def wsL_law_r9 : List Cond := [Cond.native ⟨"java/lang/Object", "getClass", "()Ljava/lang/Class;"⟩, Cond.methodLink RJ7 300 yJ7_copyOf_6403c, Cond.static yJ7_copyOf_6403c, Cond.code yJ7_copyOf_6403c cJ7_copyOf_6403c 4 (some (.array (.object "java/lang/Object"))), Cond.classLink RJ7 110 "[Ljava/lang/Object;", Cond.classLink RJ7 2 "java/lang/Object", Cond.methodLink RJ7 304 Lib.Math.min.name, Cond.static Lib.Math.min.name, Cond.code Lib.Math.min.name Lib.Math.min.code 2 (some .int), Cond.methodLink RJ7 150 arraycopyName, Cond.native arraycopyName, Cond.static arraycopyName, Cond.initialized "java/lang/System", Cond.methodLink RL 34 yX7_coast, Cond.instanceMethod yX7_coast, Cond.selects RX7 yX7_coast yX7_coast, Cond.code yX7_coast cX7_coast 3 (some .int), Cond.fieldLink RX7 86 "GlobeWorksModel" "coasts" "I", Cond.methodLink RX7 82 yX7_isPlace, Cond.static yX7_isPlace, Cond.code yX7_isPlace cX7_isPlace 2 (some .boolean), Cond.methodLink RL 35 yX6_to, Cond.instanceMethod yX6_to, Cond.selects RX6 yX6_to yX6_to]
def wsL_law_r10 : List Cond := [Cond.code yX6_to cX6_to 7 (some .int), Cond.classLink RX6 77 RX5, Cond.instantiable RX5 5, Cond.initialized RX5, Cond.fieldLink RX6 82 "GlobeWorks$Step" "length" "I", Cond.fieldLink RX6 89 "GlobeWorks" "pieceCount" "I", Cond.fieldLink RX6 100 "GlobeWorks$Coast" "longitude" "I", Cond.fieldLink RX6 103 "GlobeWorks$Coast" "latitude" "I", Cond.methodLink RX6 70 yX6_coastOf, Cond.instanceMethod yX6_coastOf, Cond.selects RX6 yX6_coastOf yX6_coastOf, Cond.code yX6_coastOf cX6_coastOf 2 (some (.object "GlobeWorks$Coast")), Cond.classLink RX6 61 "GlobeWorks$Coast", Cond.methodLink RX6 113 yJx4a65c_get_915e3, Cond.instanceMethod yJx4a65c_get_915e3, Cond.selects RJx4a65c yJx4a65c_get_915e3 yJx4a65c_get_915e3, Cond.code yJx4a65c_get_915e3 cJx4a65c_get_915e3 2 (some (.object "java/lang/Object")), Cond.methodLink RJx4a65c 118 yJ15_checkIndex_7cf53, Cond.static yJ15_checkIndex_7cf53, Cond.initialized RJ15, Cond.code yJ15_checkIndex_7cf53 cJ15_checkIndex_7cf53 2 (some .int), Cond.methodLink RJ15 105 yJ3_checkIndex_8e157, Cond.static yJ3_checkIndex_8e157, Cond.initialized RJ3]
def wsL_law_r11 : List Cond := [Cond.code yJ3_checkIndex_8e157 cJ3_checkIndex_8e157 3 (some .int), Cond.methodLink RJx4a65c 123 yJx4a65c_elementData_915e3, Cond.instanceMethod yJx4a65c_elementData_915e3, Cond.selects RJx4a65c yJx4a65c_elementData_915e3 yJx4a65c_elementData_915e3, Cond.code yJx4a65c_elementData_915e3 cJx4a65c_elementData_915e3 2 (some (.object "java/lang/Object")), Cond.methodLink RX6 74 yX0_isAt, Cond.instanceMethod yX0_isAt, Cond.selects RX0 yX0_isAt yX0_isAt, Cond.code yX0_isAt cX0_isAt 3 (some .boolean), Cond.methodLink RX6 79 yX5_init, Cond.instanceMethod yX5_init, Cond.code yX5_init cX5_init 5 none, Cond.methodLink RX5 3 objectInit, Cond.fieldLink RX5 9 "GlobeWorks$Coast" "longitude" "I", Cond.fieldLink RX5 15 "GlobeWorks$Step" "longitude" "I", Cond.fieldLink RX5 18 "GlobeWorks$Coast" "latitude" "I", Cond.fieldLink RX5 21 "GlobeWorks$Step" "height" "I", Cond.fieldLink RX5 24 "GlobeWorks$Step" "rise" "I", Cond.fieldLink RX5 33 "GlobeWorks$Step" "direction" "I", Cond.methodLink RX5 36 Lib.Math.min.name, Cond.fieldLink RX5 39 "GlobeWorks$Step" "length" "I", Cond.methodLink RX5 27 yJ9_floorMod_7cf53, Cond.static yJ9_floorMod_7cf53, Cond.initialized RJ9]
def wsL_law_r12 : List Cond := [Cond.code yJ9_floorMod_7cf53 cJ9_floorMod_7cf53 3 (some .int), Cond.methodLink RX6 85 yX6_piecesOf, Cond.instanceMethod yX6_piecesOf, Cond.selects RX6 yX6_piecesOf yX6_piecesOf, Cond.code yX6_piecesOf cX6_piecesOf 3 (some .int), Cond.methodLink RX6 248 yX6_goneFromEdge, Cond.instanceMethod yX6_goneFromEdge, Cond.selects RX6 yX6_goneFromEdge yX6_goneFromEdge, Cond.code yX6_goneFromEdge cX6_goneFromEdge 2 (some .int), Cond.fieldLink RX6 244 "GlobeWorks$Step" "direction" "I", Cond.fieldLink RX6 247 "GlobeWorks$Step" "longitude" "I", Cond.methodLink RX6 241 yJ9_floorMod_7cf53, Cond.methodLink RX6 92 yX6_cutUpright, Cond.instanceMethod yX6_cutUpright, Cond.selects RX6 yX6_cutUpright yX6_cutUpright, Cond.code yX6_cutUpright cX6_cutUpright 4 none, Cond.methodLink RX6 251 yX6_layUpright, Cond.instanceMethod yX6_layUpright, Cond.selects RX6 yX6_layUpright yX6_layUpright, Cond.code yX6_layUpright cX6_layUpright 5 none, Cond.classLink RX6 117 RX3, Cond.instantiable RX3 5, Cond.initialized RX3, Cond.fieldLink RX6 254 "GlobeWorks$Step" "height" "I"]
def wsL_law_r13 : List Cond := [Cond.fieldLink RX6 255 "GlobeWorks$Step" "rise" "I", Cond.methodLink RX6 157 yX6_sideOf, Cond.instanceMethod yX6_sideOf, Cond.selects RX6 yX6_sideOf yX6_sideOf, Cond.code yX6_sideOf cX6_sideOf 3 (some .int), Cond.methodLink RX6 258 yX3_init, Cond.instanceMethod yX3_init, Cond.code yX3_init cX3_init 6 none, Cond.methodLink RX3 1 objectInit, Cond.fieldLink RX3 7 "GlobeWorks$Piece" "coast" "I", Cond.fieldLink RX3 13 "GlobeWorks$Piece" "beginSide" "I", Cond.fieldLink RX3 16 "GlobeWorks$Piece" "beginHeight" "I", Cond.fieldLink RX3 19 "GlobeWorks$Piece" "endSide" "I", Cond.fieldLink RX3 22 "GlobeWorks$Piece" "endHeight" "I", Cond.methodLink RX6 261 yX6_lay, Cond.instanceMethod yX6_lay, Cond.selects RX6 yX6_lay yX6_lay, Cond.code yX6_lay cX6_lay 4 none, Cond.fieldLink RX6 110 "GlobeWorks$Gore" "pieces" "Ljava/util/ArrayList;", Cond.fieldLink RX6 143 "GlobeWorks$Gore" "isFresh" "Z", Cond.methodLink RX6 106 yX6_goreOf, Cond.instanceMethod yX6_goreOf, Cond.selects RX6 yX6_goreOf yX6_goreOf, Cond.code yX6_goreOf cX6_goreOf 2 (some (.object "GlobeWorks$Gore"))]
def wsL_law_r14 : List Cond := [Cond.methodLink RX6 96 yX6_cutSlanting, Cond.instanceMethod yX6_cutSlanting, Cond.selects RX6 yX6_cutSlanting yX6_cutSlanting, Cond.code yX6_cutSlanting cX6_cutSlanting 10 none, Cond.methodLink RX6 265 Lib.Math.max.name, Cond.methodLink RX6 268 Lib.Math.min.name, Cond.methodLink RX6 227 yJ9_floorDiv_7cf53, Cond.static yJ9_floorDiv_7cf53, Cond.code yJ9_floorDiv_7cf53 cJ9_floorDiv_7cf53 3 (some .int), Cond.methodLink RX6 271 yX5_longitudeAt, Cond.instanceMethod yX5_longitudeAt, Cond.selects RX5 yX5_longitudeAt yX5_longitudeAt, Cond.code yX5_longitudeAt cX5_longitudeAt 2 (some .int), Cond.methodLink RX6 274 yX5_heightAt, Cond.instanceMethod yX5_heightAt, Cond.selects RX5 yX5_heightAt yX5_heightAt, Cond.code yX5_heightAt cX5_heightAt 2 (some .int), Cond.static yX6_roundBy, Cond.code yX6_roundBy cX6_roundBy 2 (some .int), Cond.methodLink RL 39 yX7_to, Cond.instanceMethod yX7_to, Cond.selects RX7 yX7_to yX7_to, Cond.code yX7_to cX7_to 9 (some .int), Cond.fieldLink RX7 92 "GlobeWorksModel" "pieces" "I"]
def wsL_law_r15 : List Cond := [Cond.methodLink RX7 99 yX7_parts, Cond.instanceMethod yX7_parts, Cond.selects RX7 yX7_parts yX7_parts, Cond.code yX7_parts cX7_parts 6 (some .int), Cond.methodLink RX7 95 yX7_isEdge, Cond.instanceMethod yX7_isEdge, Cond.selects RX7 yX7_isEdge yX7_isEdge, Cond.code yX7_isEdge cX7_isEdge 2 (some .boolean), Cond.methodLink RX7 102 yX7_stays, Cond.instanceMethod yX7_stays, Cond.selects RX7 yX7_stays yX7_stays, Cond.code yX7_stays cX7_stays 7 none, Cond.methodLink RX7 110 yX7_adds, Cond.instanceMethod yX7_adds, Cond.selects RX7 yX7_adds yX7_adds, Cond.code yX7_adds cX7_adds 7 none, Cond.methodLink RX7 106 yX7_goes, Cond.instanceMethod yX7_goes, Cond.selects RX7 yX7_goes yX7_goes, Cond.code yX7_goes cX7_goes 15 none, Cond.methodLink RX7 114 yX7_sideWest, Cond.instanceMethod yX7_sideWest, Cond.selects RX7 yX7_sideWest yX7_sideWest, Cond.code yX7_sideWest cX7_sideWest 3 (some .int)]
def wsL_law_r16 : List Cond := [Cond.methodLink RX7 117 yX7_heightAt, Cond.static yX7_heightAt, Cond.code yX7_heightAt cX7_heightAt 4 (some .int), Cond.methodLink RX7 89 yX7_round, Cond.static yX7_round, Cond.code yX7_round cX7_round 5 (some .int), Cond.methodLink RL 40 yX6_pieces, Cond.instanceMethod yX6_pieces, Cond.selects RX6 yX6_pieces yX6_pieces, Cond.code yX6_pieces cX6_pieces 3 (some .int), Cond.methodLink RL 43 yX7_pieces, Cond.instanceMethod yX7_pieces, Cond.selects RX7 yX7_pieces yX7_pieces, Cond.code yX7_pieces cX7_pieces 4 (some .int), Cond.methodLink RX7 121 yX7_isGore, Cond.instanceMethod yX7_isGore, Cond.selects RX7 yX7_isGore yX7_isGore, Cond.code yX7_isGore cX7_isGore 2 (some .boolean), Cond.methodLink RL 44 yX6_piece, Cond.instanceMethod yX6_piece, Cond.selects RX6 yX6_piece yX6_piece, Cond.code yX6_piece cX6_piece 6 (some .int), Cond.classLink RX6 117 "GlobeWorks$Piece", Cond.fieldLink RX6 119 "GlobeWorks$Piece" "coast" "I"]
def wsL_law_r17 : List Cond := [Cond.fieldLink RX6 122 "GlobeWorks$Piece" "beginSide" "I", Cond.fieldLink RX6 125 "GlobeWorks$Piece" "beginHeight" "I", Cond.fieldLink RX6 128 "GlobeWorks$Piece" "endSide" "I", Cond.fieldLink RX6 131 "GlobeWorks$Piece" "endHeight" "I", Cond.methodLink RL 47 yX7_piece, Cond.instanceMethod yX7_piece, Cond.selects RX7 yX7_piece yX7_piece, Cond.code yX7_piece cX7_piece 6 (some .int), Cond.methodLink RL 48 yX6_paper, Cond.instanceMethod yX6_paper, Cond.selects RX6 yX6_paper yX6_paper, Cond.code yX6_paper cX6_paper 7 (some .boolean), Cond.fieldLink RX6 137 "GlobeWorks" "growsAcross" "I", Cond.fieldLink RX6 140 "GlobeWorks" "growsAlong" "I", Cond.methodLink RX6 134 yX6_isGrowth, Cond.static yX6_isGrowth, Cond.code yX6_isGrowth cX6_isGrowth 1 (some .boolean), Cond.methodLink RL 52 yX7_paper, Cond.instanceMethod yX7_paper, Cond.selects RX7 yX7_paper yX7_paper, Cond.code yX7_paper cX7_paper 4 (some .boolean), Cond.fieldLink RX7 124 "GlobeWorksModel" "growsAcross" "I", Cond.fieldLink RX7 127 "GlobeWorksModel" "growsAlong" "I", Cond.methodLink RL 53 yX6_drawn]
def wsL_law_r18 : List Cond := [Cond.instanceMethod yX6_drawn, Cond.selects RX6 yX6_drawn yX6_drawn, Cond.code yX6_drawn cX6_drawn 3 (some .int), Cond.methodLink RX6 147 yX6_isOnPaper, Cond.static yX6_isOnPaper, Cond.code yX6_isOnPaper cX6_isOnPaper 2 (some .boolean), Cond.methodLink RX6 150 yX6_grownThousand, Cond.instanceMethod yX6_grownThousand, Cond.selects RX6 yX6_grownThousand yX6_grownThousand, Cond.code yX6_grownThousand cX6_grownThousand 2 (some .int), Cond.methodLink RX6 153 yX6_roundBy, Cond.methodLink RL 56 yX7_drawn, Cond.instanceMethod yX7_drawn, Cond.selects RX7 yX7_drawn yX7_drawn, Cond.code yX7_drawn cX7_drawn 3 (some .int), Cond.methodLink RX7 130 yX7_grown, Cond.instanceMethod yX7_grown, Cond.selects RX7 yX7_grown yX7_grown, Cond.code yX7_grown cX7_grown 2 (some .int), Cond.methodLink RL 57 yX6_wet, Cond.instanceMethod yX6_wet, Cond.selects RX6 yX6_wet yX6_wet, Cond.code yX6_wet cX6_wet 3 (some .int), Cond.methodLink RL 60 yX7_wet]
def wsL_law_r19 : List Cond := [Cond.instanceMethod yX7_wet, Cond.selects RX7 yX7_wet yX7_wet, Cond.code yX7_wet cX7_wet 3 (some .int), Cond.methodLink RL 61 yX6_name, Cond.instanceMethod yX6_name, Cond.selects RX6 yX6_name yX6_name, Cond.code yX6_name cX6_name 10 (some .int), Cond.fieldLink RX6 156 "GlobeWorks$Gore" "names" "Ljava/util/ArrayList;", Cond.classLink RX6 160 RX2, Cond.instantiable RX2 9, Cond.initialized RX2, Cond.fieldLink RX6 169 "GlobeWorks$Name" "ways" "I", Cond.methodLink RX6 162 yX2_init, Cond.instanceMethod yX2_init, Cond.code yX2_init cX2_init 7 none, Cond.methodLink RX2 3 objectInit, Cond.fieldLink RX2 9 "GlobeWorks$Name" "gore" "I", Cond.fieldLink RX2 15 "GlobeWorks$Name" "side" "I", Cond.fieldLink RX2 18 "GlobeWorks$Name" "height" "I", Cond.fieldLink RX2 21 "GlobeWorks$Name" "x" "I", Cond.fieldLink RX2 24 "GlobeWorks$Name" "letters" "I", Cond.fieldLink RX2 27 "GlobeWorks$Name" "price" "I", Cond.methodLink RX6 165 yX6_waysWithinEdges, Cond.instanceMethod yX6_waysWithinEdges]
def wsL_law_r20 : List Cond := [Cond.selects RX6 yX6_waysWithinEdges yX6_waysWithinEdges, Cond.code yX6_waysWithinEdges cX6_waysWithinEdges 5 (some .int), Cond.methodLink RX6 277 yX2_bottom, Cond.instanceMethod yX2_bottom, Cond.selects RX2 yX2_bottom yX2_bottom, Cond.code yX2_bottom cX2_bottom 2 (some .int), Cond.methodLink RX6 280 yX6_isWithinEdges, Cond.instanceMethod yX6_isWithinEdges, Cond.selects RX6 yX6_isWithinEdges yX6_isWithinEdges, Cond.code yX6_isWithinEdges cX6_isWithinEdges 5 (some .boolean), Cond.methodLink RX6 284 yX2_left, Cond.instanceMethod yX2_left, Cond.selects RX2 yX2_left yX2_left, Cond.code yX2_left cX2_left 2 (some .int), Cond.methodLink RX6 287 yX2_right, Cond.instanceMethod yX2_right, Cond.selects RX2 yX2_right yX2_right, Cond.code yX2_right cX2_right 2 (some .int), Cond.methodLink RX2 33 yX2_left, Cond.methodLink RX6 172 yX6_changeNames, Cond.instanceMethod yX6_changeNames, Cond.selects RX6 yX6_changeNames yX6_changeNames, Cond.code yX6_changeNames cX6_changeNames 3 none, Cond.fieldLink RX6 290 "GlobeWorks$Search" "leastCost" "I"]
def wsL_law_r21 : List Cond := [Cond.fieldLink RX6 297 "GlobeWorks$Search" "best" "[I", Cond.classLink RX6 160 "GlobeWorks$Name", Cond.fieldLink RX6 193 "GlobeWorks$Name" "setWay" "I", Cond.fieldLink RX6 196 "GlobeWorks$Gore" "settingCost" "I", Cond.methodLink RX6 293 yX6_tryWays, Cond.static yX6_tryWays, Cond.code yX6_tryWays cX6_tryWays 6 none, Cond.fieldLink RX6 308 "GlobeWorks$Search" "trial" "[I", Cond.methodLink RX6 300 yX4_keep, Cond.instanceMethod yX4_keep, Cond.selects RX4 yX4_keep yX4_keep, Cond.code yX4_keep cX4_keep 2 none, Cond.methodLink RX4 18 arraycopyName, Cond.fieldLink RX4 24 "GlobeWorks$Search" "leastCost" "I", Cond.methodLink RX6 190 yX2_allows, Cond.instanceMethod yX2_allows, Cond.selects RX2 yX2_allows yX2_allows, Cond.code yX2_allows cX2_allows 2 (some .boolean), Cond.fieldLink RX2 30 "GlobeWorks$Name" "ways" "I", Cond.methodLink RX6 304 yX6_isClear, Cond.static yX6_isClear, Cond.code yX6_isClear cX6_isClear 6 (some .boolean), Cond.methodLink RX6 314 yX2_covers, Cond.instanceMethod yX2_covers]
def wsL_law_r22 : List Cond := [Cond.selects RX2 yX2_covers yX2_covers, Cond.code yX2_covers cX2_covers 4 (some .boolean), Cond.methodLink RX2 43 Lib.Math.abs.name, Cond.methodLink RX2 37 yX2_right, Cond.methodLink RX2 40 yX2_bottom, Cond.methodLink RX6 311 yX2_costOf, Cond.instanceMethod yX2_costOf, Cond.selects RX2 yX2_costOf yX2_costOf, Cond.code yX2_costOf cX2_costOf 2 (some .int), Cond.methodLink RL 65 yX7_name, Cond.instanceMethod yX7_name, Cond.selects RX7 yX7_name yX7_name, Cond.code yX7_name cX7_name 6 (some .int), Cond.fieldLink RX7 133 "GlobeWorksModel" "names" "I", Cond.methodLink RX7 136 yX7_namesIn, Cond.instanceMethod yX7_namesIn, Cond.selects RX7 yX7_namesIn yX7_namesIn, Cond.code yX7_namesIn cX7_namesIn 4 (some .int), Cond.methodLink RL 66 yX6_strike, Cond.instanceMethod yX6_strike, Cond.selects RX6 yX6_strike yX6_strike, Cond.code yX6_strike cX6_strike 4 (some .boolean), Cond.fieldLink RX6 180 "GlobeWorks$Name" "isStruck" "Z", Cond.fieldLink RX6 183 "GlobeWorks$Name" "gore" "I"]
def wsL_law_r23 : List Cond := [Cond.methodLink RX6 176 yX6_nameOf, Cond.instanceMethod yX6_nameOf, Cond.selects RX6 yX6_nameOf yX6_nameOf, Cond.code yX6_nameOf cX6_nameOf 3 (some (.object "GlobeWorks$Name")), Cond.methodLink RX6 186 yX1_takeOut, Cond.instanceMethod yX1_takeOut, Cond.selects RX1 yX1_takeOut yX1_takeOut, Cond.code yX1_takeOut cX1_takeOut 3 none, Cond.methodLink RX1 23 yJx4a65c_size_8abf5, Cond.methodLink RX1 27 yJx4a65c_get_915e3, Cond.methodLink RX1 31 yJx4a65c_remove_915e3, Cond.instanceMethod yJx4a65c_remove_915e3, Cond.selects RJx4a65c yJx4a65c_remove_915e3 yJx4a65c_remove_915e3, Cond.code yJx4a65c_remove_915e3 cJx4a65c_remove_915e3 4 (some (.object "java/lang/Object")), Cond.methodLink RJx4a65c 144 yJx4a65c_fastRemove_b59b0, Cond.instanceMethod yJx4a65c_fastRemove_b59b0, Cond.selects RJx4a65c yJx4a65c_fastRemove_b59b0 yJx4a65c_fastRemove_b59b0, Cond.code yJx4a65c_fastRemove_b59b0 cJx4a65c_fastRemove_b59b0 4 none, Cond.methodLink RJx4a65c 112 arraycopyName, Cond.methodLink RL 70 yX7_strike, Cond.instanceMethod yX7_strike, Cond.selects RX7 yX7_strike yX7_strike, Cond.code yX7_strike cX7_strike 2 (some .boolean), Cond.methodLink RX7 139 yX7_isName]
def wsL_law_r24 : List Cond := [Cond.instanceMethod yX7_isName, Cond.selects RX7 yX7_isName yX7_isName, Cond.code yX7_isName cX7_isName 2 (some .boolean), Cond.methodLink RL 71 yX6_may, Cond.instanceMethod yX6_may, Cond.selects RX6 yX6_may yX6_may, Cond.code yX6_may cX6_may 4 (some .boolean), Cond.methodLink RL 74 yX7_may, Cond.instanceMethod yX7_may, Cond.selects RX7 yX7_may yX7_may, Cond.code yX7_may cX7_may 3 (some .boolean), Cond.methodLink RX7 151 yX7_canBe, Cond.instanceMethod yX7_canBe, Cond.selects RX7 yX7_canBe yX7_canBe, Cond.code yX7_canBe cX7_canBe 6 (some .boolean), Cond.methodLink RX7 142 yX7_left, Cond.instanceMethod yX7_left, Cond.selects RX7 yX7_left yX7_left, Cond.code yX7_left cX7_left 4 (some .int), Cond.methodLink RX7 145 yX7_low, Cond.instanceMethod yX7_low, Cond.selects RX7 yX7_low yX7_low, Cond.code yX7_low cX7_low 3 (some .int), Cond.methodLink RX7 148 yX7_isWithin]
def wsL_law_r25 : List Cond := [Cond.instanceMethod yX7_isWithin, Cond.selects RX7 yX7_isWithin yX7_isWithin, Cond.code yX7_isWithin cX7_isWithin 4 (some .boolean), Cond.methodLink RL 75 yX6_set, Cond.instanceMethod yX6_set, Cond.selects RX6 yX6_set yX6_set, Cond.code yX6_set cX6_set 3 (some .int), Cond.methodLink RL 78 yX7_set, Cond.instanceMethod yX7_set, Cond.selects RX7 yX7_set yX7_set, Cond.code yX7_set cX7_set 4 (some .int), Cond.methodLink RX7 164 yX7_sets, Cond.instanceMethod yX7_sets, Cond.selects RX7 yX7_sets yX7_sets, Cond.code yX7_sets cX7_sets 8 (some .int), Cond.fieldLink RX7 154 "GlobeWorksModel" "bestCost" "I", Cond.methodLink RX7 157 yX7_isGood, Cond.instanceMethod yX7_isGood, Cond.selects RX7 yX7_isGood yX7_isGood, Cond.code yX7_isGood cX7_isGood 4 (some .boolean), Cond.methodLink RX7 160 yX7_areApart, Cond.instanceMethod yX7_areApart, Cond.selects RX7 yX7_areApart yX7_areApart, Cond.code yX7_areApart cX7_areApart 7 (some .boolean)]
def wsL_law_r26 : List Cond := [Cond.methodLink RL 79 yX6_cost, Cond.instanceMethod yX6_cost, Cond.selects RX6 yX6_cost yX6_cost, Cond.code yX6_cost cX6_cost 3 (some .int), Cond.methodLink RL 82 yX7_cost, Cond.instanceMethod yX7_cost, Cond.selects RX7 yX7_cost yX7_cost, Cond.code yX7_cost cX7_cost 2 (some .int), Cond.methodLink RL 83 yX6_told, Cond.instanceMethod yX6_told, Cond.selects RX6 yX6_told yX6_told, Cond.code yX6_told cX6_told 4 (some .int), Cond.fieldLink RX6 199 "GlobeWorks$Name" "side" "I", Cond.fieldLink RX6 202 "GlobeWorks$Name" "height" "I", Cond.fieldLink RX6 205 "GlobeWorks$Name" "letters" "I", Cond.fieldLink RX6 208 "GlobeWorks$Name" "price" "I", Cond.methodLink RL 86 yX7_told, Cond.instanceMethod yX7_told, Cond.selects RX7 yX7_told yX7_told, Cond.code yX7_told cX7_told 3 (some .int), Cond.methodLink RL 87 yX6_fresh, Cond.instanceMethod yX6_fresh, Cond.selects RX6 yX6_fresh yX6_fresh, Cond.code yX6_fresh cX6_fresh 3 (some .boolean)]
def wsL_law_r27 : List Cond := [Cond.methodLink RL 90 yX7_fresh, Cond.instanceMethod yX7_fresh, Cond.selects RX7 yX7_fresh yX7_fresh, Cond.code yX7_fresh cX7_fresh 2 (some .boolean), Cond.methodLink RL 91 yX6_edition, Cond.instanceMethod yX6_edition, Cond.selects RX6 yX6_edition yX6_edition, Cond.code yX6_edition cX6_edition 6 (some .int), Cond.fieldLink RX6 211 "GlobeWorks" "editions" "I", Cond.fieldLink RX6 214 "GlobeWorks$Gore" "lastEdition" "I", Cond.methodLink RL 95 yX7_edition, Cond.instanceMethod yX7_edition, Cond.selects RX7 yX7_edition yX7_edition, Cond.code yX7_edition cX7_edition 3 (some .int), Cond.fieldLink RX7 167 "GlobeWorksModel" "editions" "I", Cond.methodLink RL 96 yX6_printed, Cond.instanceMethod yX6_printed, Cond.selects RX6 yX6_printed yX6_printed, Cond.code yX6_printed cX6_printed 3 (some .int), Cond.methodLink RL 99 yX7_printed, Cond.instanceMethod yX7_printed, Cond.selects RX7 yX7_printed yX7_printed, Cond.code yX7_printed cX7_printed 2 (some .int), Cond.methodLink RL 100 yX6_count]
def wsL_law_r28 : List Cond := [Cond.instanceMethod yX6_count, Cond.selects RX6 yX6_count yX6_count, Cond.code yX6_count cX6_count 2 (some .int), Cond.methodLink RX6 217 yX6_namesThere, Cond.instanceMethod yX6_namesThere, Cond.selects RX6 yX6_namesThere yX6_namesThere, Cond.code yX6_namesThere cX6_namesThere 6 (some .int), Cond.methodLink RX6 220 yX6_freshGores, Cond.instanceMethod yX6_freshGores, Cond.selects RX6 yX6_freshGores yX6_freshGores, Cond.code yX6_freshGores cX6_freshGores 6 (some .int), Cond.methodLink RL 103 yX7_count, Cond.instanceMethod yX7_count, Cond.selects RX7 yX7_count yX7_count, Cond.code yX7_count cX7_count 4 (some .int)]
def wsL_law : List Cond := (wsL_law_r1 ++ (wsL_law_r2 ++ (wsL_law_r3 ++ (wsL_law_r4 ++ (wsL_law_r5 ++ (wsL_law_r6 ++ (wsL_law_r7 ++ (wsL_law_r8 ++ (wsL_law_r9 ++ (wsL_law_r10 ++ (wsL_law_r11 ++ (wsL_law_r12 ++ (wsL_law_r13 ++ (wsL_law_r14 ++ (wsL_law_r15 ++ (wsL_law_r16 ++ (wsL_law_r17 ++ (wsL_law_r18 ++ (wsL_law_r19 ++ (wsL_law_r20 ++ (wsL_law_r21 ++ (wsL_law_r22 ++ (wsL_law_r23 ++ (wsL_law_r24 ++ (wsL_law_r25 ++ (wsL_law_r26 ++ (wsL_law_r27 ++ wsL_law_r28))))))))))))))))))))))))))) ++ wsX60 ++ wsX70 ++ wsJx4a65c0 ++ wsX40 ++ wsX10 ++ wsX00 ++ wsX50 ++ wsX30 ++ wsX20 ++ ([] : List Cond)
set_option maxRecDepth 20000 in
theorem in_wsL_law_r1 : ∀ w ∈ wsL_law_r1, w ∈ lw_tbl := List.forall_mem_cons.mpr ⟨List.mem_of_getElem? (i := 57) rfl, List.forall_mem_cons.mpr ⟨List.mem_of_getElem? (i := 58) rfl, List.forall_mem_cons.mpr ⟨List.mem_of_getElem? (i := 40) rfl, List.forall_mem_cons.mpr ⟨List.mem_of_getElem? (i := 607) rfl, List.forall_mem_cons.mpr ⟨List.mem_of_getElem? (i := 608) rfl, List.forall_mem_cons.mpr ⟨List.mem_of_getElem? (i := 46) rfl, List.forall_mem_cons.mpr ⟨List.mem_of_getElem? (i := 604) rfl, List.forall_mem_cons.mpr ⟨List.mem_of_getElem? (i := 605) rfl, List.forall_mem_cons.mpr ⟨List.mem_of_getElem? (i := 39) rfl, List.forall_mem_cons.mpr ⟨List.mem_of_getElem? (i := 606) rfl, List.forall_mem_cons.mpr ⟨List.mem_of_getElem? (i := 59) rfl, List.forall_mem_cons.mpr ⟨List.mem_of_getElem? (i := 60) rfl, List.forall_mem_cons.mpr ⟨List.mem_of_getElem? (i := 61) rfl, List.forall_mem_cons.mpr ⟨List.mem_of_getElem? (i := 62) rfl, List.forall_mem_cons.mpr ⟨List.mem_of_getElem? (i := 63) rfl, List.forall_mem_cons.mpr ⟨List.mem_of_getElem? (i := 64) rfl, List.forall_mem_cons.mpr ⟨List.mem_of_getElem? (i := 65) rfl, List.forall_mem_cons.mpr ⟨List.mem_of_getElem? (i := 66) rfl, List.forall_mem_cons.mpr ⟨List.mem_of_getElem? (i := 43) rfl, List.forall_mem_cons.mpr ⟨List.mem_of_getElem? (i := 146) rfl, List.forall_mem_cons.mpr ⟨List.mem_of_getElem? (i := 147) rfl, List.forall_mem_cons.mpr ⟨List.mem_of_getElem? (i := 91) rfl, List.forall_mem_cons.mpr ⟨List.mem_of_getElem? (i := 92) rfl, List.forall_mem_cons.mpr ⟨List.mem_of_getElem? (i := 44) rfl, fun _ h => absurd h List.not_mem_nil⟩⟩⟩⟩⟩⟩⟩⟩⟩⟩⟩⟩⟩⟩⟩⟩⟩⟩⟩⟩⟩⟩⟩⟩
set_option maxRecDepth 20000 in
theorem in_wsL_law_r2 : ∀ w ∈ wsL_law_r2, w ∈ lw_tbl := List.forall_mem_cons.mpr ⟨List.mem_of_getElem? (i := 148) rfl, List.forall_mem_cons.mpr ⟨List.mem_of_getElem? (i := 144) rfl, List.forall_mem_cons.mpr ⟨List.mem_of_getElem? (i := 116) rfl, List.forall_mem_cons.mpr ⟨List.mem_of_getElem? (i := 145) rfl, List.forall_mem_cons.mpr ⟨List.mem_of_getElem? (i := 118) rfl, List.forall_mem_cons.mpr ⟨List.mem_of_getElem? (i := 45) rfl, List.forall_mem_cons.mpr ⟨List.mem_of_getElem? (i := 67) rfl, List.forall_mem_cons.mpr ⟨List.mem_of_getElem? (i := 68) rfl, List.forall_mem_cons.mpr ⟨List.mem_of_getElem? (i := 69) rfl, List.forall_mem_cons.mpr ⟨List.mem_of_getElem? (i := 77) rfl, List.forall_mem_cons.mpr ⟨List.mem_of_getElem? (i := 79) rfl, List.forall_mem_cons.mpr ⟨List.mem_of_getElem? (i := 70) rfl, List.forall_mem_cons.mpr ⟨List.mem_of_getElem? (i := 71) rfl, List.forall_mem_cons.mpr ⟨List.mem_of_getElem? (i := 42) rfl, List.forall_mem_cons.mpr ⟨List.mem_of_getElem? (i := 72) rfl, List.forall_mem_cons.mpr ⟨List.mem_of_getElem? (i := 81) rfl, List.forall_mem_cons.mpr ⟨List.mem_of_getElem? (i := 73) rfl, List.forall_mem_cons.mpr ⟨List.mem_of_getElem? (i := 74) rfl, List.forall_mem_cons.mpr ⟨List.mem_of_getElem? (i := 41) rfl, List.forall_mem_cons.mpr ⟨List.mem_of_getElem? (i := 75) rfl, List.forall_mem_cons.mpr ⟨List.mem_of_getElem? (i := 76) rfl, List.forall_mem_cons.mpr ⟨List.mem_of_getElem? (i := 94) rfl, List.forall_mem_cons.mpr ⟨List.mem_of_getElem? (i := 95) rfl, List.forall_mem_cons.mpr ⟨List.mem_of_getElem? (i := 96) rfl, fun _ h => absurd h List.not_mem_nil⟩⟩⟩⟩⟩⟩⟩⟩⟩⟩⟩⟩⟩⟩⟩⟩⟩⟩⟩⟩⟩⟩⟩⟩
set_option maxRecDepth 20000 in
theorem in_wsL_law_r3 : ∀ w ∈ wsL_law_r3, w ∈ lw_tbl := List.forall_mem_cons.mpr ⟨List.mem_of_getElem? (i := 110) rfl, List.forall_mem_cons.mpr ⟨List.mem_of_getElem? (i := 97) rfl, List.forall_mem_cons.mpr ⟨List.mem_of_getElem? (i := 99) rfl, List.forall_mem_cons.mpr ⟨List.mem_of_getElem? (i := 111) rfl, List.forall_mem_cons.mpr ⟨List.mem_of_getElem? (i := 112) rfl, List.forall_mem_cons.mpr ⟨List.mem_of_getElem? (i := 113) rfl, List.forall_mem_cons.mpr ⟨List.mem_of_getElem? (i := 114) rfl, List.forall_mem_cons.mpr ⟨List.mem_of_getElem? (i := 120) rfl, List.forall_mem_cons.mpr ⟨List.mem_of_getElem? (i := 121) rfl, List.forall_mem_cons.mpr ⟨List.mem_of_getElem? (i := 122) rfl, List.forall_mem_cons.mpr ⟨List.mem_of_getElem? (i := 123) rfl, List.forall_mem_cons.mpr ⟨List.mem_of_getElem? (i := 125) rfl, List.forall_mem_cons.mpr ⟨List.mem_of_getElem? (i := 127) rfl, List.forall_mem_cons.mpr ⟨List.mem_of_getElem? (i := 130) rfl, List.forall_mem_cons.mpr ⟨List.mem_of_getElem? (i := 124) rfl, List.forall_mem_cons.mpr ⟨List.mem_of_getElem? (i := 609) rfl, List.forall_mem_cons.mpr ⟨List.mem_of_getElem? (i := 610) rfl, List.forall_mem_cons.mpr ⟨List.mem_of_getElem? (i := 611) rfl, List.forall_mem_cons.mpr ⟨List.mem_of_getElem? (i := 612) rfl, List.forall_mem_cons.mpr ⟨List.mem_of_getElem? (i := 613) rfl, List.forall_mem_cons.mpr ⟨List.mem_of_getElem? (i := 617) rfl, List.forall_mem_cons.mpr ⟨List.mem_of_getElem? (i := 618) rfl, List.forall_mem_cons.mpr ⟨List.mem_of_getElem? (i := 620) rfl, List.forall_mem_cons.mpr ⟨List.mem_of_getElem? (i := 621) rfl, fun _ h => absurd h List.not_mem_nil⟩⟩⟩⟩⟩⟩⟩⟩⟩⟩⟩⟩⟩⟩⟩⟩⟩⟩⟩⟩⟩⟩⟩⟩
set_option maxRecDepth 20000 in
theorem in_wsL_law_r4 : ∀ w ∈ wsL_law_r4, w ∈ lw_tbl := List.forall_mem_cons.mpr ⟨List.mem_of_getElem? (i := 622) rfl, List.forall_mem_cons.mpr ⟨List.mem_of_getElem? (i := 692) rfl, List.forall_mem_cons.mpr ⟨List.mem_of_getElem? (i := 626) rfl, List.forall_mem_cons.mpr ⟨List.mem_of_getElem? (i := 627) rfl, List.forall_mem_cons.mpr ⟨List.mem_of_getElem? (i := 628) rfl, List.forall_mem_cons.mpr ⟨List.mem_of_getElem? (i := 629) rfl, List.forall_mem_cons.mpr ⟨List.mem_of_getElem? (i := 630) rfl, List.forall_mem_cons.mpr ⟨List.mem_of_getElem? (i := 631) rfl, List.forall_mem_cons.mpr ⟨List.mem_of_getElem? (i := 632) rfl, List.forall_mem_cons.mpr ⟨List.mem_of_getElem? (i := 633) rfl, List.forall_mem_cons.mpr ⟨List.mem_of_getElem? (i := 635) rfl, List.forall_mem_cons.mpr ⟨List.mem_of_getElem? (i := 636) rfl, List.forall_mem_cons.mpr ⟨List.mem_of_getElem? (i := 637) rfl, List.forall_mem_cons.mpr ⟨List.mem_of_getElem? (i := 614) rfl, List.forall_mem_cons.mpr ⟨List.mem_of_getElem? (i := 615) rfl, List.forall_mem_cons.mpr ⟨List.mem_of_getElem? (i := 172) rfl, List.forall_mem_cons.mpr ⟨List.mem_of_getElem? (i := 173) rfl, List.forall_mem_cons.mpr ⟨List.mem_of_getElem? (i := 174) rfl, List.forall_mem_cons.mpr ⟨List.mem_of_getElem? (i := 175) rfl, List.forall_mem_cons.mpr ⟨List.mem_of_getElem? (i := 176) rfl, List.forall_mem_cons.mpr ⟨List.mem_of_getElem? (i := 177) rfl, List.forall_mem_cons.mpr ⟨List.mem_of_getElem? (i := 178) rfl, List.forall_mem_cons.mpr ⟨List.mem_of_getElem? (i := 179) rfl, List.forall_mem_cons.mpr ⟨List.mem_of_getElem? (i := 180) rfl, fun _ h => absurd h List.not_mem_nil⟩⟩⟩⟩⟩⟩⟩⟩⟩⟩⟩⟩⟩⟩⟩⟩⟩⟩⟩⟩⟩⟩⟩⟩
set_option maxRecDepth 20000 in
theorem in_wsL_law_r5 : ∀ w ∈ wsL_law_r5, w ∈ lw_tbl := List.forall_mem_cons.mpr ⟨List.mem_of_getElem? (i := 181) rfl, List.forall_mem_cons.mpr ⟨List.mem_of_getElem? (i := 182) rfl, List.forall_mem_cons.mpr ⟨List.mem_of_getElem? (i := 183) rfl, List.forall_mem_cons.mpr ⟨List.mem_of_getElem? (i := 47) rfl, List.forall_mem_cons.mpr ⟨List.mem_of_getElem? (i := 184) rfl, List.forall_mem_cons.mpr ⟨List.mem_of_getElem? (i := 185) rfl, List.forall_mem_cons.mpr ⟨List.mem_of_getElem? (i := 186) rfl, List.forall_mem_cons.mpr ⟨List.mem_of_getElem? (i := 187) rfl, List.forall_mem_cons.mpr ⟨List.mem_of_getElem? (i := 188) rfl, List.forall_mem_cons.mpr ⟨List.mem_of_getElem? (i := 693) rfl, List.forall_mem_cons.mpr ⟨List.mem_of_getElem? (i := 694) rfl, List.forall_mem_cons.mpr ⟨List.mem_of_getElem? (i := 695) rfl, List.forall_mem_cons.mpr ⟨List.mem_of_getElem? (i := 696) rfl, List.forall_mem_cons.mpr ⟨List.mem_of_getElem? (i := 697) rfl, List.forall_mem_cons.mpr ⟨List.mem_of_getElem? (i := 698) rfl, List.forall_mem_cons.mpr ⟨List.mem_of_getElem? (i := 699) rfl, List.forall_mem_cons.mpr ⟨List.mem_of_getElem? (i := 700) rfl, List.forall_mem_cons.mpr ⟨List.mem_of_getElem? (i := 702) rfl, List.forall_mem_cons.mpr ⟨List.mem_of_getElem? (i := 20) rfl, List.forall_mem_cons.mpr ⟨List.mem_of_getElem? (i := 703) rfl, List.forall_mem_cons.mpr ⟨List.mem_of_getElem? (i := 190) rfl, List.forall_mem_cons.mpr ⟨List.mem_of_getElem? (i := 191) rfl, List.forall_mem_cons.mpr ⟨List.mem_of_getElem? (i := 192) rfl, List.forall_mem_cons.mpr ⟨List.mem_of_getElem? (i := 193) rfl, fun _ h => absurd h List.not_mem_nil⟩⟩⟩⟩⟩⟩⟩⟩⟩⟩⟩⟩⟩⟩⟩⟩⟩⟩⟩⟩⟩⟩⟩⟩
set_option maxRecDepth 20000 in
theorem in_wsL_law_r6 : ∀ w ∈ wsL_law_r6, w ∈ lw_tbl := List.forall_mem_cons.mpr ⟨List.mem_of_getElem? (i := 197) rfl, List.forall_mem_cons.mpr ⟨List.mem_of_getElem? (i := 194) rfl, List.forall_mem_cons.mpr ⟨List.mem_of_getElem? (i := 195) rfl, List.forall_mem_cons.mpr ⟨List.mem_of_getElem? (i := 196) rfl, List.forall_mem_cons.mpr ⟨List.mem_of_getElem? (i := 704) rfl, List.forall_mem_cons.mpr ⟨List.mem_of_getElem? (i := 705) rfl, List.forall_mem_cons.mpr ⟨List.mem_of_getElem? (i := 706) rfl, List.forall_mem_cons.mpr ⟨List.mem_of_getElem? (i := 707) rfl, List.forall_mem_cons.mpr ⟨List.mem_of_getElem? (i := 712) rfl, List.forall_mem_cons.mpr ⟨List.mem_of_getElem? (i := 708) rfl, List.forall_mem_cons.mpr ⟨List.mem_of_getElem? (i := 710) rfl, List.forall_mem_cons.mpr ⟨List.mem_of_getElem? (i := 21) rfl, List.forall_mem_cons.mpr ⟨List.mem_of_getElem? (i := 711) rfl, List.forall_mem_cons.mpr ⟨List.mem_of_getElem? (i := 198) rfl, List.forall_mem_cons.mpr ⟨List.mem_of_getElem? (i := 199) rfl, List.forall_mem_cons.mpr ⟨List.mem_of_getElem? (i := 200) rfl, List.forall_mem_cons.mpr ⟨List.mem_of_getElem? (i := 201) rfl, List.forall_mem_cons.mpr ⟨List.mem_of_getElem? (i := 209) rfl, List.forall_mem_cons.mpr ⟨List.mem_of_getElem? (i := 210) rfl, List.forall_mem_cons.mpr ⟨List.mem_of_getElem? (i := 48) rfl, List.forall_mem_cons.mpr ⟨List.mem_of_getElem? (i := 202) rfl, List.forall_mem_cons.mpr ⟨List.mem_of_getElem? (i := 203) rfl, List.forall_mem_cons.mpr ⟨List.mem_of_getElem? (i := 204) rfl, List.forall_mem_cons.mpr ⟨List.mem_of_getElem? (i := 205) rfl, fun _ h => absurd h List.not_mem_nil⟩⟩⟩⟩⟩⟩⟩⟩⟩⟩⟩⟩⟩⟩⟩⟩⟩⟩⟩⟩⟩⟩⟩⟩
set_option maxRecDepth 20000 in
theorem in_wsL_law_r7 : ∀ w ∈ wsL_law_r7, w ∈ lw_tbl := List.forall_mem_cons.mpr ⟨List.mem_of_getElem? (i := 206) rfl, List.forall_mem_cons.mpr ⟨List.mem_of_getElem? (i := 207) rfl, List.forall_mem_cons.mpr ⟨List.mem_of_getElem? (i := 208) rfl, List.forall_mem_cons.mpr ⟨List.mem_of_getElem? (i := 80) rfl, List.forall_mem_cons.mpr ⟨List.mem_of_getElem? (i := 211) rfl, List.forall_mem_cons.mpr ⟨List.mem_of_getElem? (i := 212) rfl, List.forall_mem_cons.mpr ⟨List.mem_of_getElem? (i := 213) rfl, List.forall_mem_cons.mpr ⟨List.mem_of_getElem? (i := 214) rfl, List.forall_mem_cons.mpr ⟨List.mem_of_getElem? (i := 215) rfl, List.forall_mem_cons.mpr ⟨List.mem_of_getElem? (i := 218) rfl, List.forall_mem_cons.mpr ⟨List.mem_of_getElem? (i := 226) rfl, List.forall_mem_cons.mpr ⟨List.mem_of_getElem? (i := 227) rfl, List.forall_mem_cons.mpr ⟨List.mem_of_getElem? (i := 228) rfl, List.forall_mem_cons.mpr ⟨List.mem_of_getElem? (i := 229) rfl, List.forall_mem_cons.mpr ⟨List.mem_of_getElem? (i := 82) rfl, List.forall_mem_cons.mpr ⟨List.mem_of_getElem? (i := 83) rfl, List.forall_mem_cons.mpr ⟨List.mem_of_getElem? (i := 230) rfl, List.forall_mem_cons.mpr ⟨List.mem_of_getElem? (i := 232) rfl, List.forall_mem_cons.mpr ⟨List.mem_of_getElem? (i := 0) rfl, List.forall_mem_cons.mpr ⟨List.mem_of_getElem? (i := 233) rfl, List.forall_mem_cons.mpr ⟨List.mem_of_getElem? (i := 234) rfl, List.forall_mem_cons.mpr ⟨List.mem_of_getElem? (i := 236) rfl, List.forall_mem_cons.mpr ⟨List.mem_of_getElem? (i := 1) rfl, List.forall_mem_cons.mpr ⟨List.mem_of_getElem? (i := 237) rfl, fun _ h => absurd h List.not_mem_nil⟩⟩⟩⟩⟩⟩⟩⟩⟩⟩⟩⟩⟩⟩⟩⟩⟩⟩⟩⟩⟩⟩⟩⟩
set_option maxRecDepth 20000 in
theorem in_wsL_law_r8 : ∀ w ∈ wsL_law_r8, w ∈ lw_tbl := List.forall_mem_cons.mpr ⟨List.mem_of_getElem? (i := 238) rfl, List.forall_mem_cons.mpr ⟨List.mem_of_getElem? (i := 240) rfl, List.forall_mem_cons.mpr ⟨List.mem_of_getElem? (i := 2) rfl, List.forall_mem_cons.mpr ⟨List.mem_of_getElem? (i := 241) rfl, List.forall_mem_cons.mpr ⟨List.mem_of_getElem? (i := 280) rfl, List.forall_mem_cons.mpr ⟨List.mem_of_getElem? (i := 246) rfl, List.forall_mem_cons.mpr ⟨List.mem_of_getElem? (i := 247) rfl, List.forall_mem_cons.mpr ⟨List.mem_of_getElem? (i := 281) rfl, List.forall_mem_cons.mpr ⟨List.mem_of_getElem? (i := 242) rfl, List.forall_mem_cons.mpr ⟨List.mem_of_getElem? (i := 243) rfl, List.forall_mem_cons.mpr ⟨List.mem_of_getElem? (i := 49) rfl, List.forall_mem_cons.mpr ⟨List.mem_of_getElem? (i := 244) rfl, List.forall_mem_cons.mpr ⟨List.mem_of_getElem? (i := 245) rfl, List.forall_mem_cons.mpr ⟨List.mem_of_getElem? (i := 248) rfl, List.forall_mem_cons.mpr ⟨List.mem_of_getElem? (i := 249) rfl, List.forall_mem_cons.mpr ⟨List.mem_of_getElem? (i := 250) rfl, List.forall_mem_cons.mpr ⟨List.mem_of_getElem? (i := 251) rfl, List.forall_mem_cons.mpr ⟨List.mem_of_getElem? (i := 252) rfl, List.forall_mem_cons.mpr ⟨List.mem_of_getElem? (i := 253) rfl, List.forall_mem_cons.mpr ⟨List.mem_of_getElem? (i := 50) rfl, List.forall_mem_cons.mpr ⟨List.mem_of_getElem? (i := 254) rfl, List.forall_mem_cons.mpr ⟨List.mem_of_getElem? (i := 255) rfl, List.forall_mem_cons.mpr ⟨List.mem_of_getElem? (i := 868) rfl, List.forall_mem_cons.mpr ⟨List.mem_of_getElem? (i := 256) rfl, fun _ h => absurd h List.not_mem_nil⟩⟩⟩⟩⟩⟩⟩⟩⟩⟩⟩⟩⟩⟩⟩⟩⟩⟩⟩⟩⟩⟩⟩⟩
set_option maxRecDepth 20000 in
theorem in_wsL_law_r9 : ∀ w ∈ wsL_law_r9, w ∈ lw_tbl := List.forall_mem_cons.mpr ⟨List.mem_of_getElem? (i := 267) rfl, List.forall_mem_cons.mpr ⟨List.mem_of_getElem? (i := 268) rfl, List.forall_mem_cons.mpr ⟨List.mem_of_getElem? (i := 269) rfl, List.forall_mem_cons.mpr ⟨List.mem_of_getElem? (i := 270) rfl, List.forall_mem_cons.mpr ⟨List.mem_of_getElem? (i := 271) rfl, List.forall_mem_cons.mpr ⟨List.mem_of_getElem? (i := 273) rfl, List.forall_mem_cons.mpr ⟨List.mem_of_getElem? (i := 274) rfl, List.forall_mem_cons.mpr ⟨List.mem_of_getElem? (i := 275) rfl, List.forall_mem_cons.mpr ⟨List.mem_of_getElem? (i := 276) rfl, List.forall_mem_cons.mpr ⟨List.mem_of_getElem? (i := 277) rfl, List.forall_mem_cons.mpr ⟨List.mem_of_getElem? (i := 279) rfl, List.forall_mem_cons.mpr ⟨List.mem_of_getElem? (i := 278) rfl, List.forall_mem_cons.mpr ⟨List.mem_of_getElem? (i := 51) rfl, List.forall_mem_cons.mpr ⟨List.mem_of_getElem? (i := 713) rfl, List.forall_mem_cons.mpr ⟨List.mem_of_getElem? (i := 714) rfl, List.forall_mem_cons.mpr ⟨List.mem_of_getElem? (i := 715) rfl, List.forall_mem_cons.mpr ⟨List.mem_of_getElem? (i := 716) rfl, List.forall_mem_cons.mpr ⟨List.mem_of_getElem? (i := 616) rfl, List.forall_mem_cons.mpr ⟨List.mem_of_getElem? (i := 717) rfl, List.forall_mem_cons.mpr ⟨List.mem_of_getElem? (i := 718) rfl, List.forall_mem_cons.mpr ⟨List.mem_of_getElem? (i := 719) rfl, List.forall_mem_cons.mpr ⟨List.mem_of_getElem? (i := 282) rfl, List.forall_mem_cons.mpr ⟨List.mem_of_getElem? (i := 283) rfl, List.forall_mem_cons.mpr ⟨List.mem_of_getElem? (i := 284) rfl, fun _ h => absurd h List.not_mem_nil⟩⟩⟩⟩⟩⟩⟩⟩⟩⟩⟩⟩⟩⟩⟩⟩⟩⟩⟩⟩⟩⟩⟩⟩
set_option maxRecDepth 20000 in
theorem in_wsL_law_r10 : ∀ w ∈ wsL_law_r10, w ∈ lw_tbl := List.forall_mem_cons.mpr ⟨List.mem_of_getElem? (i := 285) rfl, List.forall_mem_cons.mpr ⟨List.mem_of_getElem? (i := 308) rfl, List.forall_mem_cons.mpr ⟨List.mem_of_getElem? (i := 309) rfl, List.forall_mem_cons.mpr ⟨List.mem_of_getElem? (i := 54) rfl, List.forall_mem_cons.mpr ⟨List.mem_of_getElem? (i := 325) rfl, List.forall_mem_cons.mpr ⟨List.mem_of_getElem? (i := 149) rfl, List.forall_mem_cons.mpr ⟨List.mem_of_getElem? (i := 217) rfl, List.forall_mem_cons.mpr ⟨List.mem_of_getElem? (i := 220) rfl, List.forall_mem_cons.mpr ⟨List.mem_of_getElem? (i := 286) rfl, List.forall_mem_cons.mpr ⟨List.mem_of_getElem? (i := 288) rfl, List.forall_mem_cons.mpr ⟨List.mem_of_getElem? (i := 3) rfl, List.forall_mem_cons.mpr ⟨List.mem_of_getElem? (i := 289) rfl, List.forall_mem_cons.mpr ⟨List.mem_of_getElem? (i := 209) rfl, List.forall_mem_cons.mpr ⟨List.mem_of_getElem? (i := 290) rfl, List.forall_mem_cons.mpr ⟨List.mem_of_getElem? (i := 291) rfl, List.forall_mem_cons.mpr ⟨List.mem_of_getElem? (i := 292) rfl, List.forall_mem_cons.mpr ⟨List.mem_of_getElem? (i := 293) rfl, List.forall_mem_cons.mpr ⟨List.mem_of_getElem? (i := 294) rfl, List.forall_mem_cons.mpr ⟨List.mem_of_getElem? (i := 295) rfl, List.forall_mem_cons.mpr ⟨List.mem_of_getElem? (i := 52) rfl, List.forall_mem_cons.mpr ⟨List.mem_of_getElem? (i := 296) rfl, List.forall_mem_cons.mpr ⟨List.mem_of_getElem? (i := 297) rfl, List.forall_mem_cons.mpr ⟨List.mem_of_getElem? (i := 298) rfl, List.forall_mem_cons.mpr ⟨List.mem_of_getElem? (i := 53) rfl, fun _ h => absurd h List.not_mem_nil⟩⟩⟩⟩⟩⟩⟩⟩⟩⟩⟩⟩⟩⟩⟩⟩⟩⟩⟩⟩⟩⟩⟩⟩
set_option maxRecDepth 20000 in
theorem in_wsL_law_r11 : ∀ w ∈ wsL_law_r11, w ∈ lw_tbl := List.forall_mem_cons.mpr ⟨List.mem_of_getElem? (i := 299) rfl, List.forall_mem_cons.mpr ⟨List.mem_of_getElem? (i := 300) rfl, List.forall_mem_cons.mpr ⟨List.mem_of_getElem? (i := 301) rfl, List.forall_mem_cons.mpr ⟨List.mem_of_getElem? (i := 302) rfl, List.forall_mem_cons.mpr ⟨List.mem_of_getElem? (i := 303) rfl, List.forall_mem_cons.mpr ⟨List.mem_of_getElem? (i := 304) rfl, List.forall_mem_cons.mpr ⟨List.mem_of_getElem? (i := 305) rfl, List.forall_mem_cons.mpr ⟨List.mem_of_getElem? (i := 306) rfl, List.forall_mem_cons.mpr ⟨List.mem_of_getElem? (i := 307) rfl, List.forall_mem_cons.mpr ⟨List.mem_of_getElem? (i := 310) rfl, List.forall_mem_cons.mpr ⟨List.mem_of_getElem? (i := 311) rfl, List.forall_mem_cons.mpr ⟨List.mem_of_getElem? (i := 312) rfl, List.forall_mem_cons.mpr ⟨List.mem_of_getElem? (i := 313) rfl, List.forall_mem_cons.mpr ⟨List.mem_of_getElem? (i := 216) rfl, List.forall_mem_cons.mpr ⟨List.mem_of_getElem? (i := 318) rfl, List.forall_mem_cons.mpr ⟨List.mem_of_getElem? (i := 219) rfl, List.forall_mem_cons.mpr ⟨List.mem_of_getElem? (i := 320) rfl, List.forall_mem_cons.mpr ⟨List.mem_of_getElem? (i := 322) rfl, List.forall_mem_cons.mpr ⟨List.mem_of_getElem? (i := 326) rfl, List.forall_mem_cons.mpr ⟨List.mem_of_getElem? (i := 317) rfl, List.forall_mem_cons.mpr ⟨List.mem_of_getElem? (i := 324) rfl, List.forall_mem_cons.mpr ⟨List.mem_of_getElem? (i := 314) rfl, List.forall_mem_cons.mpr ⟨List.mem_of_getElem? (i := 315) rfl, List.forall_mem_cons.mpr ⟨List.mem_of_getElem? (i := 47) rfl, fun _ h => absurd h List.not_mem_nil⟩⟩⟩⟩⟩⟩⟩⟩⟩⟩⟩⟩⟩⟩⟩⟩⟩⟩⟩⟩⟩⟩⟩⟩
set_option maxRecDepth 20000 in
theorem in_wsL_law_r12 : ∀ w ∈ wsL_law_r12, w ∈ lw_tbl := List.forall_mem_cons.mpr ⟨List.mem_of_getElem? (i := 316) rfl, List.forall_mem_cons.mpr ⟨List.mem_of_getElem? (i := 339) rfl, List.forall_mem_cons.mpr ⟨List.mem_of_getElem? (i := 341) rfl, List.forall_mem_cons.mpr ⟨List.mem_of_getElem? (i := 4) rfl, List.forall_mem_cons.mpr ⟨List.mem_of_getElem? (i := 342) rfl, List.forall_mem_cons.mpr ⟨List.mem_of_getElem? (i := 343) rfl, List.forall_mem_cons.mpr ⟨List.mem_of_getElem? (i := 345) rfl, List.forall_mem_cons.mpr ⟨List.mem_of_getElem? (i := 5) rfl, List.forall_mem_cons.mpr ⟨List.mem_of_getElem? (i := 346) rfl, List.forall_mem_cons.mpr ⟨List.mem_of_getElem? (i := 327) rfl, List.forall_mem_cons.mpr ⟨List.mem_of_getElem? (i := 319) rfl, List.forall_mem_cons.mpr ⟨List.mem_of_getElem? (i := 347) rfl, List.forall_mem_cons.mpr ⟨List.mem_of_getElem? (i := 348) rfl, List.forall_mem_cons.mpr ⟨List.mem_of_getElem? (i := 350) rfl, List.forall_mem_cons.mpr ⟨List.mem_of_getElem? (i := 6) rfl, List.forall_mem_cons.mpr ⟨List.mem_of_getElem? (i := 351) rfl, List.forall_mem_cons.mpr ⟨List.mem_of_getElem? (i := 352) rfl, List.forall_mem_cons.mpr ⟨List.mem_of_getElem? (i := 354) rfl, List.forall_mem_cons.mpr ⟨List.mem_of_getElem? (i := 7) rfl, List.forall_mem_cons.mpr ⟨List.mem_of_getElem? (i := 355) rfl, List.forall_mem_cons.mpr ⟨List.mem_of_getElem? (i := 360) rfl, List.forall_mem_cons.mpr ⟨List.mem_of_getElem? (i := 361) rfl, List.forall_mem_cons.mpr ⟨List.mem_of_getElem? (i := 55) rfl, List.forall_mem_cons.mpr ⟨List.mem_of_getElem? (i := 321) rfl, fun _ h => absurd h List.not_mem_nil⟩⟩⟩⟩⟩⟩⟩⟩⟩⟩⟩⟩⟩⟩⟩⟩⟩⟩⟩⟩⟩⟩⟩⟩
set_option maxRecDepth 20000 in
theorem in_wsL_law_r13 : ∀ w ∈ wsL_law_r13, w ∈ lw_tbl := List.forall_mem_cons.mpr ⟨List.mem_of_getElem? (i := 323) rfl, List.forall_mem_cons.mpr ⟨List.mem_of_getElem? (i := 356) rfl, List.forall_mem_cons.mpr ⟨List.mem_of_getElem? (i := 358) rfl, List.forall_mem_cons.mpr ⟨List.mem_of_getElem? (i := 8) rfl, List.forall_mem_cons.mpr ⟨List.mem_of_getElem? (i := 359) rfl, List.forall_mem_cons.mpr ⟨List.mem_of_getElem? (i := 362) rfl, List.forall_mem_cons.mpr ⟨List.mem_of_getElem? (i := 363) rfl, List.forall_mem_cons.mpr ⟨List.mem_of_getElem? (i := 364) rfl, List.forall_mem_cons.mpr ⟨List.mem_of_getElem? (i := 365) rfl, List.forall_mem_cons.mpr ⟨List.mem_of_getElem? (i := 366) rfl, List.forall_mem_cons.mpr ⟨List.mem_of_getElem? (i := 368) rfl, List.forall_mem_cons.mpr ⟨List.mem_of_getElem? (i := 370) rfl, List.forall_mem_cons.mpr ⟨List.mem_of_getElem? (i := 372) rfl, List.forall_mem_cons.mpr ⟨List.mem_of_getElem? (i := 374) rfl, List.forall_mem_cons.mpr ⟨List.mem_of_getElem? (i := 387) rfl, List.forall_mem_cons.mpr ⟨List.mem_of_getElem? (i := 389) rfl, List.forall_mem_cons.mpr ⟨List.mem_of_getElem? (i := 9) rfl, List.forall_mem_cons.mpr ⟨List.mem_of_getElem? (i := 390) rfl, List.forall_mem_cons.mpr ⟨List.mem_of_getElem? (i := 126) rfl, List.forall_mem_cons.mpr ⟨List.mem_of_getElem? (i := 131) rfl, List.forall_mem_cons.mpr ⟨List.mem_of_getElem? (i := 391) rfl, List.forall_mem_cons.mpr ⟨List.mem_of_getElem? (i := 393) rfl, List.forall_mem_cons.mpr ⟨List.mem_of_getElem? (i := 10) rfl, List.forall_mem_cons.mpr ⟨List.mem_of_getElem? (i := 394) rfl, fun _ h => absurd h List.not_mem_nil⟩⟩⟩⟩⟩⟩⟩⟩⟩⟩⟩⟩⟩⟩⟩⟩⟩⟩⟩⟩⟩⟩⟩⟩
set_option maxRecDepth 20000 in
theorem in_wsL_law_r14 : ∀ w ∈ wsL_law_r14, w ∈ lw_tbl := List.forall_mem_cons.mpr ⟨List.mem_of_getElem? (i := 395) rfl, List.forall_mem_cons.mpr ⟨List.mem_of_getElem? (i := 397) rfl, List.forall_mem_cons.mpr ⟨List.mem_of_getElem? (i := 11) rfl, List.forall_mem_cons.mpr ⟨List.mem_of_getElem? (i := 398) rfl, List.forall_mem_cons.mpr ⟨List.mem_of_getElem? (i := 402) rfl, List.forall_mem_cons.mpr ⟨List.mem_of_getElem? (i := 403) rfl, List.forall_mem_cons.mpr ⟨List.mem_of_getElem? (i := 399) rfl, List.forall_mem_cons.mpr ⟨List.mem_of_getElem? (i := 400) rfl, List.forall_mem_cons.mpr ⟨List.mem_of_getElem? (i := 401) rfl, List.forall_mem_cons.mpr ⟨List.mem_of_getElem? (i := 404) rfl, List.forall_mem_cons.mpr ⟨List.mem_of_getElem? (i := 405) rfl, List.forall_mem_cons.mpr ⟨List.mem_of_getElem? (i := 406) rfl, List.forall_mem_cons.mpr ⟨List.mem_of_getElem? (i := 407) rfl, List.forall_mem_cons.mpr ⟨List.mem_of_getElem? (i := 408) rfl, List.forall_mem_cons.mpr ⟨List.mem_of_getElem? (i := 409) rfl, List.forall_mem_cons.mpr ⟨List.mem_of_getElem? (i := 410) rfl, List.forall_mem_cons.mpr ⟨List.mem_of_getElem? (i := 411) rfl, List.forall_mem_cons.mpr ⟨List.mem_of_getElem? (i := 413) rfl, List.forall_mem_cons.mpr ⟨List.mem_of_getElem? (i := 414) rfl, List.forall_mem_cons.mpr ⟨List.mem_of_getElem? (i := 720) rfl, List.forall_mem_cons.mpr ⟨List.mem_of_getElem? (i := 721) rfl, List.forall_mem_cons.mpr ⟨List.mem_of_getElem? (i := 722) rfl, List.forall_mem_cons.mpr ⟨List.mem_of_getElem? (i := 723) rfl, List.forall_mem_cons.mpr ⟨List.mem_of_getElem? (i := 619) rfl, fun _ h => absurd h List.not_mem_nil⟩⟩⟩⟩⟩⟩⟩⟩⟩⟩⟩⟩⟩⟩⟩⟩⟩⟩⟩⟩⟩⟩⟩⟩
set_option maxRecDepth 20000 in
theorem in_wsL_law_r15 : ∀ w ∈ wsL_law_r15, w ∈ lw_tbl := List.forall_mem_cons.mpr ⟨List.mem_of_getElem? (i := 724) rfl, List.forall_mem_cons.mpr ⟨List.mem_of_getElem? (i := 726) rfl, List.forall_mem_cons.mpr ⟨List.mem_of_getElem? (i := 22) rfl, List.forall_mem_cons.mpr ⟨List.mem_of_getElem? (i := 727) rfl, List.forall_mem_cons.mpr ⟨List.mem_of_getElem? (i := 728) rfl, List.forall_mem_cons.mpr ⟨List.mem_of_getElem? (i := 730) rfl, List.forall_mem_cons.mpr ⟨List.mem_of_getElem? (i := 23) rfl, List.forall_mem_cons.mpr ⟨List.mem_of_getElem? (i := 731) rfl, List.forall_mem_cons.mpr ⟨List.mem_of_getElem? (i := 732) rfl, List.forall_mem_cons.mpr ⟨List.mem_of_getElem? (i := 734) rfl, List.forall_mem_cons.mpr ⟨List.mem_of_getElem? (i := 24) rfl, List.forall_mem_cons.mpr ⟨List.mem_of_getElem? (i := 735) rfl, List.forall_mem_cons.mpr ⟨List.mem_of_getElem? (i := 736) rfl, List.forall_mem_cons.mpr ⟨List.mem_of_getElem? (i := 738) rfl, List.forall_mem_cons.mpr ⟨List.mem_of_getElem? (i := 25) rfl, List.forall_mem_cons.mpr ⟨List.mem_of_getElem? (i := 739) rfl, List.forall_mem_cons.mpr ⟨List.mem_of_getElem? (i := 740) rfl, List.forall_mem_cons.mpr ⟨List.mem_of_getElem? (i := 742) rfl, List.forall_mem_cons.mpr ⟨List.mem_of_getElem? (i := 26) rfl, List.forall_mem_cons.mpr ⟨List.mem_of_getElem? (i := 743) rfl, List.forall_mem_cons.mpr ⟨List.mem_of_getElem? (i := 744) rfl, List.forall_mem_cons.mpr ⟨List.mem_of_getElem? (i := 746) rfl, List.forall_mem_cons.mpr ⟨List.mem_of_getElem? (i := 27) rfl, List.forall_mem_cons.mpr ⟨List.mem_of_getElem? (i := 747) rfl, fun _ h => absurd h List.not_mem_nil⟩⟩⟩⟩⟩⟩⟩⟩⟩⟩⟩⟩⟩⟩⟩⟩⟩⟩⟩⟩⟩⟩⟩⟩
set_option maxRecDepth 20000 in
theorem in_wsL_law_r16 : ∀ w ∈ wsL_law_r16, w ∈ lw_tbl := List.forall_mem_cons.mpr ⟨List.mem_of_getElem? (i := 748) rfl, List.forall_mem_cons.mpr ⟨List.mem_of_getElem? (i := 749) rfl, List.forall_mem_cons.mpr ⟨List.mem_of_getElem? (i := 750) rfl, List.forall_mem_cons.mpr ⟨List.mem_of_getElem? (i := 751) rfl, List.forall_mem_cons.mpr ⟨List.mem_of_getElem? (i := 752) rfl, List.forall_mem_cons.mpr ⟨List.mem_of_getElem? (i := 753) rfl, List.forall_mem_cons.mpr ⟨List.mem_of_getElem? (i := 415) rfl, List.forall_mem_cons.mpr ⟨List.mem_of_getElem? (i := 416) rfl, List.forall_mem_cons.mpr ⟨List.mem_of_getElem? (i := 417) rfl, List.forall_mem_cons.mpr ⟨List.mem_of_getElem? (i := 418) rfl, List.forall_mem_cons.mpr ⟨List.mem_of_getElem? (i := 754) rfl, List.forall_mem_cons.mpr ⟨List.mem_of_getElem? (i := 755) rfl, List.forall_mem_cons.mpr ⟨List.mem_of_getElem? (i := 756) rfl, List.forall_mem_cons.mpr ⟨List.mem_of_getElem? (i := 757) rfl, List.forall_mem_cons.mpr ⟨List.mem_of_getElem? (i := 758) rfl, List.forall_mem_cons.mpr ⟨List.mem_of_getElem? (i := 760) rfl, List.forall_mem_cons.mpr ⟨List.mem_of_getElem? (i := 28) rfl, List.forall_mem_cons.mpr ⟨List.mem_of_getElem? (i := 761) rfl, List.forall_mem_cons.mpr ⟨List.mem_of_getElem? (i := 419) rfl, List.forall_mem_cons.mpr ⟨List.mem_of_getElem? (i := 420) rfl, List.forall_mem_cons.mpr ⟨List.mem_of_getElem? (i := 421) rfl, List.forall_mem_cons.mpr ⟨List.mem_of_getElem? (i := 422) rfl, List.forall_mem_cons.mpr ⟨List.mem_of_getElem? (i := 360) rfl, List.forall_mem_cons.mpr ⟨List.mem_of_getElem? (i := 367) rfl, fun _ h => absurd h List.not_mem_nil⟩⟩⟩⟩⟩⟩⟩⟩⟩⟩⟩⟩⟩⟩⟩⟩⟩⟩⟩⟩⟩⟩⟩⟩
set_option maxRecDepth 20000 in
theorem in_wsL_law_r17 : ∀ w ∈ wsL_law_r17, w ∈ lw_tbl := List.forall_mem_cons.mpr ⟨List.mem_of_getElem? (i := 369) rfl, List.forall_mem_cons.mpr ⟨List.mem_of_getElem? (i := 371) rfl, List.forall_mem_cons.mpr ⟨List.mem_of_getElem? (i := 373) rfl, List.forall_mem_cons.mpr ⟨List.mem_of_getElem? (i := 375) rfl, List.forall_mem_cons.mpr ⟨List.mem_of_getElem? (i := 762) rfl, List.forall_mem_cons.mpr ⟨List.mem_of_getElem? (i := 763) rfl, List.forall_mem_cons.mpr ⟨List.mem_of_getElem? (i := 764) rfl, List.forall_mem_cons.mpr ⟨List.mem_of_getElem? (i := 765) rfl, List.forall_mem_cons.mpr ⟨List.mem_of_getElem? (i := 423) rfl, List.forall_mem_cons.mpr ⟨List.mem_of_getElem? (i := 424) rfl, List.forall_mem_cons.mpr ⟨List.mem_of_getElem? (i := 425) rfl, List.forall_mem_cons.mpr ⟨List.mem_of_getElem? (i := 426) rfl, List.forall_mem_cons.mpr ⟨List.mem_of_getElem? (i := 150) rfl, List.forall_mem_cons.mpr ⟨List.mem_of_getElem? (i := 151) rfl, List.forall_mem_cons.mpr ⟨List.mem_of_getElem? (i := 427) rfl, List.forall_mem_cons.mpr ⟨List.mem_of_getElem? (i := 428) rfl, List.forall_mem_cons.mpr ⟨List.mem_of_getElem? (i := 429) rfl, List.forall_mem_cons.mpr ⟨List.mem_of_getElem? (i := 766) rfl, List.forall_mem_cons.mpr ⟨List.mem_of_getElem? (i := 767) rfl, List.forall_mem_cons.mpr ⟨List.mem_of_getElem? (i := 768) rfl, List.forall_mem_cons.mpr ⟨List.mem_of_getElem? (i := 769) rfl, List.forall_mem_cons.mpr ⟨List.mem_of_getElem? (i := 623) rfl, List.forall_mem_cons.mpr ⟨List.mem_of_getElem? (i := 624) rfl, List.forall_mem_cons.mpr ⟨List.mem_of_getElem? (i := 430) rfl, fun _ h => absurd h List.not_mem_nil⟩⟩⟩⟩⟩⟩⟩⟩⟩⟩⟩⟩⟩⟩⟩⟩⟩⟩⟩⟩⟩⟩⟩⟩
set_option maxRecDepth 20000 in
theorem in_wsL_law_r18 : ∀ w ∈ wsL_law_r18, w ∈ lw_tbl := List.forall_mem_cons.mpr ⟨List.mem_of_getElem? (i := 431) rfl, List.forall_mem_cons.mpr ⟨List.mem_of_getElem? (i := 432) rfl, List.forall_mem_cons.mpr ⟨List.mem_of_getElem? (i := 433) rfl, List.forall_mem_cons.mpr ⟨List.mem_of_getElem? (i := 434) rfl, List.forall_mem_cons.mpr ⟨List.mem_of_getElem? (i := 435) rfl, List.forall_mem_cons.mpr ⟨List.mem_of_getElem? (i := 436) rfl, List.forall_mem_cons.mpr ⟨List.mem_of_getElem? (i := 437) rfl, List.forall_mem_cons.mpr ⟨List.mem_of_getElem? (i := 439) rfl, List.forall_mem_cons.mpr ⟨List.mem_of_getElem? (i := 12) rfl, List.forall_mem_cons.mpr ⟨List.mem_of_getElem? (i := 440) rfl, List.forall_mem_cons.mpr ⟨List.mem_of_getElem? (i := 441) rfl, List.forall_mem_cons.mpr ⟨List.mem_of_getElem? (i := 770) rfl, List.forall_mem_cons.mpr ⟨List.mem_of_getElem? (i := 771) rfl, List.forall_mem_cons.mpr ⟨List.mem_of_getElem? (i := 772) rfl, List.forall_mem_cons.mpr ⟨List.mem_of_getElem? (i := 773) rfl, List.forall_mem_cons.mpr ⟨List.mem_of_getElem? (i := 774) rfl, List.forall_mem_cons.mpr ⟨List.mem_of_getElem? (i := 776) rfl, List.forall_mem_cons.mpr ⟨List.mem_of_getElem? (i := 29) rfl, List.forall_mem_cons.mpr ⟨List.mem_of_getElem? (i := 777) rfl, List.forall_mem_cons.mpr ⟨List.mem_of_getElem? (i := 442) rfl, List.forall_mem_cons.mpr ⟨List.mem_of_getElem? (i := 443) rfl, List.forall_mem_cons.mpr ⟨List.mem_of_getElem? (i := 444) rfl, List.forall_mem_cons.mpr ⟨List.mem_of_getElem? (i := 445) rfl, List.forall_mem_cons.mpr ⟨List.mem_of_getElem? (i := 778) rfl, fun _ h => absurd h List.not_mem_nil⟩⟩⟩⟩⟩⟩⟩⟩⟩⟩⟩⟩⟩⟩⟩⟩⟩⟩⟩⟩⟩⟩⟩⟩
set_option maxRecDepth 20000 in
theorem in_wsL_law_r19 : ∀ w ∈ wsL_law_r19, w ∈ lw_tbl := List.forall_mem_cons.mpr ⟨List.mem_of_getElem? (i := 779) rfl, List.forall_mem_cons.mpr ⟨List.mem_of_getElem? (i := 780) rfl, List.forall_mem_cons.mpr ⟨List.mem_of_getElem? (i := 781) rfl, List.forall_mem_cons.mpr ⟨List.mem_of_getElem? (i := 446) rfl, List.forall_mem_cons.mpr ⟨List.mem_of_getElem? (i := 447) rfl, List.forall_mem_cons.mpr ⟨List.mem_of_getElem? (i := 448) rfl, List.forall_mem_cons.mpr ⟨List.mem_of_getElem? (i := 449) rfl, List.forall_mem_cons.mpr ⟨List.mem_of_getElem? (i := 128) rfl, List.forall_mem_cons.mpr ⟨List.mem_of_getElem? (i := 450) rfl, List.forall_mem_cons.mpr ⟨List.mem_of_getElem? (i := 451) rfl, List.forall_mem_cons.mpr ⟨List.mem_of_getElem? (i := 56) rfl, List.forall_mem_cons.mpr ⟨List.mem_of_getElem? (i := 468) rfl, List.forall_mem_cons.mpr ⟨List.mem_of_getElem? (i := 452) rfl, List.forall_mem_cons.mpr ⟨List.mem_of_getElem? (i := 453) rfl, List.forall_mem_cons.mpr ⟨List.mem_of_getElem? (i := 454) rfl, List.forall_mem_cons.mpr ⟨List.mem_of_getElem? (i := 455) rfl, List.forall_mem_cons.mpr ⟨List.mem_of_getElem? (i := 456) rfl, List.forall_mem_cons.mpr ⟨List.mem_of_getElem? (i := 458) rfl, List.forall_mem_cons.mpr ⟨List.mem_of_getElem? (i := 460) rfl, List.forall_mem_cons.mpr ⟨List.mem_of_getElem? (i := 462) rfl, List.forall_mem_cons.mpr ⟨List.mem_of_getElem? (i := 463) rfl, List.forall_mem_cons.mpr ⟨List.mem_of_getElem? (i := 465) rfl, List.forall_mem_cons.mpr ⟨List.mem_of_getElem? (i := 490) rfl, List.forall_mem_cons.mpr ⟨List.mem_of_getElem? (i := 492) rfl, fun _ h => absurd h List.not_mem_nil⟩⟩⟩⟩⟩⟩⟩⟩⟩⟩⟩⟩⟩⟩⟩⟩⟩⟩⟩⟩⟩⟩⟩⟩
set_option maxRecDepth 20000 in
theorem in_wsL_law_r20 : ∀ w ∈ wsL_law_r20, w ∈ lw_tbl := List.forall_mem_cons.mpr ⟨List.mem_of_getElem? (i := 13) rfl, List.forall_mem_cons.mpr ⟨List.mem_of_getElem? (i := 493) rfl, List.forall_mem_cons.mpr ⟨List.mem_of_getElem? (i := 494) rfl, List.forall_mem_cons.mpr ⟨List.mem_of_getElem? (i := 495) rfl, List.forall_mem_cons.mpr ⟨List.mem_of_getElem? (i := 496) rfl, List.forall_mem_cons.mpr ⟨List.mem_of_getElem? (i := 497) rfl, List.forall_mem_cons.mpr ⟨List.mem_of_getElem? (i := 498) rfl, List.forall_mem_cons.mpr ⟨List.mem_of_getElem? (i := 500) rfl, List.forall_mem_cons.mpr ⟨List.mem_of_getElem? (i := 14) rfl, List.forall_mem_cons.mpr ⟨List.mem_of_getElem? (i := 501) rfl, List.forall_mem_cons.mpr ⟨List.mem_of_getElem? (i := 502) rfl, List.forall_mem_cons.mpr ⟨List.mem_of_getElem? (i := 503) rfl, List.forall_mem_cons.mpr ⟨List.mem_of_getElem? (i := 504) rfl, List.forall_mem_cons.mpr ⟨List.mem_of_getElem? (i := 505) rfl, List.forall_mem_cons.mpr ⟨List.mem_of_getElem? (i := 506) rfl, List.forall_mem_cons.mpr ⟨List.mem_of_getElem? (i := 507) rfl, List.forall_mem_cons.mpr ⟨List.mem_of_getElem? (i := 508) rfl, List.forall_mem_cons.mpr ⟨List.mem_of_getElem? (i := 509) rfl, List.forall_mem_cons.mpr ⟨List.mem_of_getElem? (i := 510) rfl, List.forall_mem_cons.mpr ⟨List.mem_of_getElem? (i := 511) rfl, List.forall_mem_cons.mpr ⟨List.mem_of_getElem? (i := 513) rfl, List.forall_mem_cons.mpr ⟨List.mem_of_getElem? (i := 15) rfl, List.forall_mem_cons.mpr ⟨List.mem_of_getElem? (i := 514) rfl, List.forall_mem_cons.mpr ⟨List.mem_of_getElem? (i := 102) rfl, fun _ h => absurd h List.not_mem_nil⟩⟩⟩⟩⟩⟩⟩⟩⟩⟩⟩⟩⟩⟩⟩⟩⟩⟩⟩⟩⟩⟩⟩⟩
set_option maxRecDepth 20000 in
theorem in_wsL_law_r21 : ∀ w ∈ wsL_law_r21, w ∈ lw_tbl := List.forall_mem_cons.mpr ⟨List.mem_of_getElem? (i := 100) rfl, List.forall_mem_cons.mpr ⟨List.mem_of_getElem? (i := 450) rfl, List.forall_mem_cons.mpr ⟨List.mem_of_getElem? (i := 469) rfl, List.forall_mem_cons.mpr ⟨List.mem_of_getElem? (i := 129) rfl, List.forall_mem_cons.mpr ⟨List.mem_of_getElem? (i := 515) rfl, List.forall_mem_cons.mpr ⟨List.mem_of_getElem? (i := 516) rfl, List.forall_mem_cons.mpr ⟨List.mem_of_getElem? (i := 517) rfl, List.forall_mem_cons.mpr ⟨List.mem_of_getElem? (i := 98) rfl, List.forall_mem_cons.mpr ⟨List.mem_of_getElem? (i := 518) rfl, List.forall_mem_cons.mpr ⟨List.mem_of_getElem? (i := 519) rfl, List.forall_mem_cons.mpr ⟨List.mem_of_getElem? (i := 520) rfl, List.forall_mem_cons.mpr ⟨List.mem_of_getElem? (i := 521) rfl, List.forall_mem_cons.mpr ⟨List.mem_of_getElem? (i := 522) rfl, List.forall_mem_cons.mpr ⟨List.mem_of_getElem? (i := 101) rfl, List.forall_mem_cons.mpr ⟨List.mem_of_getElem? (i := 523) rfl, List.forall_mem_cons.mpr ⟨List.mem_of_getElem? (i := 524) rfl, List.forall_mem_cons.mpr ⟨List.mem_of_getElem? (i := 525) rfl, List.forall_mem_cons.mpr ⟨List.mem_of_getElem? (i := 526) rfl, List.forall_mem_cons.mpr ⟨List.mem_of_getElem? (i := 467) rfl, List.forall_mem_cons.mpr ⟨List.mem_of_getElem? (i := 527) rfl, List.forall_mem_cons.mpr ⟨List.mem_of_getElem? (i := 528) rfl, List.forall_mem_cons.mpr ⟨List.mem_of_getElem? (i := 529) rfl, List.forall_mem_cons.mpr ⟨List.mem_of_getElem? (i := 530) rfl, List.forall_mem_cons.mpr ⟨List.mem_of_getElem? (i := 531) rfl, fun _ h => absurd h List.not_mem_nil⟩⟩⟩⟩⟩⟩⟩⟩⟩⟩⟩⟩⟩⟩⟩⟩⟩⟩⟩⟩⟩⟩⟩⟩
set_option maxRecDepth 20000 in
theorem in_wsL_law_r22 : ∀ w ∈ wsL_law_r22, w ∈ lw_tbl := List.forall_mem_cons.mpr ⟨List.mem_of_getElem? (i := 532) rfl, List.forall_mem_cons.mpr ⟨List.mem_of_getElem? (i := 533) rfl, List.forall_mem_cons.mpr ⟨List.mem_of_getElem? (i := 536) rfl, List.forall_mem_cons.mpr ⟨List.mem_of_getElem? (i := 534) rfl, List.forall_mem_cons.mpr ⟨List.mem_of_getElem? (i := 535) rfl, List.forall_mem_cons.mpr ⟨List.mem_of_getElem? (i := 537) rfl, List.forall_mem_cons.mpr ⟨List.mem_of_getElem? (i := 538) rfl, List.forall_mem_cons.mpr ⟨List.mem_of_getElem? (i := 539) rfl, List.forall_mem_cons.mpr ⟨List.mem_of_getElem? (i := 540) rfl, List.forall_mem_cons.mpr ⟨List.mem_of_getElem? (i := 782) rfl, List.forall_mem_cons.mpr ⟨List.mem_of_getElem? (i := 783) rfl, List.forall_mem_cons.mpr ⟨List.mem_of_getElem? (i := 784) rfl, List.forall_mem_cons.mpr ⟨List.mem_of_getElem? (i := 785) rfl, List.forall_mem_cons.mpr ⟨List.mem_of_getElem? (i := 625) rfl, List.forall_mem_cons.mpr ⟨List.mem_of_getElem? (i := 786) rfl, List.forall_mem_cons.mpr ⟨List.mem_of_getElem? (i := 788) rfl, List.forall_mem_cons.mpr ⟨List.mem_of_getElem? (i := 30) rfl, List.forall_mem_cons.mpr ⟨List.mem_of_getElem? (i := 789) rfl, List.forall_mem_cons.mpr ⟨List.mem_of_getElem? (i := 541) rfl, List.forall_mem_cons.mpr ⟨List.mem_of_getElem? (i := 542) rfl, List.forall_mem_cons.mpr ⟨List.mem_of_getElem? (i := 543) rfl, List.forall_mem_cons.mpr ⟨List.mem_of_getElem? (i := 544) rfl, List.forall_mem_cons.mpr ⟨List.mem_of_getElem? (i := 470) rfl, List.forall_mem_cons.mpr ⟨List.mem_of_getElem? (i := 457) rfl, fun _ h => absurd h List.not_mem_nil⟩⟩⟩⟩⟩⟩⟩⟩⟩⟩⟩⟩⟩⟩⟩⟩⟩⟩⟩⟩⟩⟩⟩⟩
set_option maxRecDepth 20000 in
theorem in_wsL_law_r23 : ∀ w ∈ wsL_law_r23, w ∈ lw_tbl := List.forall_mem_cons.mpr ⟨List.mem_of_getElem? (i := 545) rfl, List.forall_mem_cons.mpr ⟨List.mem_of_getElem? (i := 547) rfl, List.forall_mem_cons.mpr ⟨List.mem_of_getElem? (i := 16) rfl, List.forall_mem_cons.mpr ⟨List.mem_of_getElem? (i := 548) rfl, List.forall_mem_cons.mpr ⟨List.mem_of_getElem? (i := 549) rfl, List.forall_mem_cons.mpr ⟨List.mem_of_getElem? (i := 550) rfl, List.forall_mem_cons.mpr ⟨List.mem_of_getElem? (i := 551) rfl, List.forall_mem_cons.mpr ⟨List.mem_of_getElem? (i := 552) rfl, List.forall_mem_cons.mpr ⟨List.mem_of_getElem? (i := 553) rfl, List.forall_mem_cons.mpr ⟨List.mem_of_getElem? (i := 554) rfl, List.forall_mem_cons.mpr ⟨List.mem_of_getElem? (i := 555) rfl, List.forall_mem_cons.mpr ⟨List.mem_of_getElem? (i := 556) rfl, List.forall_mem_cons.mpr ⟨List.mem_of_getElem? (i := 557) rfl, List.forall_mem_cons.mpr ⟨List.mem_of_getElem? (i := 558) rfl, List.forall_mem_cons.mpr ⟨List.mem_of_getElem? (i := 559) rfl, List.forall_mem_cons.mpr ⟨List.mem_of_getElem? (i := 561) rfl, List.forall_mem_cons.mpr ⟨List.mem_of_getElem? (i := 17) rfl, List.forall_mem_cons.mpr ⟨List.mem_of_getElem? (i := 562) rfl, List.forall_mem_cons.mpr ⟨List.mem_of_getElem? (i := 563) rfl, List.forall_mem_cons.mpr ⟨List.mem_of_getElem? (i := 790) rfl, List.forall_mem_cons.mpr ⟨List.mem_of_getElem? (i := 791) rfl, List.forall_mem_cons.mpr ⟨List.mem_of_getElem? (i := 792) rfl, List.forall_mem_cons.mpr ⟨List.mem_of_getElem? (i := 793) rfl, List.forall_mem_cons.mpr ⟨List.mem_of_getElem? (i := 794) rfl, fun _ h => absurd h List.not_mem_nil⟩⟩⟩⟩⟩⟩⟩⟩⟩⟩⟩⟩⟩⟩⟩⟩⟩⟩⟩⟩⟩⟩⟩⟩
set_option maxRecDepth 20000 in
theorem in_wsL_law_r24 : ∀ w ∈ wsL_law_r24, w ∈ lw_tbl := List.forall_mem_cons.mpr ⟨List.mem_of_getElem? (i := 796) rfl, List.forall_mem_cons.mpr ⟨List.mem_of_getElem? (i := 31) rfl, List.forall_mem_cons.mpr ⟨List.mem_of_getElem? (i := 797) rfl, List.forall_mem_cons.mpr ⟨List.mem_of_getElem? (i := 564) rfl, List.forall_mem_cons.mpr ⟨List.mem_of_getElem? (i := 565) rfl, List.forall_mem_cons.mpr ⟨List.mem_of_getElem? (i := 566) rfl, List.forall_mem_cons.mpr ⟨List.mem_of_getElem? (i := 567) rfl, List.forall_mem_cons.mpr ⟨List.mem_of_getElem? (i := 798) rfl, List.forall_mem_cons.mpr ⟨List.mem_of_getElem? (i := 799) rfl, List.forall_mem_cons.mpr ⟨List.mem_of_getElem? (i := 800) rfl, List.forall_mem_cons.mpr ⟨List.mem_of_getElem? (i := 801) rfl, List.forall_mem_cons.mpr ⟨List.mem_of_getElem? (i := 802) rfl, List.forall_mem_cons.mpr ⟨List.mem_of_getElem? (i := 804) rfl, List.forall_mem_cons.mpr ⟨List.mem_of_getElem? (i := 32) rfl, List.forall_mem_cons.mpr ⟨List.mem_of_getElem? (i := 805) rfl, List.forall_mem_cons.mpr ⟨List.mem_of_getElem? (i := 806) rfl, List.forall_mem_cons.mpr ⟨List.mem_of_getElem? (i := 808) rfl, List.forall_mem_cons.mpr ⟨List.mem_of_getElem? (i := 33) rfl, List.forall_mem_cons.mpr ⟨List.mem_of_getElem? (i := 809) rfl, List.forall_mem_cons.mpr ⟨List.mem_of_getElem? (i := 810) rfl, List.forall_mem_cons.mpr ⟨List.mem_of_getElem? (i := 812) rfl, List.forall_mem_cons.mpr ⟨List.mem_of_getElem? (i := 34) rfl, List.forall_mem_cons.mpr ⟨List.mem_of_getElem? (i := 813) rfl, List.forall_mem_cons.mpr ⟨List.mem_of_getElem? (i := 814) rfl, fun _ h => absurd h List.not_mem_nil⟩⟩⟩⟩⟩⟩⟩⟩⟩⟩⟩⟩⟩⟩⟩⟩⟩⟩⟩⟩⟩⟩⟩⟩
set_option maxRecDepth 20000 in
theorem in_wsL_law_r25 : ∀ w ∈ wsL_law_r25, w ∈ lw_tbl := List.forall_mem_cons.mpr ⟨List.mem_of_getElem? (i := 816) rfl, List.forall_mem_cons.mpr ⟨List.mem_of_getElem? (i := 35) rfl, List.forall_mem_cons.mpr ⟨List.mem_of_getElem? (i := 817) rfl, List.forall_mem_cons.mpr ⟨List.mem_of_getElem? (i := 568) rfl, List.forall_mem_cons.mpr ⟨List.mem_of_getElem? (i := 569) rfl, List.forall_mem_cons.mpr ⟨List.mem_of_getElem? (i := 570) rfl, List.forall_mem_cons.mpr ⟨List.mem_of_getElem? (i := 571) rfl, List.forall_mem_cons.mpr ⟨List.mem_of_getElem? (i := 818) rfl, List.forall_mem_cons.mpr ⟨List.mem_of_getElem? (i := 819) rfl, List.forall_mem_cons.mpr ⟨List.mem_of_getElem? (i := 820) rfl, List.forall_mem_cons.mpr ⟨List.mem_of_getElem? (i := 821) rfl, List.forall_mem_cons.mpr ⟨List.mem_of_getElem? (i := 822) rfl, List.forall_mem_cons.mpr ⟨List.mem_of_getElem? (i := 824) rfl, List.forall_mem_cons.mpr ⟨List.mem_of_getElem? (i := 36) rfl, List.forall_mem_cons.mpr ⟨List.mem_of_getElem? (i := 825) rfl, List.forall_mem_cons.mpr ⟨List.mem_of_getElem? (i := 638) rfl, List.forall_mem_cons.mpr ⟨List.mem_of_getElem? (i := 826) rfl, List.forall_mem_cons.mpr ⟨List.mem_of_getElem? (i := 828) rfl, List.forall_mem_cons.mpr ⟨List.mem_of_getElem? (i := 37) rfl, List.forall_mem_cons.mpr ⟨List.mem_of_getElem? (i := 829) rfl, List.forall_mem_cons.mpr ⟨List.mem_of_getElem? (i := 830) rfl, List.forall_mem_cons.mpr ⟨List.mem_of_getElem? (i := 832) rfl, List.forall_mem_cons.mpr ⟨List.mem_of_getElem? (i := 38) rfl, List.forall_mem_cons.mpr ⟨List.mem_of_getElem? (i := 833) rfl, fun _ h => absurd h List.not_mem_nil⟩⟩⟩⟩⟩⟩⟩⟩⟩⟩⟩⟩⟩⟩⟩⟩⟩⟩⟩⟩⟩⟩⟩⟩
set_option maxRecDepth 20000 in
theorem in_wsL_law_r26 : ∀ w ∈ wsL_law_r26, w ∈ lw_tbl := List.forall_mem_cons.mpr ⟨List.mem_of_getElem? (i := 572) rfl, List.forall_mem_cons.mpr ⟨List.mem_of_getElem? (i := 573) rfl, List.forall_mem_cons.mpr ⟨List.mem_of_getElem? (i := 574) rfl, List.forall_mem_cons.mpr ⟨List.mem_of_getElem? (i := 575) rfl, List.forall_mem_cons.mpr ⟨List.mem_of_getElem? (i := 834) rfl, List.forall_mem_cons.mpr ⟨List.mem_of_getElem? (i := 835) rfl, List.forall_mem_cons.mpr ⟨List.mem_of_getElem? (i := 836) rfl, List.forall_mem_cons.mpr ⟨List.mem_of_getElem? (i := 837) rfl, List.forall_mem_cons.mpr ⟨List.mem_of_getElem? (i := 576) rfl, List.forall_mem_cons.mpr ⟨List.mem_of_getElem? (i := 577) rfl, List.forall_mem_cons.mpr ⟨List.mem_of_getElem? (i := 578) rfl, List.forall_mem_cons.mpr ⟨List.mem_of_getElem? (i := 579) rfl, List.forall_mem_cons.mpr ⟨List.mem_of_getElem? (i := 459) rfl, List.forall_mem_cons.mpr ⟨List.mem_of_getElem? (i := 461) rfl, List.forall_mem_cons.mpr ⟨List.mem_of_getElem? (i := 464) rfl, List.forall_mem_cons.mpr ⟨List.mem_of_getElem? (i := 466) rfl, List.forall_mem_cons.mpr ⟨List.mem_of_getElem? (i := 838) rfl, List.forall_mem_cons.mpr ⟨List.mem_of_getElem? (i := 839) rfl, List.forall_mem_cons.mpr ⟨List.mem_of_getElem? (i := 840) rfl, List.forall_mem_cons.mpr ⟨List.mem_of_getElem? (i := 841) rfl, List.forall_mem_cons.mpr ⟨List.mem_of_getElem? (i := 580) rfl, List.forall_mem_cons.mpr ⟨List.mem_of_getElem? (i := 581) rfl, List.forall_mem_cons.mpr ⟨List.mem_of_getElem? (i := 582) rfl, List.forall_mem_cons.mpr ⟨List.mem_of_getElem? (i := 583) rfl, fun _ h => absurd h List.not_mem_nil⟩⟩⟩⟩⟩⟩⟩⟩⟩⟩⟩⟩⟩⟩⟩⟩⟩⟩⟩⟩⟩⟩⟩⟩
set_option maxRecDepth 20000 in
theorem in_wsL_law_r27 : ∀ w ∈ wsL_law_r27, w ∈ lw_tbl := List.forall_mem_cons.mpr ⟨List.mem_of_getElem? (i := 842) rfl, List.forall_mem_cons.mpr ⟨List.mem_of_getElem? (i := 843) rfl, List.forall_mem_cons.mpr ⟨List.mem_of_getElem? (i := 844) rfl, List.forall_mem_cons.mpr ⟨List.mem_of_getElem? (i := 845) rfl, List.forall_mem_cons.mpr ⟨List.mem_of_getElem? (i := 584) rfl, List.forall_mem_cons.mpr ⟨List.mem_of_getElem? (i := 585) rfl, List.forall_mem_cons.mpr ⟨List.mem_of_getElem? (i := 586) rfl, List.forall_mem_cons.mpr ⟨List.mem_of_getElem? (i := 587) rfl, List.forall_mem_cons.mpr ⟨List.mem_of_getElem? (i := 152) rfl, List.forall_mem_cons.mpr ⟨List.mem_of_getElem? (i := 132) rfl, List.forall_mem_cons.mpr ⟨List.mem_of_getElem? (i := 846) rfl, List.forall_mem_cons.mpr ⟨List.mem_of_getElem? (i := 847) rfl, List.forall_mem_cons.mpr ⟨List.mem_of_getElem? (i := 848) rfl, List.forall_mem_cons.mpr ⟨List.mem_of_getElem? (i := 849) rfl, List.forall_mem_cons.mpr ⟨List.mem_of_getElem? (i := 634) rfl, List.forall_mem_cons.mpr ⟨List.mem_of_getElem? (i := 588) rfl, List.forall_mem_cons.mpr ⟨List.mem_of_getElem? (i := 589) rfl, List.forall_mem_cons.mpr ⟨List.mem_of_getElem? (i := 590) rfl, List.forall_mem_cons.mpr ⟨List.mem_of_getElem? (i := 591) rfl, List.forall_mem_cons.mpr ⟨List.mem_of_getElem? (i := 850) rfl, List.forall_mem_cons.mpr ⟨List.mem_of_getElem? (i := 851) rfl, List.forall_mem_cons.mpr ⟨List.mem_of_getElem? (i := 852) rfl, List.forall_mem_cons.mpr ⟨List.mem_of_getElem? (i := 853) rfl, List.forall_mem_cons.mpr ⟨List.mem_of_getElem? (i := 592) rfl, fun _ h => absurd h List.not_mem_nil⟩⟩⟩⟩⟩⟩⟩⟩⟩⟩⟩⟩⟩⟩⟩⟩⟩⟩⟩⟩⟩⟩⟩⟩
set_option maxRecDepth 20000 in
theorem in_wsL_law_r28 : ∀ w ∈ wsL_law_r28, w ∈ lw_tbl := List.forall_mem_cons.mpr ⟨List.mem_of_getElem? (i := 593) rfl, List.forall_mem_cons.mpr ⟨List.mem_of_getElem? (i := 594) rfl, List.forall_mem_cons.mpr ⟨List.mem_of_getElem? (i := 595) rfl, List.forall_mem_cons.mpr ⟨List.mem_of_getElem? (i := 596) rfl, List.forall_mem_cons.mpr ⟨List.mem_of_getElem? (i := 598) rfl, List.forall_mem_cons.mpr ⟨List.mem_of_getElem? (i := 18) rfl, List.forall_mem_cons.mpr ⟨List.mem_of_getElem? (i := 599) rfl, List.forall_mem_cons.mpr ⟨List.mem_of_getElem? (i := 600) rfl, List.forall_mem_cons.mpr ⟨List.mem_of_getElem? (i := 602) rfl, List.forall_mem_cons.mpr ⟨List.mem_of_getElem? (i := 19) rfl, List.forall_mem_cons.mpr ⟨List.mem_of_getElem? (i := 603) rfl, List.forall_mem_cons.mpr ⟨List.mem_of_getElem? (i := 854) rfl, List.forall_mem_cons.mpr ⟨List.mem_of_getElem? (i := 855) rfl, List.forall_mem_cons.mpr ⟨List.mem_of_getElem? (i := 856) rfl, List.forall_mem_cons.mpr ⟨List.mem_of_getElem? (i := 857) rfl, fun _ h => absurd h List.not_mem_nil⟩⟩⟩⟩⟩⟩⟩⟩⟩⟩⟩⟩⟩⟩⟩
set_option maxRecDepth 20000 in
theorem in_wsX60 : ∀ w ∈ wsX60, w ∈ lw_tbl := fun w h => (goodIn_r wsX60 [153, 155, 157, 159, 161, 163, 165, 167, 169] (by decide +kernel) (by decide +kernel) w h).1
set_option maxRecDepth 20000 in
theorem in_wsX70 : ∀ w ∈ wsX70, w ∈ lw_tbl := fun w h => (goodIn_r wsX70 [639, 641, 643, 645, 647, 649, 651, 653, 655, 657, 659, 661, 663, 665, 667, 669, 671, 673, 675, 677, 679, 681, 683, 685, 687, 689] (by decide +kernel) (by decide +kernel) w h).1
set_option maxRecDepth 20000 in
theorem in_wsJx4a65c0 : ∀ w ∈ wsJx4a65c0, w ∈ lw_tbl := fun w h => (goodIn_r wsJx4a65c0 [88, 84, 86] (by decide +kernel) (by decide +kernel) w h).1
set_option maxRecDepth 20000 in
theorem in_wsX40 : ∀ w ∈ wsX40, w ∈ lw_tbl := fun w h => (goodIn_r wsX40 [103, 105, 107] (by decide +kernel) (by decide +kernel) w h).1
set_option maxRecDepth 20000 in
theorem in_wsX10 : ∀ w ∈ wsX10, w ∈ lw_tbl := fun w h => (goodIn_r wsX10 [133, 135, 137, 139, 141] (by decide +kernel) (by decide +kernel) w h).1
set_option maxRecDepth 20000 in
theorem in_wsX00 : ∀ w ∈ wsX00, w ∈ lw_tbl := fun w h => (goodIn_r wsX00 [221, 223] (by decide +kernel) (by decide +kernel) w h).1
set_option maxRecDepth 20000 in
theorem in_wsX50 : ∀ w ∈ wsX50, w ∈ lw_tbl := fun w h => (goodIn_r wsX50 [328, 330, 332, 334, 336] (by decide +kernel) (by decide +kernel) w h).1
set_option maxRecDepth 20000 in
theorem in_wsX30 : ∀ w ∈ wsX30, w ∈ lw_tbl := fun w h => (goodIn_r wsX30 [376, 378, 380, 382, 384] (by decide +kernel) (by decide +kernel) w h).1
set_option maxRecDepth 20000 in
theorem in_wsX20 : ∀ w ∈ wsX20, w ∈ lw_tbl := fun w h => (goodIn_r wsX20 [471, 473, 475, 477, 479, 481, 483, 485, 487] (by decide +kernel) (by decide +kernel) w h).1
theorem wsL_law_in : ∀ w ∈ wsL_law, w ∈ lw_tbl := List.forall_mem_append.mpr ⟨List.forall_mem_append.mpr ⟨List.forall_mem_append.mpr ⟨List.forall_mem_append.mpr ⟨List.forall_mem_append.mpr ⟨List.forall_mem_append.mpr ⟨List.forall_mem_append.mpr ⟨List.forall_mem_append.mpr ⟨List.forall_mem_append.mpr ⟨List.forall_mem_append.mpr ⟨List.forall_mem_append.mpr ⟨in_wsL_law_r1, List.forall_mem_append.mpr ⟨in_wsL_law_r2, List.forall_mem_append.mpr ⟨in_wsL_law_r3, List.forall_mem_append.mpr ⟨in_wsL_law_r4, List.forall_mem_append.mpr ⟨in_wsL_law_r5, List.forall_mem_append.mpr ⟨in_wsL_law_r6, List.forall_mem_append.mpr ⟨in_wsL_law_r7, List.forall_mem_append.mpr ⟨in_wsL_law_r8, List.forall_mem_append.mpr ⟨in_wsL_law_r9, List.forall_mem_append.mpr ⟨in_wsL_law_r10, List.forall_mem_append.mpr ⟨in_wsL_law_r11, List.forall_mem_append.mpr ⟨in_wsL_law_r12, List.forall_mem_append.mpr ⟨in_wsL_law_r13, List.forall_mem_append.mpr ⟨in_wsL_law_r14, List.forall_mem_append.mpr ⟨in_wsL_law_r15, List.forall_mem_append.mpr ⟨in_wsL_law_r16, List.forall_mem_append.mpr ⟨in_wsL_law_r17, List.forall_mem_append.mpr ⟨in_wsL_law_r18, List.forall_mem_append.mpr ⟨in_wsL_law_r19, List.forall_mem_append.mpr ⟨in_wsL_law_r20, List.forall_mem_append.mpr ⟨in_wsL_law_r21, List.forall_mem_append.mpr ⟨in_wsL_law_r22, List.forall_mem_append.mpr ⟨in_wsL_law_r23, List.forall_mem_append.mpr ⟨in_wsL_law_r24, List.forall_mem_append.mpr ⟨in_wsL_law_r25, List.forall_mem_append.mpr ⟨in_wsL_law_r26, List.forall_mem_append.mpr ⟨in_wsL_law_r27, in_wsL_law_r28⟩⟩⟩⟩⟩⟩⟩⟩⟩⟩⟩⟩⟩⟩⟩⟩⟩⟩⟩⟩⟩⟩⟩⟩⟩⟩⟩, in_wsX60⟩, in_wsX70⟩, in_wsJx4a65c0⟩, in_wsX40⟩, in_wsX10⟩, in_wsX00⟩, in_wsX50⟩, in_wsX30⟩, in_wsX20⟩, fun _ h => absurd h List.not_mem_nil⟩
theorem inlX0 : ∀ w ∈ wsX00, w ∈ wsL_law := fun _ h => List.mem_append_left _ (List.mem_append_left _ (List.mem_append_left _ (List.mem_append_left _ (List.mem_append_right _ h))))
theorem inX0 : ∀ w ∈ wsX00, w ∈ lw_tbl := fun w h => wsL_law_in w (inlX0 w h)
theorem inlX1 : ∀ w ∈ wsX10, w ∈ wsL_law := fun _ h => List.mem_append_left _ (List.mem_append_left _ (List.mem_append_left _ (List.mem_append_left _ (List.mem_append_left _ (List.mem_append_right _ h)))))
theorem inX1 : ∀ w ∈ wsX10, w ∈ lw_tbl := fun w h => wsL_law_in w (inlX1 w h)
theorem inlX2 : ∀ w ∈ wsX20, w ∈ wsL_law := fun _ h => List.mem_append_left _ (List.mem_append_right _ h)
theorem inX2 : ∀ w ∈ wsX20, w ∈ lw_tbl := fun w h => wsL_law_in w (inlX2 w h)
theorem inlX3 : ∀ w ∈ wsX30, w ∈ wsL_law := fun _ h => List.mem_append_left _ (List.mem_append_left _ (List.mem_append_right _ h))
theorem inX3 : ∀ w ∈ wsX30, w ∈ lw_tbl := fun w h => wsL_law_in w (inlX3 w h)
theorem inlX4 : ∀ w ∈ wsX40, w ∈ wsL_law := fun _ h => List.mem_append_left _ (List.mem_append_left _ (List.mem_append_left _ (List.mem_append_left _ (List.mem_append_left _ (List.mem_append_left _ (List.mem_append_right _ h))))))
theorem inX4 : ∀ w ∈ wsX40, w ∈ lw_tbl := fun w h => wsL_law_in w (inlX4 w h)
theorem inlX5 : ∀ w ∈ wsX50, w ∈ wsL_law := fun _ h => List.mem_append_left _ (List.mem_append_left _ (List.mem_append_left _ (List.mem_append_right _ h)))
theorem inX5 : ∀ w ∈ wsX50, w ∈ lw_tbl := fun w h => wsL_law_in w (inlX5 w h)
theorem inlX6 : ∀ w ∈ wsX60, w ∈ wsL_law := fun _ h => List.mem_append_left _ (List.mem_append_left _ (List.mem_append_left _ (List.mem_append_left _ (List.mem_append_left _ (List.mem_append_left _ (List.mem_append_left _ (List.mem_append_left _ (List.mem_append_left _ (List.mem_append_right _ h)))))))))
theorem inX6 : ∀ w ∈ wsX60, w ∈ lw_tbl := fun w h => wsL_law_in w (inlX6 w h)
theorem inlX7 : ∀ w ∈ wsX70, w ∈ wsL_law := fun _ h => List.mem_append_left _ (List.mem_append_left _ (List.mem_append_left _ (List.mem_append_left _ (List.mem_append_left _ (List.mem_append_left _ (List.mem_append_left _ (List.mem_append_left _ (List.mem_append_right _ h))))))))
theorem inX7 : ∀ w ∈ wsX70, w ∈ lw_tbl := fun w h => wsL_law_in w (inlX7 w h)
theorem inJx145de : ∀ w ∈ wsJx145de0, w ∈ lw_tbl := by decide +kernel
theorem inJx8e188 : ∀ w ∈ wsJx8e1880, w ∈ lw_tbl := by decide +kernel
theorem inJxab1ab : ∀ w ∈ wsJxab1ab0, w ∈ lw_tbl := by decide +kernel
theorem inJ9 : ∀ w ∈ wsJ90, w ∈ lw_tbl := by decide +kernel
theorem inJ10 : ∀ w ∈ wsJ100, w ∈ lw_tbl := by decide +kernel
theorem inJxa1e45 : ∀ w ∈ wsJxa1e450, w ∈ lw_tbl := by decide +kernel
theorem inJxc12de : ∀ w ∈ wsJxc12de0, w ∈ lw_tbl := by decide +kernel
theorem inlJx4a65c : ∀ w ∈ wsJx4a65c0, w ∈ wsL_law := fun _ h => List.mem_append_left _ (List.mem_append_left _ (List.mem_append_left _ (List.mem_append_left _ (List.mem_append_left _ (List.mem_append_left _ (List.mem_append_left _ (List.mem_append_right _ h)))))))
theorem inJx4a65c : ∀ w ∈ wsJx4a65c0, w ∈ lw_tbl := fun w h => wsL_law_in w (inlJx4a65c w h)
theorem inJ7 : ∀ w ∈ wsJ70, w ∈ lw_tbl := by decide +kernel
theorem inJx5ef63 : ∀ w ∈ wsJx5ef630, w ∈ lw_tbl := by decide +kernel
theorem inJxbd725 : ∀ w ∈ wsJxbd7250, w ∈ lw_tbl := by decide +kernel
theorem inJ15 : ∀ w ∈ wsJ150, w ∈ lw_tbl := by decide +kernel
theorem inJxf0a74 : ∀ w ∈ wsJxf0a740, w ∈ lw_tbl := by decide +kernel
theorem inJxa66e6 : ∀ w ∈ wsJxa66e60, w ∈ lw_tbl := by decide +kernel
theorem inJ8 : ∀ w ∈ wsJ80, w ∈ lw_tbl := by decide +kernel
theorem inJ3 : ∀ w ∈ wsJ30, w ∈ lw_tbl := by decide +kernel
abbrev vwCl : List vw_C := [(RJx4a65c, TJx4a65c, 3), (RX0, TX0, 2), (RX1, TX1, 5), (RX2, TX2, 9), (RX3, TX3, 5), (RX4, TX4, 3), (RX5, TX5, 5), (RX6, TX6, 9), (RX7, TX7, 26)]
end
section
theorem tl_all : ∀ w ∈ (wsL_law_r1 ++ (wsL_law_r2 ++ (wsL_law_r3 ++ (wsL_law_r4 ++ (wsL_law_r5 ++ (wsL_law_r6 ++ (wsL_law_r7 ++ (wsL_law_r8 ++ (wsL_law_r9 ++ (wsL_law_r10 ++ (wsL_law_r11 ++ (wsL_law_r12 ++ (wsL_law_r13 ++ (wsL_law_r14 ++ (wsL_law_r15 ++ (wsL_law_r16 ++ (wsL_law_r17 ++ (wsL_law_r18 ++ (wsL_law_r19 ++ (wsL_law_r20 ++ (wsL_law_r21 ++ (wsL_law_r22 ++ (wsL_law_r23 ++ (wsL_law_r24 ++ (wsL_law_r25 ++ (wsL_law_r26 ++ (wsL_law_r27 ++ wsL_law_r28))))))))))))))))))))))))))), w ∈ wsL_law := fun w h => List.mem_append_left _ (List.mem_append_left _ (List.mem_append_left _ (List.mem_append_left _ (List.mem_append_left _ (List.mem_append_left _ (List.mem_append_left _ (List.mem_append_left _ (List.mem_append_left _ (List.mem_append_left _ (h))))))))))
theorem tl_r1 : ∀ w ∈ wsL_law_r1, w ∈ wsL_law := fun w h => tl_all w (List.mem_append_left _ h)
theorem tl_r2 : ∀ w ∈ wsL_law_r2, w ∈ wsL_law := fun w h => tl_all w (List.mem_append_right _ (List.mem_append_left _ h))
theorem tl_r3 : ∀ w ∈ wsL_law_r3, w ∈ wsL_law := fun w h => tl_all w (List.mem_append_right _ (List.mem_append_right _ (List.mem_append_left _ h)))
theorem tl_r4 : ∀ w ∈ wsL_law_r4, w ∈ wsL_law := fun w h => tl_all w (List.mem_append_right _ (List.mem_append_right _ (List.mem_append_right _ (List.mem_append_left _ h))))
theorem tl_r5 : ∀ w ∈ wsL_law_r5, w ∈ wsL_law := fun w h => tl_all w (List.mem_append_right _ (List.mem_append_right _ (List.mem_append_right _ (List.mem_append_right _ (List.mem_append_left _ h)))))
theorem tl_r6 : ∀ w ∈ wsL_law_r6, w ∈ wsL_law := fun w h => tl_all w (List.mem_append_right _ (List.mem_append_right _ (List.mem_append_right _ (List.mem_append_right _ (List.mem_append_right _ (List.mem_append_left _ h))))))
theorem tl_r7 : ∀ w ∈ wsL_law_r7, w ∈ wsL_law := fun w h => tl_all w (List.mem_append_right _ (List.mem_append_right _ (List.mem_append_right _ (List.mem_append_right _ (List.mem_append_right _ (List.mem_append_right _ (List.mem_append_left _ h)))))))
theorem tl_r8 : ∀ w ∈ wsL_law_r8, w ∈ wsL_law := fun w h => tl_all w (List.mem_append_right _ (List.mem_append_right _ (List.mem_append_right _ (List.mem_append_right _ (List.mem_append_right _ (List.mem_append_right _ (List.mem_append_right _ (List.mem_append_left _ h))))))))
theorem tl_r9 : ∀ w ∈ wsL_law_r9, w ∈ wsL_law := fun w h => tl_all w (List.mem_append_right _ (List.mem_append_right _ (List.mem_append_right _ (List.mem_append_right _ (List.mem_append_right _ (List.mem_append_right _ (List.mem_append_right _ (List.mem_append_right _ (List.mem_append_left _ h)))))))))
theorem tl_r10 : ∀ w ∈ wsL_law_r10, w ∈ wsL_law := fun w h => tl_all w (List.mem_append_right _ (List.mem_append_right _ (List.mem_append_right _ (List.mem_append_right _ (List.mem_append_right _ (List.mem_append_right _ (List.mem_append_right _ (List.mem_append_right _ (List.mem_append_right _ (List.mem_append_left _ h))))))))))
theorem tl_r11 : ∀ w ∈ wsL_law_r11, w ∈ wsL_law := fun w h => tl_all w (List.mem_append_right _ (List.mem_append_right _ (List.mem_append_right _ (List.mem_append_right _ (List.mem_append_right _ (List.mem_append_right _ (List.mem_append_right _ (List.mem_append_right _ (List.mem_append_right _ (List.mem_append_right _ (List.mem_append_left _ h)))))))))))
theorem tl_r12 : ∀ w ∈ wsL_law_r12, w ∈ wsL_law := fun w h => tl_all w (List.mem_append_right _ (List.mem_append_right _ (List.mem_append_right _ (List.mem_append_right _ (List.mem_append_right _ (List.mem_append_right _ (List.mem_append_right _ (List.mem_append_right _ (List.mem_append_right _ (List.mem_append_right _ (List.mem_append_right _ (List.mem_append_left _ h))))))))))))
theorem tl_r13 : ∀ w ∈ wsL_law_r13, w ∈ wsL_law := fun w h => tl_all w (List.mem_append_right _ (List.mem_append_right _ (List.mem_append_right _ (List.mem_append_right _ (List.mem_append_right _ (List.mem_append_right _ (List.mem_append_right _ (List.mem_append_right _ (List.mem_append_right _ (List.mem_append_right _ (List.mem_append_right _ (List.mem_append_right _ (List.mem_append_left _ h)))))))))))))
theorem tl_r14 : ∀ w ∈ wsL_law_r14, w ∈ wsL_law := fun w h => tl_all w (List.mem_append_right _ (List.mem_append_right _ (List.mem_append_right _ (List.mem_append_right _ (List.mem_append_right _ (List.mem_append_right _ (List.mem_append_right _ (List.mem_append_right _ (List.mem_append_right _ (List.mem_append_right _ (List.mem_append_right _ (List.mem_append_right _ (List.mem_append_right _ (List.mem_append_left _ h))))))))))))))
theorem tl_r15 : ∀ w ∈ wsL_law_r15, w ∈ wsL_law := fun w h => tl_all w (List.mem_append_right _ (List.mem_append_right _ (List.mem_append_right _ (List.mem_append_right _ (List.mem_append_right _ (List.mem_append_right _ (List.mem_append_right _ (List.mem_append_right _ (List.mem_append_right _ (List.mem_append_right _ (List.mem_append_right _ (List.mem_append_right _ (List.mem_append_right _ (List.mem_append_right _ (List.mem_append_left _ h)))))))))))))))
theorem tl_r16 : ∀ w ∈ wsL_law_r16, w ∈ wsL_law := fun w h => tl_all w (List.mem_append_right _ (List.mem_append_right _ (List.mem_append_right _ (List.mem_append_right _ (List.mem_append_right _ (List.mem_append_right _ (List.mem_append_right _ (List.mem_append_right _ (List.mem_append_right _ (List.mem_append_right _ (List.mem_append_right _ (List.mem_append_right _ (List.mem_append_right _ (List.mem_append_right _ (List.mem_append_right _ (List.mem_append_left _ h))))))))))))))))
theorem tl_r17 : ∀ w ∈ wsL_law_r17, w ∈ wsL_law := fun w h => tl_all w (List.mem_append_right _ (List.mem_append_right _ (List.mem_append_right _ (List.mem_append_right _ (List.mem_append_right _ (List.mem_append_right _ (List.mem_append_right _ (List.mem_append_right _ (List.mem_append_right _ (List.mem_append_right _ (List.mem_append_right _ (List.mem_append_right _ (List.mem_append_right _ (List.mem_append_right _ (List.mem_append_right _ (List.mem_append_right _ (List.mem_append_left _ h)))))))))))))))))
theorem tl_r18 : ∀ w ∈ wsL_law_r18, w ∈ wsL_law := fun w h => tl_all w (List.mem_append_right _ (List.mem_append_right _ (List.mem_append_right _ (List.mem_append_right _ (List.mem_append_right _ (List.mem_append_right _ (List.mem_append_right _ (List.mem_append_right _ (List.mem_append_right _ (List.mem_append_right _ (List.mem_append_right _ (List.mem_append_right _ (List.mem_append_right _ (List.mem_append_right _ (List.mem_append_right _ (List.mem_append_right _ (List.mem_append_right _ (List.mem_append_left _ h))))))))))))))))))
theorem tl_r19 : ∀ w ∈ wsL_law_r19, w ∈ wsL_law := fun w h => tl_all w (List.mem_append_right _ (List.mem_append_right _ (List.mem_append_right _ (List.mem_append_right _ (List.mem_append_right _ (List.mem_append_right _ (List.mem_append_right _ (List.mem_append_right _ (List.mem_append_right _ (List.mem_append_right _ (List.mem_append_right _ (List.mem_append_right _ (List.mem_append_right _ (List.mem_append_right _ (List.mem_append_right _ (List.mem_append_right _ (List.mem_append_right _ (List.mem_append_right _ (List.mem_append_left _ h)))))))))))))))))))
theorem tl_r20 : ∀ w ∈ wsL_law_r20, w ∈ wsL_law := fun w h => tl_all w (List.mem_append_right _ (List.mem_append_right _ (List.mem_append_right _ (List.mem_append_right _ (List.mem_append_right _ (List.mem_append_right _ (List.mem_append_right _ (List.mem_append_right _ (List.mem_append_right _ (List.mem_append_right _ (List.mem_append_right _ (List.mem_append_right _ (List.mem_append_right _ (List.mem_append_right _ (List.mem_append_right _ (List.mem_append_right _ (List.mem_append_right _ (List.mem_append_right _ (List.mem_append_right _ (List.mem_append_left _ h))))))))))))))))))))
theorem tl_r21 : ∀ w ∈ wsL_law_r21, w ∈ wsL_law := fun w h => tl_all w (List.mem_append_right _ (List.mem_append_right _ (List.mem_append_right _ (List.mem_append_right _ (List.mem_append_right _ (List.mem_append_right _ (List.mem_append_right _ (List.mem_append_right _ (List.mem_append_right _ (List.mem_append_right _ (List.mem_append_right _ (List.mem_append_right _ (List.mem_append_right _ (List.mem_append_right _ (List.mem_append_right _ (List.mem_append_right _ (List.mem_append_right _ (List.mem_append_right _ (List.mem_append_right _ (List.mem_append_right _ (List.mem_append_left _ h)))))))))))))))))))))
theorem tl_r22 : ∀ w ∈ wsL_law_r22, w ∈ wsL_law := fun w h => tl_all w (List.mem_append_right _ (List.mem_append_right _ (List.mem_append_right _ (List.mem_append_right _ (List.mem_append_right _ (List.mem_append_right _ (List.mem_append_right _ (List.mem_append_right _ (List.mem_append_right _ (List.mem_append_right _ (List.mem_append_right _ (List.mem_append_right _ (List.mem_append_right _ (List.mem_append_right _ (List.mem_append_right _ (List.mem_append_right _ (List.mem_append_right _ (List.mem_append_right _ (List.mem_append_right _ (List.mem_append_right _ (List.mem_append_right _ (List.mem_append_left _ h))))))))))))))))))))))
theorem tl_r23 : ∀ w ∈ wsL_law_r23, w ∈ wsL_law := fun w h => tl_all w (List.mem_append_right _ (List.mem_append_right _ (List.mem_append_right _ (List.mem_append_right _ (List.mem_append_right _ (List.mem_append_right _ (List.mem_append_right _ (List.mem_append_right _ (List.mem_append_right _ (List.mem_append_right _ (List.mem_append_right _ (List.mem_append_right _ (List.mem_append_right _ (List.mem_append_right _ (List.mem_append_right _ (List.mem_append_right _ (List.mem_append_right _ (List.mem_append_right _ (List.mem_append_right _ (List.mem_append_right _ (List.mem_append_right _ (List.mem_append_right _ (List.mem_append_left _ h)))))))))))))))))))))))
theorem tl_r24 : ∀ w ∈ wsL_law_r24, w ∈ wsL_law := fun w h => tl_all w (List.mem_append_right _ (List.mem_append_right _ (List.mem_append_right _ (List.mem_append_right _ (List.mem_append_right _ (List.mem_append_right _ (List.mem_append_right _ (List.mem_append_right _ (List.mem_append_right _ (List.mem_append_right _ (List.mem_append_right _ (List.mem_append_right _ (List.mem_append_right _ (List.mem_append_right _ (List.mem_append_right _ (List.mem_append_right _ (List.mem_append_right _ (List.mem_append_right _ (List.mem_append_right _ (List.mem_append_right _ (List.mem_append_right _ (List.mem_append_right _ (List.mem_append_right _ (List.mem_append_left _ h))))))))))))))))))))))))
theorem tl_r25 : ∀ w ∈ wsL_law_r25, w ∈ wsL_law := fun w h => tl_all w (List.mem_append_right _ (List.mem_append_right _ (List.mem_append_right _ (List.mem_append_right _ (List.mem_append_right _ (List.mem_append_right _ (List.mem_append_right _ (List.mem_append_right _ (List.mem_append_right _ (List.mem_append_right _ (List.mem_append_right _ (List.mem_append_right _ (List.mem_append_right _ (List.mem_append_right _ (List.mem_append_right _ (List.mem_append_right _ (List.mem_append_right _ (List.mem_append_right _ (List.mem_append_right _ (List.mem_append_right _ (List.mem_append_right _ (List.mem_append_right _ (List.mem_append_right _ (List.mem_append_right _ (List.mem_append_left _ h)))))))))))))))))))))))))
theorem tl_r26 : ∀ w ∈ wsL_law_r26, w ∈ wsL_law := fun w h => tl_all w (List.mem_append_right _ (List.mem_append_right _ (List.mem_append_right _ (List.mem_append_right _ (List.mem_append_right _ (List.mem_append_right _ (List.mem_append_right _ (List.mem_append_right _ (List.mem_append_right _ (List.mem_append_right _ (List.mem_append_right _ (List.mem_append_right _ (List.mem_append_right _ (List.mem_append_right _ (List.mem_append_right _ (List.mem_append_right _ (List.mem_append_right _ (List.mem_append_right _ (List.mem_append_right _ (List.mem_append_right _ (List.mem_append_right _ (List.mem_append_right _ (List.mem_append_right _ (List.mem_append_right _ (List.mem_append_right _ (List.mem_append_left _ h))))))))))))))))))))))))))
theorem tl_r27 : ∀ w ∈ wsL_law_r27, w ∈ wsL_law := fun w h => tl_all w (List.mem_append_right _ (List.mem_append_right _ (List.mem_append_right _ (List.mem_append_right _ (List.mem_append_right _ (List.mem_append_right _ (List.mem_append_right _ (List.mem_append_right _ (List.mem_append_right _ (List.mem_append_right _ (List.mem_append_right _ (List.mem_append_right _ (List.mem_append_right _ (List.mem_append_right _ (List.mem_append_right _ (List.mem_append_right _ (List.mem_append_right _ (List.mem_append_right _ (List.mem_append_right _ (List.mem_append_right _ (List.mem_append_right _ (List.mem_append_right _ (List.mem_append_right _ (List.mem_append_right _ (List.mem_append_right _ (List.mem_append_right _ (List.mem_append_left _ h)))))))))))))))))))))))))))
theorem tl_r28 : ∀ w ∈ wsL_law_r28, w ∈ wsL_law := fun w h => tl_all w (List.mem_append_right _ (List.mem_append_right _ (List.mem_append_right _ (List.mem_append_right _ (List.mem_append_right _ (List.mem_append_right _ (List.mem_append_right _ (List.mem_append_right _ (List.mem_append_right _ (List.mem_append_right _ (List.mem_append_right _ (List.mem_append_right _ (List.mem_append_right _ (List.mem_append_right _ (List.mem_append_right _ (List.mem_append_right _ (List.mem_append_right _ (List.mem_append_right _ (List.mem_append_right _ (List.mem_append_right _ (List.mem_append_right _ (List.mem_append_right _ (List.mem_append_right _ (List.mem_append_right _ (List.mem_append_right _ (List.mem_append_right _ (List.mem_append_right _ (h))))))))))))))))))))))))))))
set_option maxRecDepth 20000 in
theorem tl_good : wsL_law.all goodWord = true := by decide +kernel
theorem tl_good_in {w : Cond} (h : w ∈ wsL_law) : GoodIn wsL_law (w :: wsL_law) := fun v hv => (List.mem_cons.mp hv).elim (fun e => by subst e; exact ⟨h, good_of_word (List.all_eq_true.mp tl_good _ h)⟩) (fun hv => ⟨hv, good_of_word (List.all_eq_true.mp tl_good _ hv)⟩)
theorem tw_1_0 : (.classLink RL 7 RX6 : Cond) ∈ wsL_law := tl_r1 _ (List.mem_of_getElem? (i := 0) rfl)
theorem tw_1_1 : (.instantiable RX6 9 : Cond) ∈ wsL_law := tl_r1 _ (List.mem_of_getElem? (i := 1) rfl)
theorem tw_1_2 : (.initialized RX6 : Cond) ∈ wsL_law := tl_r1 _ (List.mem_of_getElem? (i := 2) rfl)
theorem tw_1_3 : (.classLink RL 18 RX7 : Cond) ∈ wsL_law := tl_r1 _ (List.mem_of_getElem? (i := 3) rfl)
theorem tw_1_4 : (.instantiable RX7 26 : Cond) ∈ wsL_law := tl_r1 _ (List.mem_of_getElem? (i := 4) rfl)
theorem tw_1_5 : (.initialized RX7 : Cond) ∈ wsL_law := tl_r1 _ (List.mem_of_getElem? (i := 5) rfl)
theorem tw_1_6 : (.methodLink RL 9 yL_cell : Cond) ∈ wsL_law := tl_r1 _ (List.mem_of_getElem? (i := 6) rfl)
theorem tw_1_7 : (.static yL_cell : Cond) ∈ wsL_law := tl_r1 _ (List.mem_of_getElem? (i := 7) rfl)
theorem tw_1_8 : (.initialized RL : Cond) ∈ wsL_law := tl_r1 _ (List.mem_of_getElem? (i := 8) rfl)
theorem tw_1_9 : (.code yL_cell cL_cell 2 (some .int) : Cond) ∈ wsL_law := tl_r1 _ (List.mem_of_getElem? (i := 9) rfl)
theorem tw_1_10 : (.methodLink RL 15 yX6_init : Cond) ∈ wsL_law := tl_r1 _ (List.mem_of_getElem? (i := 10) rfl)
theorem tw_1_11 : (.instanceMethod yX6_init : Cond) ∈ wsL_law := tl_r1 _ (List.mem_of_getElem? (i := 11) rfl)
theorem tw_1_12 : (.code yX6_init cX6_init 4 none : Cond) ∈ wsL_law := tl_r1 _ (List.mem_of_getElem? (i := 12) rfl)
theorem tw_1_13 : (.methodLink RX6 3 objectInit : Cond) ∈ wsL_law := tl_r1 _ (List.mem_of_getElem? (i := 13) rfl)
theorem tw_1_14 : (.instanceMethod objectInit : Cond) ∈ wsL_law := tl_r1 _ (List.mem_of_getElem? (i := 14) rfl)
theorem tw_1_15 : (.code objectInit ⟨#[0xb1]⟩ 1 none : Cond) ∈ wsL_law := tl_r1 _ (List.mem_of_getElem? (i := 15) rfl)
theorem tw_1_16 : (.classLink RX6 9 RJx4a65c : Cond) ∈ wsL_law := tl_r1 _ (List.mem_of_getElem? (i := 16) rfl)
theorem tw_1_17 : (.instantiable RJx4a65c 3 : Cond) ∈ wsL_law := tl_r1 _ (List.mem_of_getElem? (i := 17) rfl)
theorem tw_1_18 : (.initialized RJx4a65c : Cond) ∈ wsL_law := tl_r1 _ (List.mem_of_getElem? (i := 18) rfl)
theorem tw_1_19 : (.fieldLink RX6 12 "GlobeWorks" "coasts" "Ljava/util/ArrayList;" : Cond) ∈ wsL_law := tl_r1 _ (List.mem_of_getElem? (i := 19) rfl)
theorem tw_1_20 : (.fieldLink RX6 16 "GlobeWorks" "names" "Ljava/util/ArrayList;" : Cond) ∈ wsL_law := tl_r1 _ (List.mem_of_getElem? (i := 20) rfl)
theorem tw_1_21 : (.classLink RX6 19 RX4 : Cond) ∈ wsL_law := tl_r1 _ (List.mem_of_getElem? (i := 21) rfl)
theorem tw_1_22 : (.instantiable RX4 3 : Cond) ∈ wsL_law := tl_r1 _ (List.mem_of_getElem? (i := 22) rfl)
theorem tw_1_23 : (.initialized RX4 : Cond) ∈ wsL_law := tl_r1 _ (List.mem_of_getElem? (i := 23) rfl)
theorem tw_2_0 : (.fieldLink RX6 22 "GlobeWorks" "search" "LGlobeWorks$Search;" : Cond) ∈ wsL_law := tl_r2 _ (List.mem_of_getElem? (i := 0) rfl)
theorem tw_2_1 : (.fieldLink RX6 30 "GlobeWorks" "width" "I" : Cond) ∈ wsL_law := tl_r2 _ (List.mem_of_getElem? (i := 1) rfl)
theorem tw_2_2 : (.classLink RX6 34 RX1 : Cond) ∈ wsL_law := tl_r2 _ (List.mem_of_getElem? (i := 2) rfl)
theorem tw_2_3 : (.fieldLink RX6 36 "GlobeWorks" "gores" "[LGlobeWorks$Gore;" : Cond) ∈ wsL_law := tl_r2 _ (List.mem_of_getElem? (i := 3) rfl)
theorem tw_2_4 : (.instantiable RX1 5 : Cond) ∈ wsL_law := tl_r2 _ (List.mem_of_getElem? (i := 4) rfl)
theorem tw_2_5 : (.initialized RX1 : Cond) ∈ wsL_law := tl_r2 _ (List.mem_of_getElem? (i := 5) rfl)
theorem tw_2_6 : (.methodLink RX6 11 yJx4a65c_init_da8c8 : Cond) ∈ wsL_law := tl_r2 _ (List.mem_of_getElem? (i := 6) rfl)
theorem tw_2_7 : (.instanceMethod yJx4a65c_init_da8c8 : Cond) ∈ wsL_law := tl_r2 _ (List.mem_of_getElem? (i := 7) rfl)
theorem tw_2_8 : (.code yJx4a65c_init_da8c8 cJx4a65c_init_da8c8 1 none : Cond) ∈ wsL_law := tl_r2 _ (List.mem_of_getElem? (i := 8) rfl)
theorem tw_2_9 : (.fieldLink RJx4a65c 39 "java/util/ArrayList" "DEFAULTCAPACITY_EMPTY_ELEMENTDATA" "[Ljava/lang/Object;" : Cond) ∈ wsL_law := tl_r2 _ (List.mem_of_getElem? (i := 9) rfl)
theorem tw_2_10 : (.fieldLink RJx4a65c 9 "java/util/ArrayList" "elementData" "[Ljava/lang/Object;" : Cond) ∈ wsL_law := tl_r2 _ (List.mem_of_getElem? (i := 10) rfl)
theorem tw_2_11 : (.methodLink RJx4a65c 1 yJxc12de_init_da8c8 : Cond) ∈ wsL_law := tl_r2 _ (List.mem_of_getElem? (i := 11) rfl)
theorem tw_2_12 : (.instanceMethod yJxc12de_init_da8c8 : Cond) ∈ wsL_law := tl_r2 _ (List.mem_of_getElem? (i := 12) rfl)
theorem tw_2_13 : (.initialized RJxc12de : Cond) ∈ wsL_law := tl_r2 _ (List.mem_of_getElem? (i := 13) rfl)
theorem tw_2_14 : (.code yJxc12de_init_da8c8 cJxc12de_init_da8c8 1 none : Cond) ∈ wsL_law := tl_r2 _ (List.mem_of_getElem? (i := 14) rfl)
theorem tw_2_15 : (.fieldLink RJxc12de 7 "java/util/AbstractList" "modCount" "I" : Cond) ∈ wsL_law := tl_r2 _ (List.mem_of_getElem? (i := 15) rfl)
theorem tw_2_16 : (.methodLink RJxc12de 1 yJxa1e45_init_da8c8 : Cond) ∈ wsL_law := tl_r2 _ (List.mem_of_getElem? (i := 16) rfl)
theorem tw_2_17 : (.instanceMethod yJxa1e45_init_da8c8 : Cond) ∈ wsL_law := tl_r2 _ (List.mem_of_getElem? (i := 17) rfl)
theorem tw_2_18 : (.initialized RJxa1e45 : Cond) ∈ wsL_law := tl_r2 _ (List.mem_of_getElem? (i := 18) rfl)
theorem tw_2_19 : (.code yJxa1e45_init_da8c8 cJxa1e45_init_da8c8 1 none : Cond) ∈ wsL_law := tl_r2 _ (List.mem_of_getElem? (i := 19) rfl)
theorem tw_2_20 : (.methodLink RJxa1e45 1 objectInit : Cond) ∈ wsL_law := tl_r2 _ (List.mem_of_getElem? (i := 20) rfl)
theorem tw_2_21 : (.instanceMethod yX4_init : Cond) ∈ wsL_law := tl_r2 _ (List.mem_of_getElem? (i := 21) rfl)
theorem tw_2_22 : (.code yX4_init cX4_init 1 none : Cond) ∈ wsL_law := tl_r2 _ (List.mem_of_getElem? (i := 22) rfl)
theorem tw_2_23 : (.methodLink RX4 3 objectInit : Cond) ∈ wsL_law := tl_r2 _ (List.mem_of_getElem? (i := 23) rfl)
theorem tw_3_0 : (.arrayClass .int : Cond) ∈ wsL_law := tl_r3 _ (List.mem_of_getElem? (i := 0) rfl)
theorem tw_3_1 : (.fieldLink RX4 9 "GlobeWorks$Search" "trial" "[I" : Cond) ∈ wsL_law := tl_r3 _ (List.mem_of_getElem? (i := 1) rfl)
theorem tw_3_2 : (.fieldLink RX4 15 "GlobeWorks$Search" "best" "[I" : Cond) ∈ wsL_law := tl_r3 _ (List.mem_of_getElem? (i := 2) rfl)
theorem tw_3_3 : (.methodLink RX6 26 yX6_goreNumber : Cond) ∈ wsL_law := tl_r3 _ (List.mem_of_getElem? (i := 3) rfl)
theorem tw_3_4 : (.static yX6_goreNumber : Cond) ∈ wsL_law := tl_r3 _ (List.mem_of_getElem? (i := 4) rfl)
theorem tw_3_5 : (.code yX6_goreNumber cX6_goreNumber 3 (some .int) : Cond) ∈ wsL_law := tl_r3 _ (List.mem_of_getElem? (i := 5) rfl)
theorem tw_3_6 : (.fieldLink RX6 223 "GlobeWorks" "GORE_NUMBERS" "[I" : Cond) ∈ wsL_law := tl_r3 _ (List.mem_of_getElem? (i := 6) rfl)
theorem tw_3_7 : (.instanceMethod yX1_init : Cond) ∈ wsL_law := tl_r3 _ (List.mem_of_getElem? (i := 7) rfl)
theorem tw_3_8 : (.code yX1_init cX1_init 1 none : Cond) ∈ wsL_law := tl_r3 _ (List.mem_of_getElem? (i := 8) rfl)
theorem tw_3_9 : (.methodLink RX1 1 objectInit : Cond) ∈ wsL_law := tl_r3 _ (List.mem_of_getElem? (i := 9) rfl)
theorem tw_3_10 : (.classLink RX1 7 RJx4a65c : Cond) ∈ wsL_law := tl_r3 _ (List.mem_of_getElem? (i := 10) rfl)
theorem tw_3_11 : (.fieldLink RX1 10 "GlobeWorks$Gore" "pieces" "Ljava/util/ArrayList;" : Cond) ∈ wsL_law := tl_r3 _ (List.mem_of_getElem? (i := 11) rfl)
theorem tw_3_12 : (.fieldLink RX1 16 "GlobeWorks$Gore" "names" "Ljava/util/ArrayList;" : Cond) ∈ wsL_law := tl_r3 _ (List.mem_of_getElem? (i := 12) rfl)
theorem tw_3_13 : (.fieldLink RX1 19 "GlobeWorks$Gore" "isFresh" "Z" : Cond) ∈ wsL_law := tl_r3 _ (List.mem_of_getElem? (i := 13) rfl)
theorem tw_3_14 : (.methodLink RX1 9 yJx4a65c_init_da8c8 : Cond) ∈ wsL_law := tl_r3 _ (List.mem_of_getElem? (i := 14) rfl)
theorem tw_3_15 : (.methodLink RL 20 yX7_init : Cond) ∈ wsL_law := tl_r3 _ (List.mem_of_getElem? (i := 15) rfl)
theorem tw_3_16 : (.instanceMethod yX7_init : Cond) ∈ wsL_law := tl_r3 _ (List.mem_of_getElem? (i := 16) rfl)
theorem tw_3_17 : (.code yX7_init cX7_init 5 none : Cond) ∈ wsL_law := tl_r3 _ (List.mem_of_getElem? (i := 17) rfl)
theorem tw_3_18 : (.methodLink RX7 1 objectInit : Cond) ∈ wsL_law := tl_r3 _ (List.mem_of_getElem? (i := 18) rfl)
theorem tw_3_19 : (.fieldLink RX7 7 "GlobeWorksModel" "cos" "[I" : Cond) ∈ wsL_law := tl_r3 _ (List.mem_of_getElem? (i := 19) rfl)
theorem tw_3_20 : (.fieldLink RX7 13 "GlobeWorksModel" "coastAt" "[I" : Cond) ∈ wsL_law := tl_r3 _ (List.mem_of_getElem? (i := 20) rfl)
theorem tw_3_21 : (.fieldLink RX7 16 "GlobeWorksModel" "coastHigh" "[I" : Cond) ∈ wsL_law := tl_r3 _ (List.mem_of_getElem? (i := 21) rfl)
theorem tw_3_22 : (.fieldLink RX7 19 "GlobeWorksModel" "pieceGore" "[I" : Cond) ∈ wsL_law := tl_r3 _ (List.mem_of_getElem? (i := 22) rfl)
theorem tw_3_23 : (.fieldLink RX7 22 "GlobeWorksModel" "pieceCoast" "[I" : Cond) ∈ wsL_law := tl_r3 _ (List.mem_of_getElem? (i := 23) rfl)
theorem tw_4_0 : (.fieldLink RX7 25 "GlobeWorksModel" "pieceEnds" "[I" : Cond) ∈ wsL_law := tl_r4 _ (List.mem_of_getElem? (i := 0) rfl)
theorem tw_4_1 : (.arrayClass .boolean : Cond) ∈ wsL_law := tl_r4 _ (List.mem_of_getElem? (i := 1) rfl)
theorem tw_4_2 : (.fieldLink RX7 28 "GlobeWorksModel" "isThere" "[Z" : Cond) ∈ wsL_law := tl_r4 _ (List.mem_of_getElem? (i := 2) rfl)
theorem tw_4_3 : (.fieldLink RX7 32 "GlobeWorksModel" "nameGore" "[I" : Cond) ∈ wsL_law := tl_r4 _ (List.mem_of_getElem? (i := 3) rfl)
theorem tw_4_4 : (.fieldLink RX7 35 "GlobeWorksModel" "nameSide" "[I" : Cond) ∈ wsL_law := tl_r4 _ (List.mem_of_getElem? (i := 4) rfl)
theorem tw_4_5 : (.fieldLink RX7 38 "GlobeWorksModel" "nameHigh" "[I" : Cond) ∈ wsL_law := tl_r4 _ (List.mem_of_getElem? (i := 5) rfl)
theorem tw_4_6 : (.fieldLink RX7 41 "GlobeWorksModel" "letters" "[I" : Cond) ∈ wsL_law := tl_r4 _ (List.mem_of_getElem? (i := 6) rfl)
theorem tw_4_7 : (.fieldLink RX7 44 "GlobeWorksModel" "price" "[I" : Cond) ∈ wsL_law := tl_r4 _ (List.mem_of_getElem? (i := 7) rfl)
theorem tw_4_8 : (.fieldLink RX7 47 "GlobeWorksModel" "isFresh" "[Z" : Cond) ∈ wsL_law := tl_r4 _ (List.mem_of_getElem? (i := 8) rfl)
theorem tw_4_9 : (.fieldLink RX7 50 "GlobeWorksModel" "printedIn" "[I" : Cond) ∈ wsL_law := tl_r4 _ (List.mem_of_getElem? (i := 9) rfl)
theorem tw_4_10 : (.fieldLink RX7 53 "GlobeWorksModel" "here" "[I" : Cond) ∈ wsL_law := tl_r4 _ (List.mem_of_getElem? (i := 10) rfl)
theorem tw_4_11 : (.fieldLink RX7 56 "GlobeWorksModel" "ways" "[I" : Cond) ∈ wsL_law := tl_r4 _ (List.mem_of_getElem? (i := 11) rfl)
theorem tw_4_12 : (.fieldLink RX7 59 "GlobeWorksModel" "bestWays" "[I" : Cond) ∈ wsL_law := tl_r4 _ (List.mem_of_getElem? (i := 12) rfl)
theorem tw_4_13 : (.fieldLink RX7 62 "GlobeWorksModel" "gores" "I" : Cond) ∈ wsL_law := tl_r4 _ (List.mem_of_getElem? (i := 13) rfl)
theorem tw_4_14 : (.fieldLink RX7 66 "GlobeWorksModel" "wide" "I" : Cond) ∈ wsL_law := tl_r4 _ (List.mem_of_getElem? (i := 14) rfl)
theorem tw_4_15 : (.methodLink RL 21 yX6_narrow : Cond) ∈ wsL_law := tl_r4 _ (List.mem_of_getElem? (i := 15) rfl)
theorem tw_4_16 : (.instanceMethod yX6_narrow : Cond) ∈ wsL_law := tl_r4 _ (List.mem_of_getElem? (i := 16) rfl)
theorem tw_4_17 : (.selects RX6 yX6_narrow yX6_narrow : Cond) ∈ wsL_law := tl_r4 _ (List.mem_of_getElem? (i := 17) rfl)
theorem tw_4_18 : (.code yX6_narrow cX6_narrow 2 (some .int) : Cond) ∈ wsL_law := tl_r4 _ (List.mem_of_getElem? (i := 18) rfl)
theorem tw_4_19 : (.methodLink RX6 41 yX6_isHeight : Cond) ∈ wsL_law := tl_r4 _ (List.mem_of_getElem? (i := 19) rfl)
theorem tw_4_20 : (.static yX6_isHeight : Cond) ∈ wsL_law := tl_r4 _ (List.mem_of_getElem? (i := 20) rfl)
theorem tw_4_21 : (.code yX6_isHeight cX6_isHeight 1 (some .boolean) : Cond) ∈ wsL_law := tl_r4 _ (List.mem_of_getElem? (i := 21) rfl)
theorem tw_4_22 : (.methodLink RX6 45 yX6_narrowAt : Cond) ∈ wsL_law := tl_r4 _ (List.mem_of_getElem? (i := 22) rfl)
theorem tw_4_23 : (.static yX6_narrowAt : Cond) ∈ wsL_law := tl_r4 _ (List.mem_of_getElem? (i := 23) rfl)
theorem tw_5_0 : (.code yX6_narrowAt cX6_narrowAt 4 (some .int) : Cond) ∈ wsL_law := tl_r5 _ (List.mem_of_getElem? (i := 0) rfl)
theorem tw_5_1 : (.methodLink RX6 235 Lib.Math.abs.name : Cond) ∈ wsL_law := tl_r5 _ (List.mem_of_getElem? (i := 1) rfl)
theorem tw_5_2 : (.static Lib.Math.abs.name : Cond) ∈ wsL_law := tl_r5 _ (List.mem_of_getElem? (i := 2) rfl)
theorem tw_5_3 : (.initialized "java/lang/Math" : Cond) ∈ wsL_law := tl_r5 _ (List.mem_of_getElem? (i := 3) rfl)
theorem tw_5_4 : (.code Lib.Math.abs.name Lib.Math.abs.code 1 (some .int) : Cond) ∈ wsL_law := tl_r5 _ (List.mem_of_getElem? (i := 4) rfl)
theorem tw_5_5 : (.methodLink RX6 238 yX6_cosOf : Cond) ∈ wsL_law := tl_r5 _ (List.mem_of_getElem? (i := 5) rfl)
theorem tw_5_6 : (.static yX6_cosOf : Cond) ∈ wsL_law := tl_r5 _ (List.mem_of_getElem? (i := 6) rfl)
theorem tw_5_7 : (.code yX6_cosOf cX6_cosOf 1 (some .int) : Cond) ∈ wsL_law := tl_r5 _ (List.mem_of_getElem? (i := 7) rfl)
theorem tw_5_8 : (.fieldLink RX6 232 "GlobeWorks" "COS" "[I" : Cond) ∈ wsL_law := tl_r5 _ (List.mem_of_getElem? (i := 8) rfl)
theorem tw_5_9 : (.methodLink RL 25 yX7_narrow : Cond) ∈ wsL_law := tl_r5 _ (List.mem_of_getElem? (i := 9) rfl)
theorem tw_5_10 : (.instanceMethod yX7_narrow : Cond) ∈ wsL_law := tl_r5 _ (List.mem_of_getElem? (i := 10) rfl)
theorem tw_5_11 : (.selects RX7 yX7_narrow yX7_narrow : Cond) ∈ wsL_law := tl_r5 _ (List.mem_of_getElem? (i := 11) rfl)
theorem tw_5_12 : (.code yX7_narrow cX7_narrow 2 (some .int) : Cond) ∈ wsL_law := tl_r5 _ (List.mem_of_getElem? (i := 12) rfl)
theorem tw_5_13 : (.methodLink RX7 69 yX7_in : Cond) ∈ wsL_law := tl_r5 _ (List.mem_of_getElem? (i := 13) rfl)
theorem tw_5_14 : (.static yX7_in : Cond) ∈ wsL_law := tl_r5 _ (List.mem_of_getElem? (i := 14) rfl)
theorem tw_5_15 : (.code yX7_in cX7_in 3 (some .boolean) : Cond) ∈ wsL_law := tl_r5 _ (List.mem_of_getElem? (i := 15) rfl)
theorem tw_5_16 : (.methodLink RX7 73 yX7_narrowOf : Cond) ∈ wsL_law := tl_r5 _ (List.mem_of_getElem? (i := 16) rfl)
theorem tw_5_17 : (.instanceMethod yX7_narrowOf : Cond) ∈ wsL_law := tl_r5 _ (List.mem_of_getElem? (i := 17) rfl)
theorem tw_5_18 : (.selects RX7 yX7_narrowOf yX7_narrowOf : Cond) ∈ wsL_law := tl_r5 _ (List.mem_of_getElem? (i := 18) rfl)
theorem tw_5_19 : (.code yX7_narrowOf cX7_narrowOf 3 (some .int) : Cond) ∈ wsL_law := tl_r5 _ (List.mem_of_getElem? (i := 19) rfl)
theorem tw_5_20 : (.methodLink RL 26 yX6_across : Cond) ∈ wsL_law := tl_r5 _ (List.mem_of_getElem? (i := 20) rfl)
theorem tw_5_21 : (.instanceMethod yX6_across : Cond) ∈ wsL_law := tl_r5 _ (List.mem_of_getElem? (i := 21) rfl)
theorem tw_5_22 : (.selects RX6 yX6_across yX6_across : Cond) ∈ wsL_law := tl_r5 _ (List.mem_of_getElem? (i := 22) rfl)
theorem tw_5_23 : (.code yX6_across cX6_across 4 (some .int) : Cond) ∈ wsL_law := tl_r5 _ (List.mem_of_getElem? (i := 23) rfl)
theorem tw_6_0 : (.constant RX6 52 (-2147483648) : Cond) ∈ wsL_law := tl_r6 _ (List.mem_of_getElem? (i := 0) rfl)
theorem tw_6_1 : (.methodLink RX6 48 yX6_xOf : Cond) ∈ wsL_law := tl_r6 _ (List.mem_of_getElem? (i := 1) rfl)
theorem tw_6_2 : (.static yX6_xOf : Cond) ∈ wsL_law := tl_r6 _ (List.mem_of_getElem? (i := 2) rfl)
theorem tw_6_3 : (.code yX6_xOf cX6_xOf 2 (some .int) : Cond) ∈ wsL_law := tl_r6 _ (List.mem_of_getElem? (i := 3) rfl)
theorem tw_6_4 : (.methodLink RL 30 yX7_across : Cond) ∈ wsL_law := tl_r6 _ (List.mem_of_getElem? (i := 4) rfl)
theorem tw_6_5 : (.instanceMethod yX7_across : Cond) ∈ wsL_law := tl_r6 _ (List.mem_of_getElem? (i := 5) rfl)
theorem tw_6_6 : (.selects RX7 yX7_across yX7_across : Cond) ∈ wsL_law := tl_r6 _ (List.mem_of_getElem? (i := 6) rfl)
theorem tw_6_7 : (.code yX7_across cX7_across 3 (some .int) : Cond) ∈ wsL_law := tl_r6 _ (List.mem_of_getElem? (i := 7) rfl)
theorem tw_6_8 : (.constant RX7 81 (-2147483648) : Cond) ∈ wsL_law := tl_r6 _ (List.mem_of_getElem? (i := 8) rfl)
theorem tw_6_9 : (.methodLink RX7 77 yX7_acrossOf : Cond) ∈ wsL_law := tl_r6 _ (List.mem_of_getElem? (i := 9) rfl)
theorem tw_6_10 : (.instanceMethod yX7_acrossOf : Cond) ∈ wsL_law := tl_r6 _ (List.mem_of_getElem? (i := 10) rfl)
theorem tw_6_11 : (.selects RX7 yX7_acrossOf yX7_acrossOf : Cond) ∈ wsL_law := tl_r6 _ (List.mem_of_getElem? (i := 11) rfl)
theorem tw_6_12 : (.code yX7_acrossOf cX7_acrossOf 3 (some .int) : Cond) ∈ wsL_law := tl_r6 _ (List.mem_of_getElem? (i := 12) rfl)
theorem tw_6_13 : (.methodLink RL 31 yX6_coast : Cond) ∈ wsL_law := tl_r6 _ (List.mem_of_getElem? (i := 13) rfl)
theorem tw_6_14 : (.instanceMethod yX6_coast : Cond) ∈ wsL_law := tl_r6 _ (List.mem_of_getElem? (i := 14) rfl)
theorem tw_6_15 : (.selects RX6 yX6_coast yX6_coast : Cond) ∈ wsL_law := tl_r6 _ (List.mem_of_getElem? (i := 15) rfl)
theorem tw_6_16 : (.code yX6_coast cX6_coast 3 (some .int) : Cond) ∈ wsL_law := tl_r6 _ (List.mem_of_getElem? (i := 16) rfl)
theorem tw_6_17 : (.classLink RX6 61 RX0 : Cond) ∈ wsL_law := tl_r6 _ (List.mem_of_getElem? (i := 17) rfl)
theorem tw_6_18 : (.instantiable RX0 2 : Cond) ∈ wsL_law := tl_r6 _ (List.mem_of_getElem? (i := 18) rfl)
theorem tw_6_19 : (.initialized RX0 : Cond) ∈ wsL_law := tl_r6 _ (List.mem_of_getElem? (i := 19) rfl)
theorem tw_6_20 : (.methodLink RX6 53 yX6_isPlace : Cond) ∈ wsL_law := tl_r6 _ (List.mem_of_getElem? (i := 20) rfl)
theorem tw_6_21 : (.static yX6_isPlace : Cond) ∈ wsL_law := tl_r6 _ (List.mem_of_getElem? (i := 21) rfl)
theorem tw_6_22 : (.code yX6_isPlace cX6_isPlace 2 (some .boolean) : Cond) ∈ wsL_law := tl_r6 _ (List.mem_of_getElem? (i := 22) rfl)
theorem tw_6_23 : (.methodLink RX6 57 yJx4a65c_size_8abf5 : Cond) ∈ wsL_law := tl_r6 _ (List.mem_of_getElem? (i := 23) rfl)
theorem tw_7_0 : (.instanceMethod yJx4a65c_size_8abf5 : Cond) ∈ wsL_law := tl_r7 _ (List.mem_of_getElem? (i := 0) rfl)
theorem tw_7_1 : (.selects RJx4a65c yJx4a65c_size_8abf5 yJx4a65c_size_8abf5 : Cond) ∈ wsL_law := tl_r7 _ (List.mem_of_getElem? (i := 1) rfl)
theorem tw_7_2 : (.code yJx4a65c_size_8abf5 cJx4a65c_size_8abf5 1 (some .int) : Cond) ∈ wsL_law := tl_r7 _ (List.mem_of_getElem? (i := 2) rfl)
theorem tw_7_3 : (.fieldLink RJx4a65c 48 "java/util/ArrayList" "size" "I" : Cond) ∈ wsL_law := tl_r7 _ (List.mem_of_getElem? (i := 3) rfl)
theorem tw_7_4 : (.methodLink RX6 63 yX0_init : Cond) ∈ wsL_law := tl_r7 _ (List.mem_of_getElem? (i := 4) rfl)
theorem tw_7_5 : (.instanceMethod yX0_init : Cond) ∈ wsL_law := tl_r7 _ (List.mem_of_getElem? (i := 5) rfl)
theorem tw_7_6 : (.code yX0_init cX0_init 3 none : Cond) ∈ wsL_law := tl_r7 _ (List.mem_of_getElem? (i := 6) rfl)
theorem tw_7_7 : (.methodLink RX0 1 objectInit : Cond) ∈ wsL_law := tl_r7 _ (List.mem_of_getElem? (i := 7) rfl)
theorem tw_7_8 : (.fieldLink RX0 7 "GlobeWorks$Coast" "longitude" "I" : Cond) ∈ wsL_law := tl_r7 _ (List.mem_of_getElem? (i := 8) rfl)
theorem tw_7_9 : (.fieldLink RX0 13 "GlobeWorks$Coast" "latitude" "I" : Cond) ∈ wsL_law := tl_r7 _ (List.mem_of_getElem? (i := 9) rfl)
theorem tw_7_10 : (.methodLink RX6 66 yJx4a65c_add_9ea2d : Cond) ∈ wsL_law := tl_r7 _ (List.mem_of_getElem? (i := 10) rfl)
theorem tw_7_11 : (.instanceMethod yJx4a65c_add_9ea2d : Cond) ∈ wsL_law := tl_r7 _ (List.mem_of_getElem? (i := 11) rfl)
theorem tw_7_12 : (.selects RJx4a65c yJx4a65c_add_9ea2d yJx4a65c_add_9ea2d : Cond) ∈ wsL_law := tl_r7 _ (List.mem_of_getElem? (i := 12) rfl)
theorem tw_7_13 : (.code yJx4a65c_add_9ea2d cJx4a65c_add_9ea2d 2 (some .boolean) : Cond) ∈ wsL_law := tl_r7 _ (List.mem_of_getElem? (i := 13) rfl)
theorem tw_7_14 : (.fieldLink RJx4a65c 63 "java/util/ArrayList" "modCount" "I" : Cond) ∈ wsL_law := tl_r7 _ (List.mem_of_getElem? (i := 14) rfl)
theorem tw_7_15 : (.sameField "java/util/ArrayList" "java/util/AbstractList" "modCount" "I" : Cond) ∈ wsL_law := tl_r7 _ (List.mem_of_getElem? (i := 15) rfl)
theorem tw_7_16 : (.methodLink RJx4a65c 131 yJx4a65c_add_72be8 : Cond) ∈ wsL_law := tl_r7 _ (List.mem_of_getElem? (i := 16) rfl)
theorem tw_7_17 : (.instanceMethod yJx4a65c_add_72be8 : Cond) ∈ wsL_law := tl_r7 _ (List.mem_of_getElem? (i := 17) rfl)
theorem tw_7_18 : (.selects RJx4a65c yJx4a65c_add_72be8 yJx4a65c_add_72be8 : Cond) ∈ wsL_law := tl_r7 _ (List.mem_of_getElem? (i := 18) rfl)
theorem tw_7_19 : (.code yJx4a65c_add_72be8 cJx4a65c_add_72be8 4 none : Cond) ∈ wsL_law := tl_r7 _ (List.mem_of_getElem? (i := 19) rfl)
theorem tw_7_20 : (.methodLink RJx4a65c 129 yJx4a65c_grow_d5877 : Cond) ∈ wsL_law := tl_r7 _ (List.mem_of_getElem? (i := 20) rfl)
theorem tw_7_21 : (.instanceMethod yJx4a65c_grow_d5877 : Cond) ∈ wsL_law := tl_r7 _ (List.mem_of_getElem? (i := 21) rfl)
theorem tw_7_22 : (.selects RJx4a65c yJx4a65c_grow_d5877 yJx4a65c_grow_d5877 : Cond) ∈ wsL_law := tl_r7 _ (List.mem_of_getElem? (i := 22) rfl)
theorem tw_7_23 : (.code yJx4a65c_grow_d5877 cJx4a65c_grow_d5877 1 (some (.array (.object "java/lang/Object"))) : Cond) ∈ wsL_law := tl_r7 _ (List.mem_of_getElem? (i := 23) rfl)
theorem tw_8_0 : (.methodLink RJx4a65c 69 yJx4a65c_grow_92f84 : Cond) ∈ wsL_law := tl_r8 _ (List.mem_of_getElem? (i := 0) rfl)
theorem tw_8_1 : (.instanceMethod yJx4a65c_grow_92f84 : Cond) ∈ wsL_law := tl_r8 _ (List.mem_of_getElem? (i := 1) rfl)
theorem tw_8_2 : (.selects RJx4a65c yJx4a65c_grow_92f84 yJx4a65c_grow_92f84 : Cond) ∈ wsL_law := tl_r8 _ (List.mem_of_getElem? (i := 2) rfl)
theorem tw_8_3 : (.code yJx4a65c_grow_92f84 cJx4a65c_grow_92f84 4 (some (.array (.object "java/lang/Object"))) : Cond) ∈ wsL_law := tl_r8 _ (List.mem_of_getElem? (i := 3) rfl)
theorem tw_8_4 : (.methodLink RJx4a65c 79 Lib.Math.max.name : Cond) ∈ wsL_law := tl_r8 _ (List.mem_of_getElem? (i := 4) rfl)
theorem tw_8_5 : (.static Lib.Math.max.name : Cond) ∈ wsL_law := tl_r8 _ (List.mem_of_getElem? (i := 5) rfl)
theorem tw_8_6 : (.code Lib.Math.max.name Lib.Math.max.code 2 (some .int) : Cond) ∈ wsL_law := tl_r8 _ (List.mem_of_getElem? (i := 6) rfl)
theorem tw_8_7 : (.classLink RJx4a65c 7 "java/lang/Object" : Cond) ∈ wsL_law := tl_r8 _ (List.mem_of_getElem? (i := 7) rfl)
theorem tw_8_8 : (.methodLink RJx4a65c 73 yJ8_newLength_cabcc : Cond) ∈ wsL_law := tl_r8 _ (List.mem_of_getElem? (i := 8) rfl)
theorem tw_8_9 : (.static yJ8_newLength_cabcc : Cond) ∈ wsL_law := tl_r8 _ (List.mem_of_getElem? (i := 9) rfl)
theorem tw_8_10 : (.initialized RJ8 : Cond) ∈ wsL_law := tl_r8 _ (List.mem_of_getElem? (i := 10) rfl)
theorem tw_8_11 : (.code yJ8_newLength_cabcc cJ8_newLength_cabcc 4 (some .int) : Cond) ∈ wsL_law := tl_r8 _ (List.mem_of_getElem? (i := 11) rfl)
theorem tw_8_12 : (.methodLink RJ8 194 Lib.Math.max.name : Cond) ∈ wsL_law := tl_r8 _ (List.mem_of_getElem? (i := 12) rfl)
theorem tw_8_13 : (.constant RJ8 200 (2147483639) : Cond) ∈ wsL_law := tl_r8 _ (List.mem_of_getElem? (i := 13) rfl)
theorem tw_8_14 : (.methodLink RJ8 201 yJ8_hugeLength_7cf53 : Cond) ∈ wsL_law := tl_r8 _ (List.mem_of_getElem? (i := 14) rfl)
theorem tw_8_15 : (.static yJ8_hugeLength_7cf53 : Cond) ∈ wsL_law := tl_r8 _ (List.mem_of_getElem? (i := 15) rfl)
theorem tw_8_16 : (.code yJ8_hugeLength_7cf53 cJ8_hugeLength_7cf53 3 (some .int) : Cond) ∈ wsL_law := tl_r8 _ (List.mem_of_getElem? (i := 16) rfl)
theorem tw_8_17 : (.methodLink RJx4a65c 66 yJ7_copyOf_1904c : Cond) ∈ wsL_law := tl_r8 _ (List.mem_of_getElem? (i := 17) rfl)
theorem tw_8_18 : (.static yJ7_copyOf_1904c : Cond) ∈ wsL_law := tl_r8 _ (List.mem_of_getElem? (i := 18) rfl)
theorem tw_8_19 : (.initialized RJ7 : Cond) ∈ wsL_law := tl_r8 _ (List.mem_of_getElem? (i := 19) rfl)
theorem tw_8_20 : (.code yJ7_copyOf_1904c cJ7_copyOf_1904c 2 (some (.array (.object "java/lang/Object"))) : Cond) ∈ wsL_law := tl_r8 _ (List.mem_of_getElem? (i := 20) rfl)
theorem tw_8_21 : (.methodLink RJ7 86 ⟨"java/lang/Object", "getClass", "()Ljava/lang/Class;"⟩ : Cond) ∈ wsL_law := tl_r8 _ (List.mem_of_getElem? (i := 21) rfl)
theorem tw_8_22 : (.selects "[Ljava/lang/Object;" ⟨"java/lang/Object", "getClass", "()Ljava/lang/Class;"⟩ ⟨"java/lang/Object", "getClass", "()Ljava/lang/Class;"⟩ : Cond) ∈ wsL_law := tl_r8 _ (List.mem_of_getElem? (i := 22) rfl)
theorem tw_8_23 : (.instanceMethod ⟨"java/lang/Object", "getClass", "()Ljava/lang/Class;"⟩ : Cond) ∈ wsL_law := tl_r8 _ (List.mem_of_getElem? (i := 23) rfl)
theorem tw_9_0 : (.native ⟨"java/lang/Object", "getClass", "()Ljava/lang/Class;"⟩ : Cond) ∈ wsL_law := tl_r9 _ (List.mem_of_getElem? (i := 0) rfl)
theorem tw_9_1 : (.methodLink RJ7 300 yJ7_copyOf_6403c : Cond) ∈ wsL_law := tl_r9 _ (List.mem_of_getElem? (i := 1) rfl)
theorem tw_9_2 : (.static yJ7_copyOf_6403c : Cond) ∈ wsL_law := tl_r9 _ (List.mem_of_getElem? (i := 2) rfl)
theorem tw_9_3 : (.code yJ7_copyOf_6403c cJ7_copyOf_6403c 4 (some (.array (.object "java/lang/Object"))) : Cond) ∈ wsL_law := tl_r9 _ (List.mem_of_getElem? (i := 3) rfl)
theorem tw_9_4 : (.classLink RJ7 110 "[Ljava/lang/Object;" : Cond) ∈ wsL_law := tl_r9 _ (List.mem_of_getElem? (i := 4) rfl)
theorem tw_9_5 : (.classLink RJ7 2 "java/lang/Object" : Cond) ∈ wsL_law := tl_r9 _ (List.mem_of_getElem? (i := 5) rfl)
theorem tw_9_6 : (.methodLink RJ7 304 Lib.Math.min.name : Cond) ∈ wsL_law := tl_r9 _ (List.mem_of_getElem? (i := 6) rfl)
theorem tw_9_7 : (.static Lib.Math.min.name : Cond) ∈ wsL_law := tl_r9 _ (List.mem_of_getElem? (i := 7) rfl)
theorem tw_9_8 : (.code Lib.Math.min.name Lib.Math.min.code 2 (some .int) : Cond) ∈ wsL_law := tl_r9 _ (List.mem_of_getElem? (i := 8) rfl)
theorem tw_9_9 : (.methodLink RJ7 150 arraycopyName : Cond) ∈ wsL_law := tl_r9 _ (List.mem_of_getElem? (i := 9) rfl)
theorem tw_9_10 : (.native arraycopyName : Cond) ∈ wsL_law := tl_r9 _ (List.mem_of_getElem? (i := 10) rfl)
theorem tw_9_11 : (.static arraycopyName : Cond) ∈ wsL_law := tl_r9 _ (List.mem_of_getElem? (i := 11) rfl)
theorem tw_9_12 : (.initialized "java/lang/System" : Cond) ∈ wsL_law := tl_r9 _ (List.mem_of_getElem? (i := 12) rfl)
theorem tw_9_13 : (.methodLink RL 34 yX7_coast : Cond) ∈ wsL_law := tl_r9 _ (List.mem_of_getElem? (i := 13) rfl)
theorem tw_9_14 : (.instanceMethod yX7_coast : Cond) ∈ wsL_law := tl_r9 _ (List.mem_of_getElem? (i := 14) rfl)
theorem tw_9_15 : (.selects RX7 yX7_coast yX7_coast : Cond) ∈ wsL_law := tl_r9 _ (List.mem_of_getElem? (i := 15) rfl)
theorem tw_9_16 : (.code yX7_coast cX7_coast 3 (some .int) : Cond) ∈ wsL_law := tl_r9 _ (List.mem_of_getElem? (i := 16) rfl)
theorem tw_9_17 : (.fieldLink RX7 86 "GlobeWorksModel" "coasts" "I" : Cond) ∈ wsL_law := tl_r9 _ (List.mem_of_getElem? (i := 17) rfl)
theorem tw_9_18 : (.methodLink RX7 82 yX7_isPlace : Cond) ∈ wsL_law := tl_r9 _ (List.mem_of_getElem? (i := 18) rfl)
theorem tw_9_19 : (.static yX7_isPlace : Cond) ∈ wsL_law := tl_r9 _ (List.mem_of_getElem? (i := 19) rfl)
theorem tw_9_20 : (.code yX7_isPlace cX7_isPlace 2 (some .boolean) : Cond) ∈ wsL_law := tl_r9 _ (List.mem_of_getElem? (i := 20) rfl)
theorem tw_9_21 : (.methodLink RL 35 yX6_to : Cond) ∈ wsL_law := tl_r9 _ (List.mem_of_getElem? (i := 21) rfl)
theorem tw_9_22 : (.instanceMethod yX6_to : Cond) ∈ wsL_law := tl_r9 _ (List.mem_of_getElem? (i := 22) rfl)
theorem tw_9_23 : (.selects RX6 yX6_to yX6_to : Cond) ∈ wsL_law := tl_r9 _ (List.mem_of_getElem? (i := 23) rfl)
theorem tw_10_0 : (.code yX6_to cX6_to 7 (some .int) : Cond) ∈ wsL_law := tl_r10 _ (List.mem_of_getElem? (i := 0) rfl)
theorem tw_10_1 : (.classLink RX6 77 RX5 : Cond) ∈ wsL_law := tl_r10 _ (List.mem_of_getElem? (i := 1) rfl)
theorem tw_10_2 : (.instantiable RX5 5 : Cond) ∈ wsL_law := tl_r10 _ (List.mem_of_getElem? (i := 2) rfl)
theorem tw_10_3 : (.initialized RX5 : Cond) ∈ wsL_law := tl_r10 _ (List.mem_of_getElem? (i := 3) rfl)
theorem tw_10_4 : (.fieldLink RX6 82 "GlobeWorks$Step" "length" "I" : Cond) ∈ wsL_law := tl_r10 _ (List.mem_of_getElem? (i := 4) rfl)
theorem tw_10_5 : (.fieldLink RX6 89 "GlobeWorks" "pieceCount" "I" : Cond) ∈ wsL_law := tl_r10 _ (List.mem_of_getElem? (i := 5) rfl)
theorem tw_10_6 : (.fieldLink RX6 100 "GlobeWorks$Coast" "longitude" "I" : Cond) ∈ wsL_law := tl_r10 _ (List.mem_of_getElem? (i := 6) rfl)
theorem tw_10_7 : (.fieldLink RX6 103 "GlobeWorks$Coast" "latitude" "I" : Cond) ∈ wsL_law := tl_r10 _ (List.mem_of_getElem? (i := 7) rfl)
theorem tw_10_8 : (.methodLink RX6 70 yX6_coastOf : Cond) ∈ wsL_law := tl_r10 _ (List.mem_of_getElem? (i := 8) rfl)
theorem tw_10_9 : (.instanceMethod yX6_coastOf : Cond) ∈ wsL_law := tl_r10 _ (List.mem_of_getElem? (i := 9) rfl)
theorem tw_10_10 : (.selects RX6 yX6_coastOf yX6_coastOf : Cond) ∈ wsL_law := tl_r10 _ (List.mem_of_getElem? (i := 10) rfl)
theorem tw_10_11 : (.code yX6_coastOf cX6_coastOf 2 (some (.object "GlobeWorks$Coast")) : Cond) ∈ wsL_law := tl_r10 _ (List.mem_of_getElem? (i := 11) rfl)
theorem tw_10_12 : (.classLink RX6 61 "GlobeWorks$Coast" : Cond) ∈ wsL_law := tl_r10 _ (List.mem_of_getElem? (i := 12) rfl)
theorem tw_10_13 : (.methodLink RX6 113 yJx4a65c_get_915e3 : Cond) ∈ wsL_law := tl_r10 _ (List.mem_of_getElem? (i := 13) rfl)
theorem tw_10_14 : (.instanceMethod yJx4a65c_get_915e3 : Cond) ∈ wsL_law := tl_r10 _ (List.mem_of_getElem? (i := 14) rfl)
theorem tw_10_15 : (.selects RJx4a65c yJx4a65c_get_915e3 yJx4a65c_get_915e3 : Cond) ∈ wsL_law := tl_r10 _ (List.mem_of_getElem? (i := 15) rfl)
theorem tw_10_16 : (.code yJx4a65c_get_915e3 cJx4a65c_get_915e3 2 (some (.object "java/lang/Object")) : Cond) ∈ wsL_law := tl_r10 _ (List.mem_of_getElem? (i := 16) rfl)
theorem tw_10_17 : (.methodLink RJx4a65c 118 yJ15_checkIndex_7cf53 : Cond) ∈ wsL_law := tl_r10 _ (List.mem_of_getElem? (i := 17) rfl)
theorem tw_10_18 : (.static yJ15_checkIndex_7cf53 : Cond) ∈ wsL_law := tl_r10 _ (List.mem_of_getElem? (i := 18) rfl)
theorem tw_10_19 : (.initialized RJ15 : Cond) ∈ wsL_law := tl_r10 _ (List.mem_of_getElem? (i := 19) rfl)
theorem tw_10_20 : (.code yJ15_checkIndex_7cf53 cJ15_checkIndex_7cf53 2 (some .int) : Cond) ∈ wsL_law := tl_r10 _ (List.mem_of_getElem? (i := 20) rfl)
theorem tw_10_21 : (.methodLink RJ15 105 yJ3_checkIndex_8e157 : Cond) ∈ wsL_law := tl_r10 _ (List.mem_of_getElem? (i := 21) rfl)
theorem tw_10_22 : (.static yJ3_checkIndex_8e157 : Cond) ∈ wsL_law := tl_r10 _ (List.mem_of_getElem? (i := 22) rfl)
theorem tw_10_23 : (.initialized RJ3 : Cond) ∈ wsL_law := tl_r10 _ (List.mem_of_getElem? (i := 23) rfl)
theorem tw_11_0 : (.code yJ3_checkIndex_8e157 cJ3_checkIndex_8e157 3 (some .int) : Cond) ∈ wsL_law := tl_r11 _ (List.mem_of_getElem? (i := 0) rfl)
theorem tw_11_1 : (.methodLink RJx4a65c 123 yJx4a65c_elementData_915e3 : Cond) ∈ wsL_law := tl_r11 _ (List.mem_of_getElem? (i := 1) rfl)
theorem tw_11_2 : (.instanceMethod yJx4a65c_elementData_915e3 : Cond) ∈ wsL_law := tl_r11 _ (List.mem_of_getElem? (i := 2) rfl)
theorem tw_11_3 : (.selects RJx4a65c yJx4a65c_elementData_915e3 yJx4a65c_elementData_915e3 : Cond) ∈ wsL_law := tl_r11 _ (List.mem_of_getElem? (i := 3) rfl)
theorem tw_11_4 : (.code yJx4a65c_elementData_915e3 cJx4a65c_elementData_915e3 2 (some (.object "java/lang/Object")) : Cond) ∈ wsL_law := tl_r11 _ (List.mem_of_getElem? (i := 4) rfl)
theorem tw_11_5 : (.methodLink RX6 74 yX0_isAt : Cond) ∈ wsL_law := tl_r11 _ (List.mem_of_getElem? (i := 5) rfl)
theorem tw_11_6 : (.instanceMethod yX0_isAt : Cond) ∈ wsL_law := tl_r11 _ (List.mem_of_getElem? (i := 6) rfl)
theorem tw_11_7 : (.selects RX0 yX0_isAt yX0_isAt : Cond) ∈ wsL_law := tl_r11 _ (List.mem_of_getElem? (i := 7) rfl)
theorem tw_11_8 : (.code yX0_isAt cX0_isAt 3 (some .boolean) : Cond) ∈ wsL_law := tl_r11 _ (List.mem_of_getElem? (i := 8) rfl)
theorem tw_11_9 : (.methodLink RX6 79 yX5_init : Cond) ∈ wsL_law := tl_r11 _ (List.mem_of_getElem? (i := 9) rfl)
theorem tw_11_10 : (.instanceMethod yX5_init : Cond) ∈ wsL_law := tl_r11 _ (List.mem_of_getElem? (i := 10) rfl)
theorem tw_11_11 : (.code yX5_init cX5_init 5 none : Cond) ∈ wsL_law := tl_r11 _ (List.mem_of_getElem? (i := 11) rfl)
theorem tw_11_12 : (.methodLink RX5 3 objectInit : Cond) ∈ wsL_law := tl_r11 _ (List.mem_of_getElem? (i := 12) rfl)
theorem tw_11_13 : (.fieldLink RX5 9 "GlobeWorks$Coast" "longitude" "I" : Cond) ∈ wsL_law := tl_r11 _ (List.mem_of_getElem? (i := 13) rfl)
theorem tw_11_14 : (.fieldLink RX5 15 "GlobeWorks$Step" "longitude" "I" : Cond) ∈ wsL_law := tl_r11 _ (List.mem_of_getElem? (i := 14) rfl)
theorem tw_11_15 : (.fieldLink RX5 18 "GlobeWorks$Coast" "latitude" "I" : Cond) ∈ wsL_law := tl_r11 _ (List.mem_of_getElem? (i := 15) rfl)
theorem tw_11_16 : (.fieldLink RX5 21 "GlobeWorks$Step" "height" "I" : Cond) ∈ wsL_law := tl_r11 _ (List.mem_of_getElem? (i := 16) rfl)
theorem tw_11_17 : (.fieldLink RX5 24 "GlobeWorks$Step" "rise" "I" : Cond) ∈ wsL_law := tl_r11 _ (List.mem_of_getElem? (i := 17) rfl)
theorem tw_11_18 : (.fieldLink RX5 33 "GlobeWorks$Step" "direction" "I" : Cond) ∈ wsL_law := tl_r11 _ (List.mem_of_getElem? (i := 18) rfl)
theorem tw_11_19 : (.methodLink RX5 36 Lib.Math.min.name : Cond) ∈ wsL_law := tl_r11 _ (List.mem_of_getElem? (i := 19) rfl)
theorem tw_11_20 : (.fieldLink RX5 39 "GlobeWorks$Step" "length" "I" : Cond) ∈ wsL_law := tl_r11 _ (List.mem_of_getElem? (i := 20) rfl)
theorem tw_11_21 : (.methodLink RX5 27 yJ9_floorMod_7cf53 : Cond) ∈ wsL_law := tl_r11 _ (List.mem_of_getElem? (i := 21) rfl)
theorem tw_11_22 : (.static yJ9_floorMod_7cf53 : Cond) ∈ wsL_law := tl_r11 _ (List.mem_of_getElem? (i := 22) rfl)
theorem tw_11_23 : (.initialized RJ9 : Cond) ∈ wsL_law := tl_r11 _ (List.mem_of_getElem? (i := 23) rfl)
theorem tw_12_0 : (.code yJ9_floorMod_7cf53 cJ9_floorMod_7cf53 3 (some .int) : Cond) ∈ wsL_law := tl_r12 _ (List.mem_of_getElem? (i := 0) rfl)
theorem tw_12_1 : (.methodLink RX6 85 yX6_piecesOf : Cond) ∈ wsL_law := tl_r12 _ (List.mem_of_getElem? (i := 1) rfl)
theorem tw_12_2 : (.instanceMethod yX6_piecesOf : Cond) ∈ wsL_law := tl_r12 _ (List.mem_of_getElem? (i := 2) rfl)
theorem tw_12_3 : (.selects RX6 yX6_piecesOf yX6_piecesOf : Cond) ∈ wsL_law := tl_r12 _ (List.mem_of_getElem? (i := 3) rfl)
theorem tw_12_4 : (.code yX6_piecesOf cX6_piecesOf 3 (some .int) : Cond) ∈ wsL_law := tl_r12 _ (List.mem_of_getElem? (i := 4) rfl)
theorem tw_12_5 : (.methodLink RX6 248 yX6_goneFromEdge : Cond) ∈ wsL_law := tl_r12 _ (List.mem_of_getElem? (i := 5) rfl)
theorem tw_12_6 : (.instanceMethod yX6_goneFromEdge : Cond) ∈ wsL_law := tl_r12 _ (List.mem_of_getElem? (i := 6) rfl)
theorem tw_12_7 : (.selects RX6 yX6_goneFromEdge yX6_goneFromEdge : Cond) ∈ wsL_law := tl_r12 _ (List.mem_of_getElem? (i := 7) rfl)
theorem tw_12_8 : (.code yX6_goneFromEdge cX6_goneFromEdge 2 (some .int) : Cond) ∈ wsL_law := tl_r12 _ (List.mem_of_getElem? (i := 8) rfl)
theorem tw_12_9 : (.fieldLink RX6 244 "GlobeWorks$Step" "direction" "I" : Cond) ∈ wsL_law := tl_r12 _ (List.mem_of_getElem? (i := 9) rfl)
theorem tw_12_10 : (.fieldLink RX6 247 "GlobeWorks$Step" "longitude" "I" : Cond) ∈ wsL_law := tl_r12 _ (List.mem_of_getElem? (i := 10) rfl)
theorem tw_12_11 : (.methodLink RX6 241 yJ9_floorMod_7cf53 : Cond) ∈ wsL_law := tl_r12 _ (List.mem_of_getElem? (i := 11) rfl)
theorem tw_12_12 : (.methodLink RX6 92 yX6_cutUpright : Cond) ∈ wsL_law := tl_r12 _ (List.mem_of_getElem? (i := 12) rfl)
theorem tw_12_13 : (.instanceMethod yX6_cutUpright : Cond) ∈ wsL_law := tl_r12 _ (List.mem_of_getElem? (i := 13) rfl)
theorem tw_12_14 : (.selects RX6 yX6_cutUpright yX6_cutUpright : Cond) ∈ wsL_law := tl_r12 _ (List.mem_of_getElem? (i := 14) rfl)
theorem tw_12_15 : (.code yX6_cutUpright cX6_cutUpright 4 none : Cond) ∈ wsL_law := tl_r12 _ (List.mem_of_getElem? (i := 15) rfl)
theorem tw_12_16 : (.methodLink RX6 251 yX6_layUpright : Cond) ∈ wsL_law := tl_r12 _ (List.mem_of_getElem? (i := 16) rfl)
theorem tw_12_17 : (.instanceMethod yX6_layUpright : Cond) ∈ wsL_law := tl_r12 _ (List.mem_of_getElem? (i := 17) rfl)
theorem tw_12_18 : (.selects RX6 yX6_layUpright yX6_layUpright : Cond) ∈ wsL_law := tl_r12 _ (List.mem_of_getElem? (i := 18) rfl)
theorem tw_12_19 : (.code yX6_layUpright cX6_layUpright 5 none : Cond) ∈ wsL_law := tl_r12 _ (List.mem_of_getElem? (i := 19) rfl)
theorem tw_12_20 : (.classLink RX6 117 RX3 : Cond) ∈ wsL_law := tl_r12 _ (List.mem_of_getElem? (i := 20) rfl)
theorem tw_12_21 : (.instantiable RX3 5 : Cond) ∈ wsL_law := tl_r12 _ (List.mem_of_getElem? (i := 21) rfl)
theorem tw_12_22 : (.initialized RX3 : Cond) ∈ wsL_law := tl_r12 _ (List.mem_of_getElem? (i := 22) rfl)
theorem tw_12_23 : (.fieldLink RX6 254 "GlobeWorks$Step" "height" "I" : Cond) ∈ wsL_law := tl_r12 _ (List.mem_of_getElem? (i := 23) rfl)
theorem tw_13_0 : (.fieldLink RX6 255 "GlobeWorks$Step" "rise" "I" : Cond) ∈ wsL_law := tl_r13 _ (List.mem_of_getElem? (i := 0) rfl)
theorem tw_13_1 : (.methodLink RX6 157 yX6_sideOf : Cond) ∈ wsL_law := tl_r13 _ (List.mem_of_getElem? (i := 1) rfl)
theorem tw_13_2 : (.instanceMethod yX6_sideOf : Cond) ∈ wsL_law := tl_r13 _ (List.mem_of_getElem? (i := 2) rfl)
theorem tw_13_3 : (.selects RX6 yX6_sideOf yX6_sideOf : Cond) ∈ wsL_law := tl_r13 _ (List.mem_of_getElem? (i := 3) rfl)
theorem tw_13_4 : (.code yX6_sideOf cX6_sideOf 3 (some .int) : Cond) ∈ wsL_law := tl_r13 _ (List.mem_of_getElem? (i := 4) rfl)
theorem tw_13_5 : (.methodLink RX6 258 yX3_init : Cond) ∈ wsL_law := tl_r13 _ (List.mem_of_getElem? (i := 5) rfl)
theorem tw_13_6 : (.instanceMethod yX3_init : Cond) ∈ wsL_law := tl_r13 _ (List.mem_of_getElem? (i := 6) rfl)
theorem tw_13_7 : (.code yX3_init cX3_init 6 none : Cond) ∈ wsL_law := tl_r13 _ (List.mem_of_getElem? (i := 7) rfl)
theorem tw_13_8 : (.methodLink RX3 1 objectInit : Cond) ∈ wsL_law := tl_r13 _ (List.mem_of_getElem? (i := 8) rfl)
theorem tw_13_9 : (.fieldLink RX3 7 "GlobeWorks$Piece" "coast" "I" : Cond) ∈ wsL_law := tl_r13 _ (List.mem_of_getElem? (i := 9) rfl)
theorem tw_13_10 : (.fieldLink RX3 13 "GlobeWorks$Piece" "beginSide" "I" : Cond) ∈ wsL_law := tl_r13 _ (List.mem_of_getElem? (i := 10) rfl)
theorem tw_13_11 : (.fieldLink RX3 16 "GlobeWorks$Piece" "beginHeight" "I" : Cond) ∈ wsL_law := tl_r13 _ (List.mem_of_getElem? (i := 11) rfl)
theorem tw_13_12 : (.fieldLink RX3 19 "GlobeWorks$Piece" "endSide" "I" : Cond) ∈ wsL_law := tl_r13 _ (List.mem_of_getElem? (i := 12) rfl)
theorem tw_13_13 : (.fieldLink RX3 22 "GlobeWorks$Piece" "endHeight" "I" : Cond) ∈ wsL_law := tl_r13 _ (List.mem_of_getElem? (i := 13) rfl)
theorem tw_13_14 : (.methodLink RX6 261 yX6_lay : Cond) ∈ wsL_law := tl_r13 _ (List.mem_of_getElem? (i := 14) rfl)
theorem tw_13_15 : (.instanceMethod yX6_lay : Cond) ∈ wsL_law := tl_r13 _ (List.mem_of_getElem? (i := 15) rfl)
theorem tw_13_16 : (.selects RX6 yX6_lay yX6_lay : Cond) ∈ wsL_law := tl_r13 _ (List.mem_of_getElem? (i := 16) rfl)
theorem tw_13_17 : (.code yX6_lay cX6_lay 4 none : Cond) ∈ wsL_law := tl_r13 _ (List.mem_of_getElem? (i := 17) rfl)
theorem tw_13_18 : (.fieldLink RX6 110 "GlobeWorks$Gore" "pieces" "Ljava/util/ArrayList;" : Cond) ∈ wsL_law := tl_r13 _ (List.mem_of_getElem? (i := 18) rfl)
theorem tw_13_19 : (.fieldLink RX6 143 "GlobeWorks$Gore" "isFresh" "Z" : Cond) ∈ wsL_law := tl_r13 _ (List.mem_of_getElem? (i := 19) rfl)
theorem tw_13_20 : (.methodLink RX6 106 yX6_goreOf : Cond) ∈ wsL_law := tl_r13 _ (List.mem_of_getElem? (i := 20) rfl)
theorem tw_13_21 : (.instanceMethod yX6_goreOf : Cond) ∈ wsL_law := tl_r13 _ (List.mem_of_getElem? (i := 21) rfl)
theorem tw_13_22 : (.selects RX6 yX6_goreOf yX6_goreOf : Cond) ∈ wsL_law := tl_r13 _ (List.mem_of_getElem? (i := 22) rfl)
theorem tw_13_23 : (.code yX6_goreOf cX6_goreOf 2 (some (.object "GlobeWorks$Gore")) : Cond) ∈ wsL_law := tl_r13 _ (List.mem_of_getElem? (i := 23) rfl)
theorem tw_14_0 : (.methodLink RX6 96 yX6_cutSlanting : Cond) ∈ wsL_law := tl_r14 _ (List.mem_of_getElem? (i := 0) rfl)
theorem tw_14_1 : (.instanceMethod yX6_cutSlanting : Cond) ∈ wsL_law := tl_r14 _ (List.mem_of_getElem? (i := 1) rfl)
theorem tw_14_2 : (.selects RX6 yX6_cutSlanting yX6_cutSlanting : Cond) ∈ wsL_law := tl_r14 _ (List.mem_of_getElem? (i := 2) rfl)
theorem tw_14_3 : (.code yX6_cutSlanting cX6_cutSlanting 10 none : Cond) ∈ wsL_law := tl_r14 _ (List.mem_of_getElem? (i := 3) rfl)
theorem tw_14_4 : (.methodLink RX6 265 Lib.Math.max.name : Cond) ∈ wsL_law := tl_r14 _ (List.mem_of_getElem? (i := 4) rfl)
theorem tw_14_5 : (.methodLink RX6 268 Lib.Math.min.name : Cond) ∈ wsL_law := tl_r14 _ (List.mem_of_getElem? (i := 5) rfl)
theorem tw_14_6 : (.methodLink RX6 227 yJ9_floorDiv_7cf53 : Cond) ∈ wsL_law := tl_r14 _ (List.mem_of_getElem? (i := 6) rfl)
theorem tw_14_7 : (.static yJ9_floorDiv_7cf53 : Cond) ∈ wsL_law := tl_r14 _ (List.mem_of_getElem? (i := 7) rfl)
theorem tw_14_8 : (.code yJ9_floorDiv_7cf53 cJ9_floorDiv_7cf53 3 (some .int) : Cond) ∈ wsL_law := tl_r14 _ (List.mem_of_getElem? (i := 8) rfl)
theorem tw_14_9 : (.methodLink RX6 271 yX5_longitudeAt : Cond) ∈ wsL_law := tl_r14 _ (List.mem_of_getElem? (i := 9) rfl)
theorem tw_14_10 : (.instanceMethod yX5_longitudeAt : Cond) ∈ wsL_law := tl_r14 _ (List.mem_of_getElem? (i := 10) rfl)
theorem tw_14_11 : (.selects RX5 yX5_longitudeAt yX5_longitudeAt : Cond) ∈ wsL_law := tl_r14 _ (List.mem_of_getElem? (i := 11) rfl)
theorem tw_14_12 : (.code yX5_longitudeAt cX5_longitudeAt 2 (some .int) : Cond) ∈ wsL_law := tl_r14 _ (List.mem_of_getElem? (i := 12) rfl)
theorem tw_14_13 : (.methodLink RX6 274 yX5_heightAt : Cond) ∈ wsL_law := tl_r14 _ (List.mem_of_getElem? (i := 13) rfl)
theorem tw_14_14 : (.instanceMethod yX5_heightAt : Cond) ∈ wsL_law := tl_r14 _ (List.mem_of_getElem? (i := 14) rfl)
theorem tw_14_15 : (.selects RX5 yX5_heightAt yX5_heightAt : Cond) ∈ wsL_law := tl_r14 _ (List.mem_of_getElem? (i := 15) rfl)
theorem tw_14_16 : (.code yX5_heightAt cX5_heightAt 2 (some .int) : Cond) ∈ wsL_law := tl_r14 _ (List.mem_of_getElem? (i := 16) rfl)
theorem tw_14_17 : (.static yX6_roundBy : Cond) ∈ wsL_law := tl_r14 _ (List.mem_of_getElem? (i := 17) rfl)
theorem tw_14_18 : (.code yX6_roundBy cX6_roundBy 2 (some .int) : Cond) ∈ wsL_law := tl_r14 _ (List.mem_of_getElem? (i := 18) rfl)
theorem tw_14_19 : (.methodLink RL 39 yX7_to : Cond) ∈ wsL_law := tl_r14 _ (List.mem_of_getElem? (i := 19) rfl)
theorem tw_14_20 : (.instanceMethod yX7_to : Cond) ∈ wsL_law := tl_r14 _ (List.mem_of_getElem? (i := 20) rfl)
theorem tw_14_21 : (.selects RX7 yX7_to yX7_to : Cond) ∈ wsL_law := tl_r14 _ (List.mem_of_getElem? (i := 21) rfl)
theorem tw_14_22 : (.code yX7_to cX7_to 9 (some .int) : Cond) ∈ wsL_law := tl_r14 _ (List.mem_of_getElem? (i := 22) rfl)
theorem tw_14_23 : (.fieldLink RX7 92 "GlobeWorksModel" "pieces" "I" : Cond) ∈ wsL_law := tl_r14 _ (List.mem_of_getElem? (i := 23) rfl)
theorem tw_15_0 : (.methodLink RX7 99 yX7_parts : Cond) ∈ wsL_law := tl_r15 _ (List.mem_of_getElem? (i := 0) rfl)
theorem tw_15_1 : (.instanceMethod yX7_parts : Cond) ∈ wsL_law := tl_r15 _ (List.mem_of_getElem? (i := 1) rfl)
theorem tw_15_2 : (.selects RX7 yX7_parts yX7_parts : Cond) ∈ wsL_law := tl_r15 _ (List.mem_of_getElem? (i := 2) rfl)
theorem tw_15_3 : (.code yX7_parts cX7_parts 6 (some .int) : Cond) ∈ wsL_law := tl_r15 _ (List.mem_of_getElem? (i := 3) rfl)
theorem tw_15_4 : (.methodLink RX7 95 yX7_isEdge : Cond) ∈ wsL_law := tl_r15 _ (List.mem_of_getElem? (i := 4) rfl)
theorem tw_15_5 : (.instanceMethod yX7_isEdge : Cond) ∈ wsL_law := tl_r15 _ (List.mem_of_getElem? (i := 5) rfl)
theorem tw_15_6 : (.selects RX7 yX7_isEdge yX7_isEdge : Cond) ∈ wsL_law := tl_r15 _ (List.mem_of_getElem? (i := 6) rfl)
theorem tw_15_7 : (.code yX7_isEdge cX7_isEdge 2 (some .boolean) : Cond) ∈ wsL_law := tl_r15 _ (List.mem_of_getElem? (i := 7) rfl)
theorem tw_15_8 : (.methodLink RX7 102 yX7_stays : Cond) ∈ wsL_law := tl_r15 _ (List.mem_of_getElem? (i := 8) rfl)
theorem tw_15_9 : (.instanceMethod yX7_stays : Cond) ∈ wsL_law := tl_r15 _ (List.mem_of_getElem? (i := 9) rfl)
theorem tw_15_10 : (.selects RX7 yX7_stays yX7_stays : Cond) ∈ wsL_law := tl_r15 _ (List.mem_of_getElem? (i := 10) rfl)
theorem tw_15_11 : (.code yX7_stays cX7_stays 7 none : Cond) ∈ wsL_law := tl_r15 _ (List.mem_of_getElem? (i := 11) rfl)
theorem tw_15_12 : (.methodLink RX7 110 yX7_adds : Cond) ∈ wsL_law := tl_r15 _ (List.mem_of_getElem? (i := 12) rfl)
theorem tw_15_13 : (.instanceMethod yX7_adds : Cond) ∈ wsL_law := tl_r15 _ (List.mem_of_getElem? (i := 13) rfl)
theorem tw_15_14 : (.selects RX7 yX7_adds yX7_adds : Cond) ∈ wsL_law := tl_r15 _ (List.mem_of_getElem? (i := 14) rfl)
theorem tw_15_15 : (.code yX7_adds cX7_adds 7 none : Cond) ∈ wsL_law := tl_r15 _ (List.mem_of_getElem? (i := 15) rfl)
theorem tw_15_16 : (.methodLink RX7 106 yX7_goes : Cond) ∈ wsL_law := tl_r15 _ (List.mem_of_getElem? (i := 16) rfl)
theorem tw_15_17 : (.instanceMethod yX7_goes : Cond) ∈ wsL_law := tl_r15 _ (List.mem_of_getElem? (i := 17) rfl)
theorem tw_15_18 : (.selects RX7 yX7_goes yX7_goes : Cond) ∈ wsL_law := tl_r15 _ (List.mem_of_getElem? (i := 18) rfl)
theorem tw_15_19 : (.code yX7_goes cX7_goes 15 none : Cond) ∈ wsL_law := tl_r15 _ (List.mem_of_getElem? (i := 19) rfl)
theorem tw_15_20 : (.methodLink RX7 114 yX7_sideWest : Cond) ∈ wsL_law := tl_r15 _ (List.mem_of_getElem? (i := 20) rfl)
theorem tw_15_21 : (.instanceMethod yX7_sideWest : Cond) ∈ wsL_law := tl_r15 _ (List.mem_of_getElem? (i := 21) rfl)
theorem tw_15_22 : (.selects RX7 yX7_sideWest yX7_sideWest : Cond) ∈ wsL_law := tl_r15 _ (List.mem_of_getElem? (i := 22) rfl)
theorem tw_15_23 : (.code yX7_sideWest cX7_sideWest 3 (some .int) : Cond) ∈ wsL_law := tl_r15 _ (List.mem_of_getElem? (i := 23) rfl)
theorem tw_16_0 : (.methodLink RX7 117 yX7_heightAt : Cond) ∈ wsL_law := tl_r16 _ (List.mem_of_getElem? (i := 0) rfl)
theorem tw_16_1 : (.static yX7_heightAt : Cond) ∈ wsL_law := tl_r16 _ (List.mem_of_getElem? (i := 1) rfl)
theorem tw_16_2 : (.code yX7_heightAt cX7_heightAt 4 (some .int) : Cond) ∈ wsL_law := tl_r16 _ (List.mem_of_getElem? (i := 2) rfl)
theorem tw_16_3 : (.methodLink RX7 89 yX7_round : Cond) ∈ wsL_law := tl_r16 _ (List.mem_of_getElem? (i := 3) rfl)
theorem tw_16_4 : (.static yX7_round : Cond) ∈ wsL_law := tl_r16 _ (List.mem_of_getElem? (i := 4) rfl)
theorem tw_16_5 : (.code yX7_round cX7_round 5 (some .int) : Cond) ∈ wsL_law := tl_r16 _ (List.mem_of_getElem? (i := 5) rfl)
theorem tw_16_6 : (.methodLink RL 40 yX6_pieces : Cond) ∈ wsL_law := tl_r16 _ (List.mem_of_getElem? (i := 6) rfl)
theorem tw_16_7 : (.instanceMethod yX6_pieces : Cond) ∈ wsL_law := tl_r16 _ (List.mem_of_getElem? (i := 7) rfl)
theorem tw_16_8 : (.selects RX6 yX6_pieces yX6_pieces : Cond) ∈ wsL_law := tl_r16 _ (List.mem_of_getElem? (i := 8) rfl)
theorem tw_16_9 : (.code yX6_pieces cX6_pieces 3 (some .int) : Cond) ∈ wsL_law := tl_r16 _ (List.mem_of_getElem? (i := 9) rfl)
theorem tw_16_10 : (.methodLink RL 43 yX7_pieces : Cond) ∈ wsL_law := tl_r16 _ (List.mem_of_getElem? (i := 10) rfl)
theorem tw_16_11 : (.instanceMethod yX7_pieces : Cond) ∈ wsL_law := tl_r16 _ (List.mem_of_getElem? (i := 11) rfl)
theorem tw_16_12 : (.selects RX7 yX7_pieces yX7_pieces : Cond) ∈ wsL_law := tl_r16 _ (List.mem_of_getElem? (i := 12) rfl)
theorem tw_16_13 : (.code yX7_pieces cX7_pieces 4 (some .int) : Cond) ∈ wsL_law := tl_r16 _ (List.mem_of_getElem? (i := 13) rfl)
theorem tw_16_14 : (.methodLink RX7 121 yX7_isGore : Cond) ∈ wsL_law := tl_r16 _ (List.mem_of_getElem? (i := 14) rfl)
theorem tw_16_15 : (.instanceMethod yX7_isGore : Cond) ∈ wsL_law := tl_r16 _ (List.mem_of_getElem? (i := 15) rfl)
theorem tw_16_16 : (.selects RX7 yX7_isGore yX7_isGore : Cond) ∈ wsL_law := tl_r16 _ (List.mem_of_getElem? (i := 16) rfl)
theorem tw_16_17 : (.code yX7_isGore cX7_isGore 2 (some .boolean) : Cond) ∈ wsL_law := tl_r16 _ (List.mem_of_getElem? (i := 17) rfl)
theorem tw_16_18 : (.methodLink RL 44 yX6_piece : Cond) ∈ wsL_law := tl_r16 _ (List.mem_of_getElem? (i := 18) rfl)
theorem tw_16_19 : (.instanceMethod yX6_piece : Cond) ∈ wsL_law := tl_r16 _ (List.mem_of_getElem? (i := 19) rfl)
theorem tw_16_20 : (.selects RX6 yX6_piece yX6_piece : Cond) ∈ wsL_law := tl_r16 _ (List.mem_of_getElem? (i := 20) rfl)
theorem tw_16_21 : (.code yX6_piece cX6_piece 6 (some .int) : Cond) ∈ wsL_law := tl_r16 _ (List.mem_of_getElem? (i := 21) rfl)
theorem tw_16_22 : (.classLink RX6 117 "GlobeWorks$Piece" : Cond) ∈ wsL_law := tl_r16 _ (List.mem_of_getElem? (i := 22) rfl)
theorem tw_16_23 : (.fieldLink RX6 119 "GlobeWorks$Piece" "coast" "I" : Cond) ∈ wsL_law := tl_r16 _ (List.mem_of_getElem? (i := 23) rfl)
theorem tw_17_0 : (.fieldLink RX6 122 "GlobeWorks$Piece" "beginSide" "I" : Cond) ∈ wsL_law := tl_r17 _ (List.mem_of_getElem? (i := 0) rfl)
theorem tw_17_1 : (.fieldLink RX6 125 "GlobeWorks$Piece" "beginHeight" "I" : Cond) ∈ wsL_law := tl_r17 _ (List.mem_of_getElem? (i := 1) rfl)
theorem tw_17_2 : (.fieldLink RX6 128 "GlobeWorks$Piece" "endSide" "I" : Cond) ∈ wsL_law := tl_r17 _ (List.mem_of_getElem? (i := 2) rfl)
theorem tw_17_3 : (.fieldLink RX6 131 "GlobeWorks$Piece" "endHeight" "I" : Cond) ∈ wsL_law := tl_r17 _ (List.mem_of_getElem? (i := 3) rfl)
theorem tw_17_4 : (.methodLink RL 47 yX7_piece : Cond) ∈ wsL_law := tl_r17 _ (List.mem_of_getElem? (i := 4) rfl)
theorem tw_17_5 : (.instanceMethod yX7_piece : Cond) ∈ wsL_law := tl_r17 _ (List.mem_of_getElem? (i := 5) rfl)
theorem tw_17_6 : (.selects RX7 yX7_piece yX7_piece : Cond) ∈ wsL_law := tl_r17 _ (List.mem_of_getElem? (i := 6) rfl)
theorem tw_17_7 : (.code yX7_piece cX7_piece 6 (some .int) : Cond) ∈ wsL_law := tl_r17 _ (List.mem_of_getElem? (i := 7) rfl)
theorem tw_17_8 : (.methodLink RL 48 yX6_paper : Cond) ∈ wsL_law := tl_r17 _ (List.mem_of_getElem? (i := 8) rfl)
theorem tw_17_9 : (.instanceMethod yX6_paper : Cond) ∈ wsL_law := tl_r17 _ (List.mem_of_getElem? (i := 9) rfl)
theorem tw_17_10 : (.selects RX6 yX6_paper yX6_paper : Cond) ∈ wsL_law := tl_r17 _ (List.mem_of_getElem? (i := 10) rfl)
theorem tw_17_11 : (.code yX6_paper cX6_paper 7 (some .boolean) : Cond) ∈ wsL_law := tl_r17 _ (List.mem_of_getElem? (i := 11) rfl)
theorem tw_17_12 : (.fieldLink RX6 137 "GlobeWorks" "growsAcross" "I" : Cond) ∈ wsL_law := tl_r17 _ (List.mem_of_getElem? (i := 12) rfl)
theorem tw_17_13 : (.fieldLink RX6 140 "GlobeWorks" "growsAlong" "I" : Cond) ∈ wsL_law := tl_r17 _ (List.mem_of_getElem? (i := 13) rfl)
theorem tw_17_14 : (.methodLink RX6 134 yX6_isGrowth : Cond) ∈ wsL_law := tl_r17 _ (List.mem_of_getElem? (i := 14) rfl)
theorem tw_17_15 : (.static yX6_isGrowth : Cond) ∈ wsL_law := tl_r17 _ (List.mem_of_getElem? (i := 15) rfl)
theorem tw_17_16 : (.code yX6_isGrowth cX6_isGrowth 1 (some .boolean) : Cond) ∈ wsL_law := tl_r17 _ (List.mem_of_getElem? (i := 16) rfl)
theorem tw_17_17 : (.methodLink RL 52 yX7_paper : Cond) ∈ wsL_law := tl_r17 _ (List.mem_of_getElem? (i := 17) rfl)
theorem tw_17_18 : (.instanceMethod yX7_paper : Cond) ∈ wsL_law := tl_r17 _ (List.mem_of_getElem? (i := 18) rfl)
theorem tw_17_19 : (.selects RX7 yX7_paper yX7_paper : Cond) ∈ wsL_law := tl_r17 _ (List.mem_of_getElem? (i := 19) rfl)
theorem tw_17_20 : (.code yX7_paper cX7_paper 4 (some .boolean) : Cond) ∈ wsL_law := tl_r17 _ (List.mem_of_getElem? (i := 20) rfl)
theorem tw_17_21 : (.fieldLink RX7 124 "GlobeWorksModel" "growsAcross" "I" : Cond) ∈ wsL_law := tl_r17 _ (List.mem_of_getElem? (i := 21) rfl)
theorem tw_17_22 : (.fieldLink RX7 127 "GlobeWorksModel" "growsAlong" "I" : Cond) ∈ wsL_law := tl_r17 _ (List.mem_of_getElem? (i := 22) rfl)
theorem tw_17_23 : (.methodLink RL 53 yX6_drawn : Cond) ∈ wsL_law := tl_r17 _ (List.mem_of_getElem? (i := 23) rfl)
theorem tw_18_0 : (.instanceMethod yX6_drawn : Cond) ∈ wsL_law := tl_r18 _ (List.mem_of_getElem? (i := 0) rfl)
theorem tw_18_1 : (.selects RX6 yX6_drawn yX6_drawn : Cond) ∈ wsL_law := tl_r18 _ (List.mem_of_getElem? (i := 1) rfl)
theorem tw_18_2 : (.code yX6_drawn cX6_drawn 3 (some .int) : Cond) ∈ wsL_law := tl_r18 _ (List.mem_of_getElem? (i := 2) rfl)
theorem tw_18_3 : (.methodLink RX6 147 yX6_isOnPaper : Cond) ∈ wsL_law := tl_r18 _ (List.mem_of_getElem? (i := 3) rfl)
theorem tw_18_4 : (.static yX6_isOnPaper : Cond) ∈ wsL_law := tl_r18 _ (List.mem_of_getElem? (i := 4) rfl)
theorem tw_18_5 : (.code yX6_isOnPaper cX6_isOnPaper 2 (some .boolean) : Cond) ∈ wsL_law := tl_r18 _ (List.mem_of_getElem? (i := 5) rfl)
theorem tw_18_6 : (.methodLink RX6 150 yX6_grownThousand : Cond) ∈ wsL_law := tl_r18 _ (List.mem_of_getElem? (i := 6) rfl)
theorem tw_18_7 : (.instanceMethod yX6_grownThousand : Cond) ∈ wsL_law := tl_r18 _ (List.mem_of_getElem? (i := 7) rfl)
theorem tw_18_8 : (.selects RX6 yX6_grownThousand yX6_grownThousand : Cond) ∈ wsL_law := tl_r18 _ (List.mem_of_getElem? (i := 8) rfl)
theorem tw_18_9 : (.code yX6_grownThousand cX6_grownThousand 2 (some .int) : Cond) ∈ wsL_law := tl_r18 _ (List.mem_of_getElem? (i := 9) rfl)
theorem tw_18_10 : (.methodLink RX6 153 yX6_roundBy : Cond) ∈ wsL_law := tl_r18 _ (List.mem_of_getElem? (i := 10) rfl)
theorem tw_18_11 : (.methodLink RL 56 yX7_drawn : Cond) ∈ wsL_law := tl_r18 _ (List.mem_of_getElem? (i := 11) rfl)
theorem tw_18_12 : (.instanceMethod yX7_drawn : Cond) ∈ wsL_law := tl_r18 _ (List.mem_of_getElem? (i := 12) rfl)
theorem tw_18_13 : (.selects RX7 yX7_drawn yX7_drawn : Cond) ∈ wsL_law := tl_r18 _ (List.mem_of_getElem? (i := 13) rfl)
theorem tw_18_14 : (.code yX7_drawn cX7_drawn 3 (some .int) : Cond) ∈ wsL_law := tl_r18 _ (List.mem_of_getElem? (i := 14) rfl)
theorem tw_18_15 : (.methodLink RX7 130 yX7_grown : Cond) ∈ wsL_law := tl_r18 _ (List.mem_of_getElem? (i := 15) rfl)
theorem tw_18_16 : (.instanceMethod yX7_grown : Cond) ∈ wsL_law := tl_r18 _ (List.mem_of_getElem? (i := 16) rfl)
theorem tw_18_17 : (.selects RX7 yX7_grown yX7_grown : Cond) ∈ wsL_law := tl_r18 _ (List.mem_of_getElem? (i := 17) rfl)
theorem tw_18_18 : (.code yX7_grown cX7_grown 2 (some .int) : Cond) ∈ wsL_law := tl_r18 _ (List.mem_of_getElem? (i := 18) rfl)
theorem tw_18_19 : (.methodLink RL 57 yX6_wet : Cond) ∈ wsL_law := tl_r18 _ (List.mem_of_getElem? (i := 19) rfl)
theorem tw_18_20 : (.instanceMethod yX6_wet : Cond) ∈ wsL_law := tl_r18 _ (List.mem_of_getElem? (i := 20) rfl)
theorem tw_18_21 : (.selects RX6 yX6_wet yX6_wet : Cond) ∈ wsL_law := tl_r18 _ (List.mem_of_getElem? (i := 21) rfl)
theorem tw_18_22 : (.code yX6_wet cX6_wet 3 (some .int) : Cond) ∈ wsL_law := tl_r18 _ (List.mem_of_getElem? (i := 22) rfl)
theorem tw_18_23 : (.methodLink RL 60 yX7_wet : Cond) ∈ wsL_law := tl_r18 _ (List.mem_of_getElem? (i := 23) rfl)
theorem tw_19_0 : (.instanceMethod yX7_wet : Cond) ∈ wsL_law := tl_r19 _ (List.mem_of_getElem? (i := 0) rfl)
theorem tw_19_1 : (.selects RX7 yX7_wet yX7_wet : Cond) ∈ wsL_law := tl_r19 _ (List.mem_of_getElem? (i := 1) rfl)
theorem tw_19_2 : (.code yX7_wet cX7_wet 3 (some .int) : Cond) ∈ wsL_law := tl_r19 _ (List.mem_of_getElem? (i := 2) rfl)
theorem tw_19_3 : (.methodLink RL 61 yX6_name : Cond) ∈ wsL_law := tl_r19 _ (List.mem_of_getElem? (i := 3) rfl)
theorem tw_19_4 : (.instanceMethod yX6_name : Cond) ∈ wsL_law := tl_r19 _ (List.mem_of_getElem? (i := 4) rfl)
theorem tw_19_5 : (.selects RX6 yX6_name yX6_name : Cond) ∈ wsL_law := tl_r19 _ (List.mem_of_getElem? (i := 5) rfl)
theorem tw_19_6 : (.code yX6_name cX6_name 10 (some .int) : Cond) ∈ wsL_law := tl_r19 _ (List.mem_of_getElem? (i := 6) rfl)
theorem tw_19_7 : (.fieldLink RX6 156 "GlobeWorks$Gore" "names" "Ljava/util/ArrayList;" : Cond) ∈ wsL_law := tl_r19 _ (List.mem_of_getElem? (i := 7) rfl)
theorem tw_19_8 : (.classLink RX6 160 RX2 : Cond) ∈ wsL_law := tl_r19 _ (List.mem_of_getElem? (i := 8) rfl)
theorem tw_19_9 : (.instantiable RX2 9 : Cond) ∈ wsL_law := tl_r19 _ (List.mem_of_getElem? (i := 9) rfl)
theorem tw_19_10 : (.initialized RX2 : Cond) ∈ wsL_law := tl_r19 _ (List.mem_of_getElem? (i := 10) rfl)
theorem tw_19_11 : (.fieldLink RX6 169 "GlobeWorks$Name" "ways" "I" : Cond) ∈ wsL_law := tl_r19 _ (List.mem_of_getElem? (i := 11) rfl)
theorem tw_19_12 : (.methodLink RX6 162 yX2_init : Cond) ∈ wsL_law := tl_r19 _ (List.mem_of_getElem? (i := 12) rfl)
theorem tw_19_13 : (.instanceMethod yX2_init : Cond) ∈ wsL_law := tl_r19 _ (List.mem_of_getElem? (i := 13) rfl)
theorem tw_19_14 : (.code yX2_init cX2_init 7 none : Cond) ∈ wsL_law := tl_r19 _ (List.mem_of_getElem? (i := 14) rfl)
theorem tw_19_15 : (.methodLink RX2 3 objectInit : Cond) ∈ wsL_law := tl_r19 _ (List.mem_of_getElem? (i := 15) rfl)
theorem tw_19_16 : (.fieldLink RX2 9 "GlobeWorks$Name" "gore" "I" : Cond) ∈ wsL_law := tl_r19 _ (List.mem_of_getElem? (i := 16) rfl)
theorem tw_19_17 : (.fieldLink RX2 15 "GlobeWorks$Name" "side" "I" : Cond) ∈ wsL_law := tl_r19 _ (List.mem_of_getElem? (i := 17) rfl)
theorem tw_19_18 : (.fieldLink RX2 18 "GlobeWorks$Name" "height" "I" : Cond) ∈ wsL_law := tl_r19 _ (List.mem_of_getElem? (i := 18) rfl)
theorem tw_19_19 : (.fieldLink RX2 21 "GlobeWorks$Name" "x" "I" : Cond) ∈ wsL_law := tl_r19 _ (List.mem_of_getElem? (i := 19) rfl)
theorem tw_19_20 : (.fieldLink RX2 24 "GlobeWorks$Name" "letters" "I" : Cond) ∈ wsL_law := tl_r19 _ (List.mem_of_getElem? (i := 20) rfl)
theorem tw_19_21 : (.fieldLink RX2 27 "GlobeWorks$Name" "price" "I" : Cond) ∈ wsL_law := tl_r19 _ (List.mem_of_getElem? (i := 21) rfl)
theorem tw_19_22 : (.methodLink RX6 165 yX6_waysWithinEdges : Cond) ∈ wsL_law := tl_r19 _ (List.mem_of_getElem? (i := 22) rfl)
theorem tw_19_23 : (.instanceMethod yX6_waysWithinEdges : Cond) ∈ wsL_law := tl_r19 _ (List.mem_of_getElem? (i := 23) rfl)
theorem tw_20_0 : (.selects RX6 yX6_waysWithinEdges yX6_waysWithinEdges : Cond) ∈ wsL_law := tl_r20 _ (List.mem_of_getElem? (i := 0) rfl)
theorem tw_20_1 : (.code yX6_waysWithinEdges cX6_waysWithinEdges 5 (some .int) : Cond) ∈ wsL_law := tl_r20 _ (List.mem_of_getElem? (i := 1) rfl)
theorem tw_20_2 : (.methodLink RX6 277 yX2_bottom : Cond) ∈ wsL_law := tl_r20 _ (List.mem_of_getElem? (i := 2) rfl)
theorem tw_20_3 : (.instanceMethod yX2_bottom : Cond) ∈ wsL_law := tl_r20 _ (List.mem_of_getElem? (i := 3) rfl)
theorem tw_20_4 : (.selects RX2 yX2_bottom yX2_bottom : Cond) ∈ wsL_law := tl_r20 _ (List.mem_of_getElem? (i := 4) rfl)
theorem tw_20_5 : (.code yX2_bottom cX2_bottom 2 (some .int) : Cond) ∈ wsL_law := tl_r20 _ (List.mem_of_getElem? (i := 5) rfl)
theorem tw_20_6 : (.methodLink RX6 280 yX6_isWithinEdges : Cond) ∈ wsL_law := tl_r20 _ (List.mem_of_getElem? (i := 6) rfl)
theorem tw_20_7 : (.instanceMethod yX6_isWithinEdges : Cond) ∈ wsL_law := tl_r20 _ (List.mem_of_getElem? (i := 7) rfl)
theorem tw_20_8 : (.selects RX6 yX6_isWithinEdges yX6_isWithinEdges : Cond) ∈ wsL_law := tl_r20 _ (List.mem_of_getElem? (i := 8) rfl)
theorem tw_20_9 : (.code yX6_isWithinEdges cX6_isWithinEdges 5 (some .boolean) : Cond) ∈ wsL_law := tl_r20 _ (List.mem_of_getElem? (i := 9) rfl)
theorem tw_20_10 : (.methodLink RX6 284 yX2_left : Cond) ∈ wsL_law := tl_r20 _ (List.mem_of_getElem? (i := 10) rfl)
theorem tw_20_11 : (.instanceMethod yX2_left : Cond) ∈ wsL_law := tl_r20 _ (List.mem_of_getElem? (i := 11) rfl)
theorem tw_20_12 : (.selects RX2 yX2_left yX2_left : Cond) ∈ wsL_law := tl_r20 _ (List.mem_of_getElem? (i := 12) rfl)
theorem tw_20_13 : (.code yX2_left cX2_left 2 (some .int) : Cond) ∈ wsL_law := tl_r20 _ (List.mem_of_getElem? (i := 13) rfl)
theorem tw_20_14 : (.methodLink RX6 287 yX2_right : Cond) ∈ wsL_law := tl_r20 _ (List.mem_of_getElem? (i := 14) rfl)
theorem tw_20_15 : (.instanceMethod yX2_right : Cond) ∈ wsL_law := tl_r20 _ (List.mem_of_getElem? (i := 15) rfl)
theorem tw_20_16 : (.selects RX2 yX2_right yX2_right : Cond) ∈ wsL_law := tl_r20 _ (List.mem_of_getElem? (i := 16) rfl)
theorem tw_20_17 : (.code yX2_right cX2_right 2 (some .int) : Cond) ∈ wsL_law := tl_r20 _ (List.mem_of_getElem? (i := 17) rfl)
theorem tw_20_18 : (.methodLink RX2 33 yX2_left : Cond) ∈ wsL_law := tl_r20 _ (List.mem_of_getElem? (i := 18) rfl)
theorem tw_20_19 : (.methodLink RX6 172 yX6_changeNames : Cond) ∈ wsL_law := tl_r20 _ (List.mem_of_getElem? (i := 19) rfl)
theorem tw_20_20 : (.instanceMethod yX6_changeNames : Cond) ∈ wsL_law := tl_r20 _ (List.mem_of_getElem? (i := 20) rfl)
theorem tw_20_21 : (.selects RX6 yX6_changeNames yX6_changeNames : Cond) ∈ wsL_law := tl_r20 _ (List.mem_of_getElem? (i := 21) rfl)
theorem tw_20_22 : (.code yX6_changeNames cX6_changeNames 3 none : Cond) ∈ wsL_law := tl_r20 _ (List.mem_of_getElem? (i := 22) rfl)
theorem tw_20_23 : (.fieldLink RX6 290 "GlobeWorks$Search" "leastCost" "I" : Cond) ∈ wsL_law := tl_r20 _ (List.mem_of_getElem? (i := 23) rfl)
theorem tw_21_0 : (.fieldLink RX6 297 "GlobeWorks$Search" "best" "[I" : Cond) ∈ wsL_law := tl_r21 _ (List.mem_of_getElem? (i := 0) rfl)
theorem tw_21_1 : (.classLink RX6 160 "GlobeWorks$Name" : Cond) ∈ wsL_law := tl_r21 _ (List.mem_of_getElem? (i := 1) rfl)
theorem tw_21_2 : (.fieldLink RX6 193 "GlobeWorks$Name" "setWay" "I" : Cond) ∈ wsL_law := tl_r21 _ (List.mem_of_getElem? (i := 2) rfl)
theorem tw_21_3 : (.fieldLink RX6 196 "GlobeWorks$Gore" "settingCost" "I" : Cond) ∈ wsL_law := tl_r21 _ (List.mem_of_getElem? (i := 3) rfl)
theorem tw_21_4 : (.methodLink RX6 293 yX6_tryWays : Cond) ∈ wsL_law := tl_r21 _ (List.mem_of_getElem? (i := 4) rfl)
theorem tw_21_5 : (.static yX6_tryWays : Cond) ∈ wsL_law := tl_r21 _ (List.mem_of_getElem? (i := 5) rfl)
theorem tw_21_6 : (.code yX6_tryWays cX6_tryWays 6 none : Cond) ∈ wsL_law := tl_r21 _ (List.mem_of_getElem? (i := 6) rfl)
theorem tw_21_7 : (.fieldLink RX6 308 "GlobeWorks$Search" "trial" "[I" : Cond) ∈ wsL_law := tl_r21 _ (List.mem_of_getElem? (i := 7) rfl)
theorem tw_21_8 : (.methodLink RX6 300 yX4_keep : Cond) ∈ wsL_law := tl_r21 _ (List.mem_of_getElem? (i := 8) rfl)
theorem tw_21_9 : (.instanceMethod yX4_keep : Cond) ∈ wsL_law := tl_r21 _ (List.mem_of_getElem? (i := 9) rfl)
theorem tw_21_10 : (.selects RX4 yX4_keep yX4_keep : Cond) ∈ wsL_law := tl_r21 _ (List.mem_of_getElem? (i := 10) rfl)
theorem tw_21_11 : (.code yX4_keep cX4_keep 2 none : Cond) ∈ wsL_law := tl_r21 _ (List.mem_of_getElem? (i := 11) rfl)
theorem tw_21_12 : (.methodLink RX4 18 arraycopyName : Cond) ∈ wsL_law := tl_r21 _ (List.mem_of_getElem? (i := 12) rfl)
theorem tw_21_13 : (.fieldLink RX4 24 "GlobeWorks$Search" "leastCost" "I" : Cond) ∈ wsL_law := tl_r21 _ (List.mem_of_getElem? (i := 13) rfl)
theorem tw_21_14 : (.methodLink RX6 190 yX2_allows : Cond) ∈ wsL_law := tl_r21 _ (List.mem_of_getElem? (i := 14) rfl)
theorem tw_21_15 : (.instanceMethod yX2_allows : Cond) ∈ wsL_law := tl_r21 _ (List.mem_of_getElem? (i := 15) rfl)
theorem tw_21_16 : (.selects RX2 yX2_allows yX2_allows : Cond) ∈ wsL_law := tl_r21 _ (List.mem_of_getElem? (i := 16) rfl)
theorem tw_21_17 : (.code yX2_allows cX2_allows 2 (some .boolean) : Cond) ∈ wsL_law := tl_r21 _ (List.mem_of_getElem? (i := 17) rfl)
theorem tw_21_18 : (.fieldLink RX2 30 "GlobeWorks$Name" "ways" "I" : Cond) ∈ wsL_law := tl_r21 _ (List.mem_of_getElem? (i := 18) rfl)
theorem tw_21_19 : (.methodLink RX6 304 yX6_isClear : Cond) ∈ wsL_law := tl_r21 _ (List.mem_of_getElem? (i := 19) rfl)
theorem tw_21_20 : (.static yX6_isClear : Cond) ∈ wsL_law := tl_r21 _ (List.mem_of_getElem? (i := 20) rfl)
theorem tw_21_21 : (.code yX6_isClear cX6_isClear 6 (some .boolean) : Cond) ∈ wsL_law := tl_r21 _ (List.mem_of_getElem? (i := 21) rfl)
theorem tw_21_22 : (.methodLink RX6 314 yX2_covers : Cond) ∈ wsL_law := tl_r21 _ (List.mem_of_getElem? (i := 22) rfl)
theorem tw_21_23 : (.instanceMethod yX2_covers : Cond) ∈ wsL_law := tl_r21 _ (List.mem_of_getElem? (i := 23) rfl)
theorem tw_22_0 : (.selects RX2 yX2_covers yX2_covers : Cond) ∈ wsL_law := tl_r22 _ (List.mem_of_getElem? (i := 0) rfl)
theorem tw_22_1 : (.code yX2_covers cX2_covers 4 (some .boolean) : Cond) ∈ wsL_law := tl_r22 _ (List.mem_of_getElem? (i := 1) rfl)
theorem tw_22_2 : (.methodLink RX2 43 Lib.Math.abs.name : Cond) ∈ wsL_law := tl_r22 _ (List.mem_of_getElem? (i := 2) rfl)
theorem tw_22_3 : (.methodLink RX2 37 yX2_right : Cond) ∈ wsL_law := tl_r22 _ (List.mem_of_getElem? (i := 3) rfl)
theorem tw_22_4 : (.methodLink RX2 40 yX2_bottom : Cond) ∈ wsL_law := tl_r22 _ (List.mem_of_getElem? (i := 4) rfl)
theorem tw_22_5 : (.methodLink RX6 311 yX2_costOf : Cond) ∈ wsL_law := tl_r22 _ (List.mem_of_getElem? (i := 5) rfl)
theorem tw_22_6 : (.instanceMethod yX2_costOf : Cond) ∈ wsL_law := tl_r22 _ (List.mem_of_getElem? (i := 6) rfl)
theorem tw_22_7 : (.selects RX2 yX2_costOf yX2_costOf : Cond) ∈ wsL_law := tl_r22 _ (List.mem_of_getElem? (i := 7) rfl)
theorem tw_22_8 : (.code yX2_costOf cX2_costOf 2 (some .int) : Cond) ∈ wsL_law := tl_r22 _ (List.mem_of_getElem? (i := 8) rfl)
theorem tw_22_9 : (.methodLink RL 65 yX7_name : Cond) ∈ wsL_law := tl_r22 _ (List.mem_of_getElem? (i := 9) rfl)
theorem tw_22_10 : (.instanceMethod yX7_name : Cond) ∈ wsL_law := tl_r22 _ (List.mem_of_getElem? (i := 10) rfl)
theorem tw_22_11 : (.selects RX7 yX7_name yX7_name : Cond) ∈ wsL_law := tl_r22 _ (List.mem_of_getElem? (i := 11) rfl)
theorem tw_22_12 : (.code yX7_name cX7_name 6 (some .int) : Cond) ∈ wsL_law := tl_r22 _ (List.mem_of_getElem? (i := 12) rfl)
theorem tw_22_13 : (.fieldLink RX7 133 "GlobeWorksModel" "names" "I" : Cond) ∈ wsL_law := tl_r22 _ (List.mem_of_getElem? (i := 13) rfl)
theorem tw_22_14 : (.methodLink RX7 136 yX7_namesIn : Cond) ∈ wsL_law := tl_r22 _ (List.mem_of_getElem? (i := 14) rfl)
theorem tw_22_15 : (.instanceMethod yX7_namesIn : Cond) ∈ wsL_law := tl_r22 _ (List.mem_of_getElem? (i := 15) rfl)
theorem tw_22_16 : (.selects RX7 yX7_namesIn yX7_namesIn : Cond) ∈ wsL_law := tl_r22 _ (List.mem_of_getElem? (i := 16) rfl)
theorem tw_22_17 : (.code yX7_namesIn cX7_namesIn 4 (some .int) : Cond) ∈ wsL_law := tl_r22 _ (List.mem_of_getElem? (i := 17) rfl)
theorem tw_22_18 : (.methodLink RL 66 yX6_strike : Cond) ∈ wsL_law := tl_r22 _ (List.mem_of_getElem? (i := 18) rfl)
theorem tw_22_19 : (.instanceMethod yX6_strike : Cond) ∈ wsL_law := tl_r22 _ (List.mem_of_getElem? (i := 19) rfl)
theorem tw_22_20 : (.selects RX6 yX6_strike yX6_strike : Cond) ∈ wsL_law := tl_r22 _ (List.mem_of_getElem? (i := 20) rfl)
theorem tw_22_21 : (.code yX6_strike cX6_strike 4 (some .boolean) : Cond) ∈ wsL_law := tl_r22 _ (List.mem_of_getElem? (i := 21) rfl)
theorem tw_22_22 : (.fieldLink RX6 180 "GlobeWorks$Name" "isStruck" "Z" : Cond) ∈ wsL_law := tl_r22 _ (List.mem_of_getElem? (i := 22) rfl)
theorem tw_22_23 : (.fieldLink RX6 183 "GlobeWorks$Name" "gore" "I" : Cond) ∈ wsL_law := tl_r22 _ (List.mem_of_getElem? (i := 23) rfl)
theorem tw_23_0 : (.methodLink RX6 176 yX6_nameOf : Cond) ∈ wsL_law := tl_r23 _ (List.mem_of_getElem? (i := 0) rfl)
theorem tw_23_1 : (.instanceMethod yX6_nameOf : Cond) ∈ wsL_law := tl_r23 _ (List.mem_of_getElem? (i := 1) rfl)
theorem tw_23_2 : (.selects RX6 yX6_nameOf yX6_nameOf : Cond) ∈ wsL_law := tl_r23 _ (List.mem_of_getElem? (i := 2) rfl)
theorem tw_23_3 : (.code yX6_nameOf cX6_nameOf 3 (some (.object "GlobeWorks$Name")) : Cond) ∈ wsL_law := tl_r23 _ (List.mem_of_getElem? (i := 3) rfl)
theorem tw_23_4 : (.methodLink RX6 186 yX1_takeOut : Cond) ∈ wsL_law := tl_r23 _ (List.mem_of_getElem? (i := 4) rfl)
theorem tw_23_5 : (.instanceMethod yX1_takeOut : Cond) ∈ wsL_law := tl_r23 _ (List.mem_of_getElem? (i := 5) rfl)
theorem tw_23_6 : (.selects RX1 yX1_takeOut yX1_takeOut : Cond) ∈ wsL_law := tl_r23 _ (List.mem_of_getElem? (i := 6) rfl)
theorem tw_23_7 : (.code yX1_takeOut cX1_takeOut 3 none : Cond) ∈ wsL_law := tl_r23 _ (List.mem_of_getElem? (i := 7) rfl)
theorem tw_23_8 : (.methodLink RX1 23 yJx4a65c_size_8abf5 : Cond) ∈ wsL_law := tl_r23 _ (List.mem_of_getElem? (i := 8) rfl)
theorem tw_23_9 : (.methodLink RX1 27 yJx4a65c_get_915e3 : Cond) ∈ wsL_law := tl_r23 _ (List.mem_of_getElem? (i := 9) rfl)
theorem tw_23_10 : (.methodLink RX1 31 yJx4a65c_remove_915e3 : Cond) ∈ wsL_law := tl_r23 _ (List.mem_of_getElem? (i := 10) rfl)
theorem tw_23_11 : (.instanceMethod yJx4a65c_remove_915e3 : Cond) ∈ wsL_law := tl_r23 _ (List.mem_of_getElem? (i := 11) rfl)
theorem tw_23_12 : (.selects RJx4a65c yJx4a65c_remove_915e3 yJx4a65c_remove_915e3 : Cond) ∈ wsL_law := tl_r23 _ (List.mem_of_getElem? (i := 12) rfl)
theorem tw_23_13 : (.code yJx4a65c_remove_915e3 cJx4a65c_remove_915e3 4 (some (.object "java/lang/Object")) : Cond) ∈ wsL_law := tl_r23 _ (List.mem_of_getElem? (i := 13) rfl)
theorem tw_23_14 : (.methodLink RJx4a65c 144 yJx4a65c_fastRemove_b59b0 : Cond) ∈ wsL_law := tl_r23 _ (List.mem_of_getElem? (i := 14) rfl)
theorem tw_23_15 : (.instanceMethod yJx4a65c_fastRemove_b59b0 : Cond) ∈ wsL_law := tl_r23 _ (List.mem_of_getElem? (i := 15) rfl)
theorem tw_23_16 : (.selects RJx4a65c yJx4a65c_fastRemove_b59b0 yJx4a65c_fastRemove_b59b0 : Cond) ∈ wsL_law := tl_r23 _ (List.mem_of_getElem? (i := 16) rfl)
theorem tw_23_17 : (.code yJx4a65c_fastRemove_b59b0 cJx4a65c_fastRemove_b59b0 4 none : Cond) ∈ wsL_law := tl_r23 _ (List.mem_of_getElem? (i := 17) rfl)
theorem tw_23_18 : (.methodLink RJx4a65c 112 arraycopyName : Cond) ∈ wsL_law := tl_r23 _ (List.mem_of_getElem? (i := 18) rfl)
theorem tw_23_19 : (.methodLink RL 70 yX7_strike : Cond) ∈ wsL_law := tl_r23 _ (List.mem_of_getElem? (i := 19) rfl)
theorem tw_23_20 : (.instanceMethod yX7_strike : Cond) ∈ wsL_law := tl_r23 _ (List.mem_of_getElem? (i := 20) rfl)
theorem tw_23_21 : (.selects RX7 yX7_strike yX7_strike : Cond) ∈ wsL_law := tl_r23 _ (List.mem_of_getElem? (i := 21) rfl)
theorem tw_23_22 : (.code yX7_strike cX7_strike 2 (some .boolean) : Cond) ∈ wsL_law := tl_r23 _ (List.mem_of_getElem? (i := 22) rfl)
theorem tw_23_23 : (.methodLink RX7 139 yX7_isName : Cond) ∈ wsL_law := tl_r23 _ (List.mem_of_getElem? (i := 23) rfl)
theorem tw_24_0 : (.instanceMethod yX7_isName : Cond) ∈ wsL_law := tl_r24 _ (List.mem_of_getElem? (i := 0) rfl)
theorem tw_24_1 : (.selects RX7 yX7_isName yX7_isName : Cond) ∈ wsL_law := tl_r24 _ (List.mem_of_getElem? (i := 1) rfl)
theorem tw_24_2 : (.code yX7_isName cX7_isName 2 (some .boolean) : Cond) ∈ wsL_law := tl_r24 _ (List.mem_of_getElem? (i := 2) rfl)
theorem tw_24_3 : (.methodLink RL 71 yX6_may : Cond) ∈ wsL_law := tl_r24 _ (List.mem_of_getElem? (i := 3) rfl)
theorem tw_24_4 : (.instanceMethod yX6_may : Cond) ∈ wsL_law := tl_r24 _ (List.mem_of_getElem? (i := 4) rfl)
theorem tw_24_5 : (.selects RX6 yX6_may yX6_may : Cond) ∈ wsL_law := tl_r24 _ (List.mem_of_getElem? (i := 5) rfl)
theorem tw_24_6 : (.code yX6_may cX6_may 4 (some .boolean) : Cond) ∈ wsL_law := tl_r24 _ (List.mem_of_getElem? (i := 6) rfl)
theorem tw_24_7 : (.methodLink RL 74 yX7_may : Cond) ∈ wsL_law := tl_r24 _ (List.mem_of_getElem? (i := 7) rfl)
theorem tw_24_8 : (.instanceMethod yX7_may : Cond) ∈ wsL_law := tl_r24 _ (List.mem_of_getElem? (i := 8) rfl)
theorem tw_24_9 : (.selects RX7 yX7_may yX7_may : Cond) ∈ wsL_law := tl_r24 _ (List.mem_of_getElem? (i := 9) rfl)
theorem tw_24_10 : (.code yX7_may cX7_may 3 (some .boolean) : Cond) ∈ wsL_law := tl_r24 _ (List.mem_of_getElem? (i := 10) rfl)
theorem tw_24_11 : (.methodLink RX7 151 yX7_canBe : Cond) ∈ wsL_law := tl_r24 _ (List.mem_of_getElem? (i := 11) rfl)
theorem tw_24_12 : (.instanceMethod yX7_canBe : Cond) ∈ wsL_law := tl_r24 _ (List.mem_of_getElem? (i := 12) rfl)
theorem tw_24_13 : (.selects RX7 yX7_canBe yX7_canBe : Cond) ∈ wsL_law := tl_r24 _ (List.mem_of_getElem? (i := 13) rfl)
theorem tw_24_14 : (.code yX7_canBe cX7_canBe 6 (some .boolean) : Cond) ∈ wsL_law := tl_r24 _ (List.mem_of_getElem? (i := 14) rfl)
theorem tw_24_15 : (.methodLink RX7 142 yX7_left : Cond) ∈ wsL_law := tl_r24 _ (List.mem_of_getElem? (i := 15) rfl)
theorem tw_24_16 : (.instanceMethod yX7_left : Cond) ∈ wsL_law := tl_r24 _ (List.mem_of_getElem? (i := 16) rfl)
theorem tw_24_17 : (.selects RX7 yX7_left yX7_left : Cond) ∈ wsL_law := tl_r24 _ (List.mem_of_getElem? (i := 17) rfl)
theorem tw_24_18 : (.code yX7_left cX7_left 4 (some .int) : Cond) ∈ wsL_law := tl_r24 _ (List.mem_of_getElem? (i := 18) rfl)
theorem tw_24_19 : (.methodLink RX7 145 yX7_low : Cond) ∈ wsL_law := tl_r24 _ (List.mem_of_getElem? (i := 19) rfl)
theorem tw_24_20 : (.instanceMethod yX7_low : Cond) ∈ wsL_law := tl_r24 _ (List.mem_of_getElem? (i := 20) rfl)
theorem tw_24_21 : (.selects RX7 yX7_low yX7_low : Cond) ∈ wsL_law := tl_r24 _ (List.mem_of_getElem? (i := 21) rfl)
theorem tw_24_22 : (.code yX7_low cX7_low 3 (some .int) : Cond) ∈ wsL_law := tl_r24 _ (List.mem_of_getElem? (i := 22) rfl)
theorem tw_24_23 : (.methodLink RX7 148 yX7_isWithin : Cond) ∈ wsL_law := tl_r24 _ (List.mem_of_getElem? (i := 23) rfl)
theorem tw_25_0 : (.instanceMethod yX7_isWithin : Cond) ∈ wsL_law := tl_r25 _ (List.mem_of_getElem? (i := 0) rfl)
theorem tw_25_1 : (.selects RX7 yX7_isWithin yX7_isWithin : Cond) ∈ wsL_law := tl_r25 _ (List.mem_of_getElem? (i := 1) rfl)
theorem tw_25_2 : (.code yX7_isWithin cX7_isWithin 4 (some .boolean) : Cond) ∈ wsL_law := tl_r25 _ (List.mem_of_getElem? (i := 2) rfl)
theorem tw_25_3 : (.methodLink RL 75 yX6_set : Cond) ∈ wsL_law := tl_r25 _ (List.mem_of_getElem? (i := 3) rfl)
theorem tw_25_4 : (.instanceMethod yX6_set : Cond) ∈ wsL_law := tl_r25 _ (List.mem_of_getElem? (i := 4) rfl)
theorem tw_25_5 : (.selects RX6 yX6_set yX6_set : Cond) ∈ wsL_law := tl_r25 _ (List.mem_of_getElem? (i := 5) rfl)
theorem tw_25_6 : (.code yX6_set cX6_set 3 (some .int) : Cond) ∈ wsL_law := tl_r25 _ (List.mem_of_getElem? (i := 6) rfl)
theorem tw_25_7 : (.methodLink RL 78 yX7_set : Cond) ∈ wsL_law := tl_r25 _ (List.mem_of_getElem? (i := 7) rfl)
theorem tw_25_8 : (.instanceMethod yX7_set : Cond) ∈ wsL_law := tl_r25 _ (List.mem_of_getElem? (i := 8) rfl)
theorem tw_25_9 : (.selects RX7 yX7_set yX7_set : Cond) ∈ wsL_law := tl_r25 _ (List.mem_of_getElem? (i := 9) rfl)
theorem tw_25_10 : (.code yX7_set cX7_set 4 (some .int) : Cond) ∈ wsL_law := tl_r25 _ (List.mem_of_getElem? (i := 10) rfl)
theorem tw_25_11 : (.methodLink RX7 164 yX7_sets : Cond) ∈ wsL_law := tl_r25 _ (List.mem_of_getElem? (i := 11) rfl)
theorem tw_25_12 : (.instanceMethod yX7_sets : Cond) ∈ wsL_law := tl_r25 _ (List.mem_of_getElem? (i := 12) rfl)
theorem tw_25_13 : (.selects RX7 yX7_sets yX7_sets : Cond) ∈ wsL_law := tl_r25 _ (List.mem_of_getElem? (i := 13) rfl)
theorem tw_25_14 : (.code yX7_sets cX7_sets 8 (some .int) : Cond) ∈ wsL_law := tl_r25 _ (List.mem_of_getElem? (i := 14) rfl)
theorem tw_25_15 : (.fieldLink RX7 154 "GlobeWorksModel" "bestCost" "I" : Cond) ∈ wsL_law := tl_r25 _ (List.mem_of_getElem? (i := 15) rfl)
theorem tw_25_16 : (.methodLink RX7 157 yX7_isGood : Cond) ∈ wsL_law := tl_r25 _ (List.mem_of_getElem? (i := 16) rfl)
theorem tw_25_17 : (.instanceMethod yX7_isGood : Cond) ∈ wsL_law := tl_r25 _ (List.mem_of_getElem? (i := 17) rfl)
theorem tw_25_18 : (.selects RX7 yX7_isGood yX7_isGood : Cond) ∈ wsL_law := tl_r25 _ (List.mem_of_getElem? (i := 18) rfl)
theorem tw_25_19 : (.code yX7_isGood cX7_isGood 4 (some .boolean) : Cond) ∈ wsL_law := tl_r25 _ (List.mem_of_getElem? (i := 19) rfl)
theorem tw_25_20 : (.methodLink RX7 160 yX7_areApart : Cond) ∈ wsL_law := tl_r25 _ (List.mem_of_getElem? (i := 20) rfl)
theorem tw_25_21 : (.instanceMethod yX7_areApart : Cond) ∈ wsL_law := tl_r25 _ (List.mem_of_getElem? (i := 21) rfl)
theorem tw_25_22 : (.selects RX7 yX7_areApart yX7_areApart : Cond) ∈ wsL_law := tl_r25 _ (List.mem_of_getElem? (i := 22) rfl)
theorem tw_25_23 : (.code yX7_areApart cX7_areApart 7 (some .boolean) : Cond) ∈ wsL_law := tl_r25 _ (List.mem_of_getElem? (i := 23) rfl)
theorem tw_26_0 : (.methodLink RL 79 yX6_cost : Cond) ∈ wsL_law := tl_r26 _ (List.mem_of_getElem? (i := 0) rfl)
theorem tw_26_1 : (.instanceMethod yX6_cost : Cond) ∈ wsL_law := tl_r26 _ (List.mem_of_getElem? (i := 1) rfl)
theorem tw_26_2 : (.selects RX6 yX6_cost yX6_cost : Cond) ∈ wsL_law := tl_r26 _ (List.mem_of_getElem? (i := 2) rfl)
theorem tw_26_3 : (.code yX6_cost cX6_cost 3 (some .int) : Cond) ∈ wsL_law := tl_r26 _ (List.mem_of_getElem? (i := 3) rfl)
theorem tw_26_4 : (.methodLink RL 82 yX7_cost : Cond) ∈ wsL_law := tl_r26 _ (List.mem_of_getElem? (i := 4) rfl)
theorem tw_26_5 : (.instanceMethod yX7_cost : Cond) ∈ wsL_law := tl_r26 _ (List.mem_of_getElem? (i := 5) rfl)
theorem tw_26_6 : (.selects RX7 yX7_cost yX7_cost : Cond) ∈ wsL_law := tl_r26 _ (List.mem_of_getElem? (i := 6) rfl)
theorem tw_26_7 : (.code yX7_cost cX7_cost 2 (some .int) : Cond) ∈ wsL_law := tl_r26 _ (List.mem_of_getElem? (i := 7) rfl)
theorem tw_26_8 : (.methodLink RL 83 yX6_told : Cond) ∈ wsL_law := tl_r26 _ (List.mem_of_getElem? (i := 8) rfl)
theorem tw_26_9 : (.instanceMethod yX6_told : Cond) ∈ wsL_law := tl_r26 _ (List.mem_of_getElem? (i := 9) rfl)
theorem tw_26_10 : (.selects RX6 yX6_told yX6_told : Cond) ∈ wsL_law := tl_r26 _ (List.mem_of_getElem? (i := 10) rfl)
theorem tw_26_11 : (.code yX6_told cX6_told 4 (some .int) : Cond) ∈ wsL_law := tl_r26 _ (List.mem_of_getElem? (i := 11) rfl)
theorem tw_26_12 : (.fieldLink RX6 199 "GlobeWorks$Name" "side" "I" : Cond) ∈ wsL_law := tl_r26 _ (List.mem_of_getElem? (i := 12) rfl)
theorem tw_26_13 : (.fieldLink RX6 202 "GlobeWorks$Name" "height" "I" : Cond) ∈ wsL_law := tl_r26 _ (List.mem_of_getElem? (i := 13) rfl)
theorem tw_26_14 : (.fieldLink RX6 205 "GlobeWorks$Name" "letters" "I" : Cond) ∈ wsL_law := tl_r26 _ (List.mem_of_getElem? (i := 14) rfl)
theorem tw_26_15 : (.fieldLink RX6 208 "GlobeWorks$Name" "price" "I" : Cond) ∈ wsL_law := tl_r26 _ (List.mem_of_getElem? (i := 15) rfl)
theorem tw_26_16 : (.methodLink RL 86 yX7_told : Cond) ∈ wsL_law := tl_r26 _ (List.mem_of_getElem? (i := 16) rfl)
theorem tw_26_17 : (.instanceMethod yX7_told : Cond) ∈ wsL_law := tl_r26 _ (List.mem_of_getElem? (i := 17) rfl)
theorem tw_26_18 : (.selects RX7 yX7_told yX7_told : Cond) ∈ wsL_law := tl_r26 _ (List.mem_of_getElem? (i := 18) rfl)
theorem tw_26_19 : (.code yX7_told cX7_told 3 (some .int) : Cond) ∈ wsL_law := tl_r26 _ (List.mem_of_getElem? (i := 19) rfl)
theorem tw_26_20 : (.methodLink RL 87 yX6_fresh : Cond) ∈ wsL_law := tl_r26 _ (List.mem_of_getElem? (i := 20) rfl)
theorem tw_26_21 : (.instanceMethod yX6_fresh : Cond) ∈ wsL_law := tl_r26 _ (List.mem_of_getElem? (i := 21) rfl)
theorem tw_26_22 : (.selects RX6 yX6_fresh yX6_fresh : Cond) ∈ wsL_law := tl_r26 _ (List.mem_of_getElem? (i := 22) rfl)
theorem tw_26_23 : (.code yX6_fresh cX6_fresh 3 (some .boolean) : Cond) ∈ wsL_law := tl_r26 _ (List.mem_of_getElem? (i := 23) rfl)
theorem tw_27_0 : (.methodLink RL 90 yX7_fresh : Cond) ∈ wsL_law := tl_r27 _ (List.mem_of_getElem? (i := 0) rfl)
theorem tw_27_1 : (.instanceMethod yX7_fresh : Cond) ∈ wsL_law := tl_r27 _ (List.mem_of_getElem? (i := 1) rfl)
theorem tw_27_2 : (.selects RX7 yX7_fresh yX7_fresh : Cond) ∈ wsL_law := tl_r27 _ (List.mem_of_getElem? (i := 2) rfl)
theorem tw_27_3 : (.code yX7_fresh cX7_fresh 2 (some .boolean) : Cond) ∈ wsL_law := tl_r27 _ (List.mem_of_getElem? (i := 3) rfl)
theorem tw_27_4 : (.methodLink RL 91 yX6_edition : Cond) ∈ wsL_law := tl_r27 _ (List.mem_of_getElem? (i := 4) rfl)
theorem tw_27_5 : (.instanceMethod yX6_edition : Cond) ∈ wsL_law := tl_r27 _ (List.mem_of_getElem? (i := 5) rfl)
theorem tw_27_6 : (.selects RX6 yX6_edition yX6_edition : Cond) ∈ wsL_law := tl_r27 _ (List.mem_of_getElem? (i := 6) rfl)
theorem tw_27_7 : (.code yX6_edition cX6_edition 6 (some .int) : Cond) ∈ wsL_law := tl_r27 _ (List.mem_of_getElem? (i := 7) rfl)
theorem tw_27_8 : (.fieldLink RX6 211 "GlobeWorks" "editions" "I" : Cond) ∈ wsL_law := tl_r27 _ (List.mem_of_getElem? (i := 8) rfl)
theorem tw_27_9 : (.fieldLink RX6 214 "GlobeWorks$Gore" "lastEdition" "I" : Cond) ∈ wsL_law := tl_r27 _ (List.mem_of_getElem? (i := 9) rfl)
theorem tw_27_10 : (.methodLink RL 95 yX7_edition : Cond) ∈ wsL_law := tl_r27 _ (List.mem_of_getElem? (i := 10) rfl)
theorem tw_27_11 : (.instanceMethod yX7_edition : Cond) ∈ wsL_law := tl_r27 _ (List.mem_of_getElem? (i := 11) rfl)
theorem tw_27_12 : (.selects RX7 yX7_edition yX7_edition : Cond) ∈ wsL_law := tl_r27 _ (List.mem_of_getElem? (i := 12) rfl)
theorem tw_27_13 : (.code yX7_edition cX7_edition 3 (some .int) : Cond) ∈ wsL_law := tl_r27 _ (List.mem_of_getElem? (i := 13) rfl)
theorem tw_27_14 : (.fieldLink RX7 167 "GlobeWorksModel" "editions" "I" : Cond) ∈ wsL_law := tl_r27 _ (List.mem_of_getElem? (i := 14) rfl)
theorem tw_27_15 : (.methodLink RL 96 yX6_printed : Cond) ∈ wsL_law := tl_r27 _ (List.mem_of_getElem? (i := 15) rfl)
theorem tw_27_16 : (.instanceMethod yX6_printed : Cond) ∈ wsL_law := tl_r27 _ (List.mem_of_getElem? (i := 16) rfl)
theorem tw_27_17 : (.selects RX6 yX6_printed yX6_printed : Cond) ∈ wsL_law := tl_r27 _ (List.mem_of_getElem? (i := 17) rfl)
theorem tw_27_18 : (.code yX6_printed cX6_printed 3 (some .int) : Cond) ∈ wsL_law := tl_r27 _ (List.mem_of_getElem? (i := 18) rfl)
theorem tw_27_19 : (.methodLink RL 99 yX7_printed : Cond) ∈ wsL_law := tl_r27 _ (List.mem_of_getElem? (i := 19) rfl)
theorem tw_27_20 : (.instanceMethod yX7_printed : Cond) ∈ wsL_law := tl_r27 _ (List.mem_of_getElem? (i := 20) rfl)
theorem tw_27_21 : (.selects RX7 yX7_printed yX7_printed : Cond) ∈ wsL_law := tl_r27 _ (List.mem_of_getElem? (i := 21) rfl)
theorem tw_27_22 : (.code yX7_printed cX7_printed 2 (some .int) : Cond) ∈ wsL_law := tl_r27 _ (List.mem_of_getElem? (i := 22) rfl)
theorem tw_27_23 : (.methodLink RL 100 yX6_count : Cond) ∈ wsL_law := tl_r27 _ (List.mem_of_getElem? (i := 23) rfl)
theorem tw_28_0 : (.instanceMethod yX6_count : Cond) ∈ wsL_law := tl_r28 _ (List.mem_of_getElem? (i := 0) rfl)
theorem tw_28_1 : (.selects RX6 yX6_count yX6_count : Cond) ∈ wsL_law := tl_r28 _ (List.mem_of_getElem? (i := 1) rfl)
theorem tw_28_2 : (.code yX6_count cX6_count 2 (some .int) : Cond) ∈ wsL_law := tl_r28 _ (List.mem_of_getElem? (i := 2) rfl)
theorem tw_28_3 : (.methodLink RX6 217 yX6_namesThere : Cond) ∈ wsL_law := tl_r28 _ (List.mem_of_getElem? (i := 3) rfl)
theorem tw_28_4 : (.instanceMethod yX6_namesThere : Cond) ∈ wsL_law := tl_r28 _ (List.mem_of_getElem? (i := 4) rfl)
theorem tw_28_5 : (.selects RX6 yX6_namesThere yX6_namesThere : Cond) ∈ wsL_law := tl_r28 _ (List.mem_of_getElem? (i := 5) rfl)
theorem tw_28_6 : (.code yX6_namesThere cX6_namesThere 6 (some .int) : Cond) ∈ wsL_law := tl_r28 _ (List.mem_of_getElem? (i := 6) rfl)
theorem tw_28_7 : (.methodLink RX6 220 yX6_freshGores : Cond) ∈ wsL_law := tl_r28 _ (List.mem_of_getElem? (i := 7) rfl)
theorem tw_28_8 : (.instanceMethod yX6_freshGores : Cond) ∈ wsL_law := tl_r28 _ (List.mem_of_getElem? (i := 8) rfl)
theorem tw_28_9 : (.selects RX6 yX6_freshGores yX6_freshGores : Cond) ∈ wsL_law := tl_r28 _ (List.mem_of_getElem? (i := 9) rfl)
theorem tw_28_10 : (.code yX6_freshGores cX6_freshGores 6 (some .int) : Cond) ∈ wsL_law := tl_r28 _ (List.mem_of_getElem? (i := 10) rfl)
theorem tw_28_11 : (.methodLink RL 103 yX7_count : Cond) ∈ wsL_law := tl_r28 _ (List.mem_of_getElem? (i := 11) rfl)
theorem tw_28_12 : (.instanceMethod yX7_count : Cond) ∈ wsL_law := tl_r28 _ (List.mem_of_getElem? (i := 12) rfl)
theorem tw_28_13 : (.selects RX7 yX7_count yX7_count : Cond) ∈ wsL_law := tl_r28 _ (List.mem_of_getElem? (i := 13) rfl)
theorem tw_28_14 : (.code yX7_count cX7_count 4 (some .int) : Cond) ∈ wsL_law := tl_r28 _ (List.mem_of_getElem? (i := 14) rfl)
end
section
/-! THE STATE OF THE SYSTEM, field by field: K the kind of an address (0: nothing known; c + 1: an object of class c of vwCl; 20 an int row, 21 a boolean row, 22 a row of gores, 23 a row of Objects), I the number in a field (32 c + its place), P the reference in a field, L a row's length, R a row of numbers, Q a row of references, N the next address. -/
abbrev HS : Type := (Nat → Nat) × (Nat → Nat → Int32) × (Nat → Nat → Option Nat) × (Nat → Nat) × (Nat → Nat → Int32) × (Nat → Nat → Option Nat) × Nat
def gK (S : HS) (a : Nat) : Nat := S.1 a
def gI (S : HS) (f a : Nat) : Int32 := S.2.1 f a
def gP (S : HS) (f a : Nat) : Option Nat := S.2.2.1 f a
def gL (S : HS) (a : Nat) : Nat := S.2.2.2.1 a
def gR (S : HS) (a : Nat) : Nat → Int32 := S.2.2.2.2.1 a
def gQ (S : HS) (a : Nat) : Nat → Option Nat := S.2.2.2.2.2.1 a
def gN (S : HS) : Nat := S.2.2.2.2.2.2
def uI (S : HS) (f a : Nat) (v : Int32) : HS := (S.1, (fun f' a' => if f' = f ∧ a' = a then v else S.2.1 f' a'), S.2.2)
def uP (S : HS) (f a : Nat) (v : Option Nat) : HS := (S.1, S.2.1, (fun f' a' => if f' = f ∧ a' = a then v else S.2.2.1 f' a'), S.2.2.2)
def uR (S : HS) (a : Nat) (r : Nat → Int32) : HS := (S.1, S.2.1, S.2.2.1, S.2.2.2.1, (fun a' => if a' = a then r else S.2.2.2.2.1 a'), S.2.2.2.2.2)
def uQ (S : HS) (a : Nat) (r : Nat → Option Nat) : HS := (S.1, S.2.1, S.2.2.1, S.2.2.2.1, S.2.2.2.2.1, (fun a' => if a' = a then r else S.2.2.2.2.2.1 a'), S.2.2.2.2.2.2)
def nO (S : HS) (c : Nat) : HS := ((fun a => if a = gN S then c + 1 else S.1 a), (fun f a => if a = gN S then 0 else S.2.1 f a), (fun f a => if a = gN S then none else S.2.2.1 f a), S.2.2.2.1, S.2.2.2.2.1, S.2.2.2.2.2.1, gN S + 1)
def nA (S : HS) (kd n : Nat) : HS := ((fun a => if a = gN S then kd else S.1 a), S.2.1, S.2.2.1, (fun a => if a = gN S then n else S.2.2.2.1 a), (fun a => if a = gN S then (fun _ => 0) else S.2.2.2.2.1 a), (fun a => if a = gN S then (fun _ => none) else S.2.2.2.2.2.1 a), gN S + 1)
theorem gK_uI (S : HS) (f a : Nat) (v : Int32) (b : Nat) : gK (uI S f a v) b = gK S b := rfl
theorem gP_uI (S : HS) (f a : Nat) (v : Int32) (g b : Nat) : gP (uI S f a v) g b = gP S g b := rfl
theorem gL_uI (S : HS) (f a : Nat) (v : Int32) (b : Nat) : gL (uI S f a v) b = gL S b := rfl
theorem gR_uI (S : HS) (f a : Nat) (v : Int32) (b : Nat) : gR (uI S f a v) b = gR S b := rfl
theorem gQ_uI (S : HS) (f a : Nat) (v : Int32) (b : Nat) : gQ (uI S f a v) b = gQ S b := rfl
theorem gN_uI (S : HS) (f a : Nat) (v : Int32) : gN (uI S f a v) = gN S := rfl
theorem gI_uI (S : HS) (f a : Nat) (v : Int32) (g b : Nat) : gI (uI S f a v) g b = if g = f ∧ b = a then v else gI S g b := rfl
theorem gK_uP (S : HS) (f a : Nat) (v : Option Nat) (b : Nat) : gK (uP S f a v) b = gK S b := rfl
theorem gI_uP (S : HS) (f a : Nat) (v : Option Nat) (g b : Nat) : gI (uP S f a v) g b = gI S g b := rfl
theorem gL_uP (S : HS) (f a : Nat) (v : Option Nat) (b : Nat) : gL (uP S f a v) b = gL S b := rfl
theorem gR_uP (S : HS) (f a : Nat) (v : Option Nat) (b : Nat) : gR (uP S f a v) b = gR S b := rfl
theorem gQ_uP (S : HS) (f a : Nat) (v : Option Nat) (b : Nat) : gQ (uP S f a v) b = gQ S b := rfl
theorem gN_uP (S : HS) (f a : Nat) (v : Option Nat) : gN (uP S f a v) = gN S := rfl
theorem gP_uP (S : HS) (f a : Nat) (v : Option Nat) (g b : Nat) : gP (uP S f a v) g b = if g = f ∧ b = a then v else gP S g b := rfl
theorem gK_uR (S : HS) (a : Nat) (r : Nat → Int32) (b : Nat) : gK (uR S a r) b = gK S b := rfl
theorem gI_uR (S : HS) (a : Nat) (r : Nat → Int32) (g b : Nat) : gI (uR S a r) g b = gI S g b := rfl
theorem gP_uR (S : HS) (a : Nat) (r : Nat → Int32) (g b : Nat) : gP (uR S a r) g b = gP S g b := rfl
theorem gL_uR (S : HS) (a : Nat) (r : Nat → Int32) (b : Nat) : gL (uR S a r) b = gL S b := rfl
theorem gQ_uR (S : HS) (a : Nat) (r : Nat → Int32) (b : Nat) : gQ (uR S a r) b = gQ S b := rfl
theorem gN_uR (S : HS) (a : Nat) (r : Nat → Int32) : gN (uR S a r) = gN S := rfl
theorem gR_uR (S : HS) (a : Nat) (r : Nat → Int32) (b : Nat) : gR (uR S a r) b = if b = a then r else gR S b := rfl
theorem gK_uQ (S : HS) (a : Nat) (r : Nat → Option Nat) (b : Nat) : gK (uQ S a r) b = gK S b := rfl
theorem gI_uQ (S : HS) (a : Nat) (r : Nat → Option Nat) (g b : Nat) : gI (uQ S a r) g b = gI S g b := rfl
theorem gP_uQ (S : HS) (a : Nat) (r : Nat → Option Nat) (g b : Nat) : gP (uQ S a r) g b = gP S g b := rfl
theorem gL_uQ (S : HS) (a : Nat) (r : Nat → Option Nat) (b : Nat) : gL (uQ S a r) b = gL S b := rfl
theorem gR_uQ (S : HS) (a : Nat) (r : Nat → Option Nat) (b : Nat) : gR (uQ S a r) b = gR S b := rfl
theorem gN_uQ (S : HS) (a : Nat) (r : Nat → Option Nat) : gN (uQ S a r) = gN S := rfl
theorem gQ_uQ (S : HS) (a : Nat) (r : Nat → Option Nat) (b : Nat) : gQ (uQ S a r) b = if b = a then r else gQ S b := rfl
theorem gK_nO (S : HS) (c b : Nat) : gK (nO S c) b = if b = gN S then c + 1 else gK S b := rfl
theorem gI_nO (S : HS) (c g b : Nat) : gI (nO S c) g b = if b = gN S then 0 else gI S g b := rfl
theorem gP_nO (S : HS) (c g b : Nat) : gP (nO S c) g b = if b = gN S then none else gP S g b := rfl
theorem gL_nO (S : HS) (c b : Nat) : gL (nO S c) b = gL S b := rfl
theorem gR_nO (S : HS) (c b : Nat) : gR (nO S c) b = gR S b := rfl
theorem gQ_nO (S : HS) (c b : Nat) : gQ (nO S c) b = gQ S b := rfl
theorem gN_nO (S : HS) (c : Nat) : gN (nO S c) = gN S + 1 := rfl
theorem gK_nA (S : HS) (kd n b : Nat) : gK (nA S kd n) b = if b = gN S then kd else gK S b := rfl
theorem gI_nA (S : HS) (kd n g b : Nat) : gI (nA S kd n) g b = gI S g b := rfl
theorem gP_nA (S : HS) (kd n g b : Nat) : gP (nA S kd n) g b = gP S g b := rfl
theorem gL_nA (S : HS) (kd n b : Nat) : gL (nA S kd n) b = if b = gN S then n else gL S b := rfl
theorem gR_nA (S : HS) (kd n b : Nat) : gR (nA S kd n) b = if b = gN S then (fun _ => 0) else gR S b := rfl
theorem gQ_nA (S : HS) (kd n b : Nat) : gQ (nA S kd n) b = if b = gN S then (fun _ => none) else gQ S b := rfl
theorem gN_nA (S : HS) (kd n : Nat) : gN (nA S kd n) = gN S + 1 := rfl
/-- which fields of a class hold references -/
def rfT (c : Nat) : List Bool := match c with
  | 0 => [false, true, false]
  | 1 => [false, false]
  | 2 => [true, true, false, false, false]
  | 3 => [false, false, false, false, false, false, false, false, false]
  | 4 => [false, false, false, false, false]
  | 5 => [true, true, false]
  | 6 => [false, false, false, false, false]
  | 7 => [false, true, true, true, true, false, false, false, false]
  | 8 => [true, false, false, false, true, true, false, true, true, true, false, false, false, true, true, true, true, true, true, true, true, false, true, true, true, false]
  | _ => []
def fv (S : HS) (c a : Nat) : List Value := (rfT c).zipIdx.map (fun q => if q.1 then va_rf (gP S (32 * c + q.2) a) else .int (gI S (32 * c + q.2) a))
theorem fv_get {c j : Nat} {b : Bool} (S : HS) (a : Nat) (h : (rfT c)[j]? = some b) : (fv S c a)[j]? = some (if b then va_rf (gP S (32 * c + j) a) else .int (gI S (32 * c + j) a)) := by
  simp [fv, List.getElem?_map, List.getElem?_zipIdx, h]
theorem fv_len (S : HS) (c a : Nat) : (fv S c a).length = (rfT c).length := by simp [fv]
theorem fv_setI {c j : Nat} (S : HS) (a : Nat) (v : Int32) (h : (rfT c)[j]? = some false) : fv (uI S (32 * c + j) a v) c a = (fv S c a).set j (.int v) := by
  apply List.ext_getElem?
  intro i
  rw [List.getElem?_set]
  by_cases hi : j = i
  · subst hi
    rw [fv_get _ _ h, fv_len]
    have hl : j < (rfT c).length := (List.getElem?_eq_some_iff.mp h).1
    simp [gI_uI, hl]
  · rw [if_neg hi]
    simp only [fv, List.getElem?_map, List.getElem?_zipIdx]
    cases hb : (rfT c)[i]? with
    | none => rfl
    | some b =>
      have hij : ¬ i = j := fun e => hi e.symm
      cases b <;> simp [gI_uI, gP_uI, hij]
theorem fv_setP {c j : Nat} (S : HS) (a : Nat) (v : Option Nat) (h : (rfT c)[j]? = some true) : fv (uP S (32 * c + j) a v) c a = (fv S c a).set j (va_rf v) := by
  apply List.ext_getElem?
  intro i
  rw [List.getElem?_set]
  by_cases hi : j = i
  · subst hi
    rw [fv_get _ _ h, fv_len]
    have hl : j < (rfT c).length := (List.getElem?_eq_some_iff.mp h).1
    simp [gP_uP, hl]
  · rw [if_neg hi]
    simp only [fv, List.getElem?_map, List.getElem?_zipIdx]
    cases hb : (rfT c)[i]? with
    | none => rfl
    | some b =>
      have hij : ¬ i = j := fun e => hi e.symm
      cases b <;> simp [gI_uP, gP_uP, hij]
theorem fv_neI {c a b f : Nat} (S : HS) (v : Int32) (h : b ≠ a) : fv (uI S f a v) c b = fv S c b := by
  simp [fv, gI_uI, gP_uI, h]
theorem fv_neP {c a b f : Nat} (S : HS) (v : Option Nat) (h : b ≠ a) : fv (uP S f a v) c b = fv S c b := by
  simp [fv, gI_uP, gP_uP, h]
/-- what does not change through a call of the law: launch, class numbers, row classes, addresses of the statics (0: the empty row, 1: COS, 2: GORE_NUMBERS, 3: the mirror), the first address that may be written -/
abbrev KT : Type := Launch × va_G × (Nat → ClassId) × (Nat → Nat) × Nat
def kA (k : KT) : Nat → Prop := fun q => k.2.2.2.2 ≤ q
def kT (k : KT) : List (ClassId × FieldType) := [(k.2.2.1 0, .int), (k.2.2.1 1, .boolean), (k.2.2.1 2, .object "GlobeWorks$Gore"), (k.2.2.1 3, .object "java/lang/Object")]
def ce (k : KT) (S : HS) (a : Nat) : va_E :=
  if gK S a = 20 then .inl (k.2.2.1 0, gL S a, .inl (gR S a)) else if gK S a = 21 then .inl (k.2.2.1 1, gL S a, .inl (gR S a)) else if gK S a = 22 then .inl (k.2.2.1 2, gL S a, .inr (.inr (.inr (.inr (gQ S a))))) else if gK S a = 23 then .inl (k.2.2.1 3, gL S a, .inr (.inr (.inr (.inr (gQ S a))))) else .inr (gK S a - 1, fv S (gK S a - 1) a)
theorem ce_20 {k : KT} {S : HS} {a : Nat} (h : gK S a = 20) : ce k S a = .inl (k.2.2.1 0, gL S a, .inl (gR S a)) := by simp [ce, h]
theorem ce_21 {k : KT} {S : HS} {a : Nat} (h : gK S a = 21) : ce k S a = .inl (k.2.2.1 1, gL S a, .inl (gR S a)) := by simp [ce, h]
theorem ce_22 {k : KT} {S : HS} {a : Nat} (h : gK S a = 22) : ce k S a = .inl (k.2.2.1 2, gL S a, .inr (.inr (.inr (.inr (gQ S a))))) := by simp [ce, h]
theorem ce_23 {k : KT} {S : HS} {a : Nat} (h : gK S a = 23) : ce k S a = .inl (k.2.2.1 3, gL S a, .inr (.inr (.inr (.inr (gQ S a))))) := by simp [ce, h]
theorem ce_o {k : KT} {S : HS} {a c : Nat} (h : gK S a = c + 1) (hc : c < 9) : ce k S a = .inr (c, fv S c a) := by
  have h1 : gK S a ≠ 20 := by omega
  have h2 : gK S a ≠ 21 := by omega
  have h3 : gK S a ≠ 22 := by omega
  have h4 : gK S a ≠ 23 := by omega
  have h5 : gK S a - 1 = c := by omega
  simp only [ce, if_neg h1, if_neg h2, if_neg h3, if_neg h4, h5]
def Rl (k : KT) (S : HS) (H : Heap) : Prop := H.size = gN S ∧ ∀ a, gK S a ≠ 0 → k.2.2.2.2 ≤ a ∧ va_at k.2.1 vwCl (a, ce k S a) H
theorem Rl.set {k : KT} {S S' : HS} {H H1 : Heap} {a : Nat} (h : Rl k S H) (hz : H1.size = H.size) (ho : ∀ q, q ≠ a → H1[q]? = H[q]?) (hK : ∀ b, gK S' b = gK S b) (hN : gN S' = gN S) (hc : ∀ b, b ≠ a → ce k S' b = ce k S b) (ha : va_at k.2.1 vwCl (a, ce k S' a) H1) : Rl k S' H1 := by
  refine ⟨by rw [hz, hN]; exact h.1, fun b hb => ?_⟩
  rw [hK] at hb
  refine ⟨(h.2 b hb).1, ?_⟩
  by_cases e : b = a
  · subst e; exact ha
  · rw [hc b e]
    exact (h.2 b hb).2.kept (ho b e)
theorem Rl.lt {k : KT} {S : HS} {H : Heap} (h : Rl k S H) {a : Nat} (ha : gK S a ≠ 0) : a < gN S := by
  have := (h.2 a ha).2.lt
  rw [← h.1]; exact this
theorem Rl.push {k : KT} {S S' : HS} {H H1 : Heap} (h : Rl k S H) (hz : H1.size = H.size + 1) (ho : ∀ q, q < H.size → H1[q]? = H[q]?) (hlo : k.2.2.2.2 ≤ H.size) (hK : ∀ b, b ≠ gN S → gK S' b = gK S b) (hN : gN S' = gN S + 1) (hc : ∀ b, b ≠ gN S → ce k S' b = ce k S b) (ha : va_at k.2.1 vwCl (gN S, ce k S' (gN S)) H1) : Rl k S' H1 := by
  refine ⟨by rw [hz, hN, h.1], fun b hb => ?_⟩
  by_cases e : b = gN S
  · subst e; exact ⟨by rw [← h.1]; exact hlo, ha⟩
  · rw [hK b e] at hb
    refine ⟨(h.2 b hb).1, ?_⟩
    rw [hc b e]
    have hl := (h.2 b hb).2.lt
    exact (h.2 b hb).2.kept (ho b hl)
theorem ce_uI {k : KT} {S : HS} {f a b : Nat} {v : Int32} (h : b ≠ a) : ce k (uI S f a v) b = ce k S b := by
  simp only [ce, gK_uI, gL_uI, gR_uI, gQ_uI, fv_neI S v h]
  try rfl
theorem ce_uP {k : KT} {S : HS} {f a b : Nat} {v : Option Nat} (h : b ≠ a) : ce k (uP S f a v) b = ce k S b := by
  simp only [ce, gK_uP, gL_uP, gR_uP, gQ_uP, fv_neP S v h]
  try rfl
theorem fv_uR {c a b : Nat} (S : HS) (r : Nat → Int32) : fv (uR S a r) c b = fv S c b := rfl
theorem fv_uQ {c a b : Nat} (S : HS) (r : Nat → Option Nat) : fv (uQ S a r) c b = fv S c b := rfl
theorem ce_uR {k : KT} {S : HS} {a b : Nat} {r : Nat → Int32} (h : b ≠ a) : ce k (uR S a r) b = ce k S b := by
  simp only [ce, gK_uR, gL_uR, gR_uR, gQ_uR, fv_uR, if_neg h]
  try rfl
theorem ce_uQ {k : KT} {S : HS} {a b : Nat} {r : Nat → Option Nat} (h : b ≠ a) : ce k (uQ S a r) b = ce k S b := by
  simp only [ce, gK_uQ, gL_uQ, gR_uQ, gQ_uQ, fv_uQ, if_neg h]
  try rfl
theorem fv_nO {c d b : Nat} (S : HS) (h : b ≠ gN S) : fv (nO S d) c b = fv S c b := by
  simp [fv, gI_nO, gP_nO, h]
theorem ce_nO {k : KT} {S : HS} {c b : Nat} (h : b ≠ gN S) : ce k (nO S c) b = ce k S b := by
  simp only [ce, gK_nO, gL_nO, gR_nO, gQ_nO, fv_nO S h, if_neg h]
  try rfl
theorem fv_nA {c kd n b : Nat} (S : HS) : fv (nA S kd n) c b = fv S c b := rfl
theorem ce_nA {k : KT} {S : HS} {kd n b : Nat} (h : b ≠ gN S) : ce k (nA S kd n) b = ce k S b := by
  simp only [ce, gK_nA, gL_nA, gR_nA, gQ_nA, fv_nA, if_neg h]
  try rfl
/-- the statics' rows -/
def cosL : List Int32 := [1000, 1000, 999, 999, 998, 996, 995, 993, 990, 988, 985, 982, 978, 974, 970, 966, 961, 956, 951, 946, 940, 934, 927, 921, 914, 906, 899, 891, 883, 875, 866, 857, 848, 839, 829, 819, 809, 799, 788, 777, 766, 755, 743, 731, 719, 707, 695, 682, 669, 656, 643, 629, 616, 602, 588, 574, 559, 545, 530, 515, 500, 485, 469, 454, 438, 423, 407, 391, 375, 358, 342, 326, 309, 292, 276, 259, 242, 225, 208, 191, 174, 156, 139, 122, 105, 87, 70, 52, 35, 17, 0]
def gorL : List Int32 := [6, 8, 9, 10, 12, 15, 18, 20, 24]
def nwL : List Cond := [.methodLinkNest RX6 40 yX1_init "GlobeWorks", .methodLinkNest RX6 21 yX4_init "GlobeWorks", .methodLinkNest RX5 42 yX6_roundBy "GlobeWorks"]
def csL : List (String × String) := [(RX0, "java/lang/Object"), (RX2, "java/lang/Object"), (RX3, "java/lang/Object")]
/-- what every method's start gives beside the tables' words -/
def Gd (k : KT) (U : State) : Prop :=
  va_K k.2.1 vwCl (kT k) U ∧ (va_Nw (.methodLinkNest RX6 40 yX1_init "GlobeWorks") U ∧ va_Nw (.methodLinkNest RX6 21 yX4_init "GlobeWorks") U ∧ va_Nw (.methodLinkNest RX5 42 yX6_roundBy "GlobeWorks") U) ∧ (∀ q ∈ csL, va_Nw (.castable q.1 q.2) U) ∧ (va_AO "GlobeWorks$Gore" U ∧ va_AO "java/lang/Object" U) ∧
  (va_Z "java/util/ArrayList" "DEFAULTCAPACITY_EMPTY_ELEMENTDATA" "[Ljava/lang/Object;" (.ref (k.2.2.2.1 0)) (kA k) U U.heap ∧ va_Z "GlobeWorks" "COS" "[I" (.ref (k.2.2.2.1 1)) (kA k) U U.heap ∧ va_Z "GlobeWorks" "GORE_NUMBERS" "[I" (.ref (k.2.2.2.1 2)) (kA k) U U.heap) ∧
  (va_T (.object "java/lang/Object") (k.2.2.2.1 0) 0 (fun _ => .null) (kA k) U U.heap ∧ va_T .int (k.2.2.2.1 1) 91 (fun j => .int (cosL.getD j 0)) (kA k) U U.heap ∧ va_T .int (k.2.2.2.1 2) 9 (fun j => .int (gorL.getD j 0)) (kA k) U U.heap) ∧
  va_Mi "[Ljava/lang/Object;" (k.2.2.2.1 3) U ∧ va_Dc U ∧ k.2.2.2.2 ≤ U.heap.size
end
section
/-! THE JUDGEMENT: a method at a place of its code, with its locals, its operands and the state of the system, comes to its end as Z asks. -/
abbrev MT : Type := Room × MethodName × ByteArray × Nat × Option FieldType
abbrev ZT : Type := List Frame → Array Value → State → State → Prop
def Cx (k : KT) (μ : MT) (p : Program) (s : State) (m : MethodId) (args : Array Value) (meth : Method) (c : Code) : Prop :=
  p.tables.exec = Jvm.exec ∧ c.code = μ.2.2.1 ∧ c.maxLocals = μ.2.2.2.1 ∧ meth.sig.returnType = μ.2.2.2.2 ∧ (∀ w ∈ wsL_law, w.before args s = true) ∧ s.vm.findClass μ.2.1.cls = some m.cls ∧ meth.locks = false ∧ meth.name = μ.2.1.name ∧ Gd k s
def X (k : KT) (μ : MT) (Z : ZT) (pc : Nat) (lv : List (Nat × Value)) (st : List Value) (S : HS) (cells slots : Nat) : Prop :=
  ∀ (p : Program) (e : Env) (s : State) (m : MethodId) (args : Array Value) (below : List Frame) (meth : Method) (c : Code) (H : Heap) (locs : List Loc) (ls : Array Slot),
    Cx k μ p s m args meth c → lv_has ls μ.2.2.2.1 lv → Rl k S H → va_S (kA k) s.heap H locs → W p k.1 e μ.1 s m args below meth c H locs cells slots (Z below args s) (F0 m pc ls st)
def Qc (k : KT) (Q : Option Value → HS → Prop) : Array Value → State → Outcome → State → Prop := fun _ st o t => (∃ (v : Option Value) (S : HS), o = .returned v ∧ Q v S ∧ Rl k S t.heap) ∧ va_F (kA k) st t
def Pcd (k : KT) (av : List Value) (S : HS) : Array Value → State → Prop := va_Pc av (fun U => Rl k S U.heap ∧ Gd k U)
/-- a method's contract: from the state S with the arguments av it returns v and the state T, with Q v T -/
def Ct (k : KT) (μ : MT) (av : List Value) (S : HS) (Q : Option Value → HS → Prop) : Prop :=
  Met k.1 μ.2.1 (.code μ.2.1 μ.2.2.1 μ.2.2.2.1 μ.2.2.2.2 :: wsL_law) μ.1 (Pcd k av S) (Qc k Q) μ.1.cells μ.1.slots (kA k)
def Zm (k : KT) (μ : MT) (Q : Option Value → HS → Prop) : ZT := fun below args s => MQ below (Qc k Q) args s μ.1.cells μ.1.slots (kA k)
theorem Gd.warm {k : KT} {s U : State} {H : Heap} {locs : List Loc} (h : Gd k s) (hW : s.WarmedH U.vm) (hH : U.heap = H) (hS : va_S (kA k) s.heap H locs) : Gd k U := by
  obtain ⟨h1, ⟨h2, h3, h4⟩, h5, ⟨h6, h7⟩, ⟨h8, h9, h10⟩, ⟨h11, h12, h13⟩, h14, h15, h16⟩ := h
  have ha := hW.alike
  subst hH
  have hq : ∀ q : Nat, q < s.heap.size → ¬ kA k q → U.heap[q]? = s.heap[q]? := hS.2.1
  exact ⟨h1.moved ha, ⟨h2.warmM hW, h3.warmM hW, h4.warmM hW⟩, fun q hq => (h5 q hq).warmC hW, ⟨h6.moved ha, h7.moved ha⟩, ⟨(h8.moved ha).kept hq, (h9.moved ha).kept hq, (h10.moved ha).kept hq⟩, ⟨(h11.moved ha).kept hq, (h12.moved ha).kept hq, (h13.moved ha).kept hq⟩, h14.moved ha, h15.moved ha, Nat.le_trans h16 hS.1⟩
theorem Gd.calling {k : KT} {U : State} {g : JFrame} {mk : MethodId} {a : Array Value} (h : Gd k U) : Gd k (U.calling g mk a) := by
  obtain ⟨h1, ⟨h2, h3, h4⟩, h5, ⟨h6, h7⟩, ⟨h8, h9, h10⟩, ⟨h11, h12, h13⟩, h14, h15, h16⟩ := h
  have ha : U.vm.Alike (U.calling g mk a).vm := Vm.Alike.refl U.vm
  exact ⟨va_K.moved (U := U.calling g mk a) ha h1, ⟨va_Nw.same rfl rfl h2, va_Nw.same rfl rfl h3, va_Nw.same rfl rfl h4⟩, fun q hq => va_Nw.same rfl rfl (h5 q hq), ⟨va_AO.moved (U := U.calling g mk a) ha h6, va_AO.moved (U := U.calling g mk a) ha h7⟩, ⟨va_Z.moved (U := U.calling g mk a) ha h8, va_Z.moved (U := U.calling g mk a) ha h9, va_Z.moved (U := U.calling g mk a) ha h10⟩, ⟨va_T.moved (U := U.calling g mk a) ha h11, va_T.moved (U := U.calling g mk a) ha h12, va_T.moved (U := U.calling g mk a) ha h13⟩, va_Mi.moved (U := U.calling g mk a) ha h14, va_Dc.moved (U := U.calling g mk a) ha h15, h16⟩
theorem Pcd.blind {k : KT} {av : List Value} {S : HS} : FrameBlind (Pcd k av S) := by
  intro a U g mk h
  exact ⟨h.1, h.2.1, h.2.2.calling⟩
/-- the contract out of the walk from the method's entry -/
theorem Ct.of {k : KT} {μ : MT} {av : List Value} {S : HS} {Q : Option Value → HS → Prop} (hy : plainName μ.2.1.cls = true) (hl : (lg_sl av).length ≤ μ.2.2.2.1) (h : X k μ (Zm k μ Q) 0 (lv_args 0 av) [] S 0 0) : Ct k μ av S Q := by
  refine Met.ofW (cc := μ.2.2.1) (maxL := μ.2.2.2.1) (ret := μ.2.2.2.2) hy rfl ?_
  intro p e s m args below meth c s₁ B hml hv
  obtain ⟨rfl, hR, hG⟩ := hv
  have hts := atoms_spec (ws := .code μ.2.1 μ.2.2.1 μ.2.2.2.1 μ.2.2.2.2 :: wsL_law) B.pre
  have hown : s.vm.findClass μ.2.1.cls = some m.cls := findClass_of_methodNamed B.named
  have hnm : meth.name = μ.2.1.name := (name_of_methodNamed B.named B.method).1
  have hls := lv_entry av (n := μ.2.2.2.1) hl
  rw [lg_entry_eq]
  exact h p e s m _ below meth c s.heap [] _ ⟨B.exec, B.bytes, hml, B.returns, fun w hw => hts w (List.mem_cons_of_mem _ hw), hown, B.notSynchronized, hnm, hG⟩ hls hR va_S.rf
theorem Ct.weaken {k : KT} {μ : MT} {av : List Value} {S : HS} {Q Q' : Option Value → HS → Prop} (h : Ct k μ av S Q) (hq : ∀ v T, Q v T → Q' v T) : Ct k μ av S Q' := by
  intro p e ha hc hk s m args below hf happ hP hK
  obtain ⟨t, o, h1, h2, h3, ⟨⟨v, T, r1, r2, r3⟩, r4⟩, h5⟩ := h p e ha hc hk s m args below hf happ hP hK
  exact ⟨t, o, h1, h2, h3, ⟨⟨v, T, r1, hq v T r2, r3⟩, r4⟩, h5⟩
theorem x_iconst {k : KT} {μ : MT} {Z : ZT} {pc : Nat} {lv : List (Nat × Value)} {rest : List Value} {S : HS} {cells slots : Nat} {n : Int} (v : Int32) (hd : decode μ.2.2.1 pc = .ok (.iconst n, 1)) (hv : Int32.ofInt n = v) (kk : X k μ Z (pc + 1) lv (.int v :: rest) S cells slots) : X k μ Z pc lv rest S cells slots := fun p e s m args below meth c H locs ls C hl hR hS => lv_iconst C.1 C.2.1 hd hv (kk p e s m args below meth c H locs ls C hl hR hS)
theorem x_bipush {k : KT} {μ : MT} {Z : ZT} {pc : Nat} {lv : List (Nat × Value)} {rest : List Value} {S : HS} {cells slots : Nat} {n : Int} (v : Int32) (hd : decode μ.2.2.1 pc = .ok (.bipush n, 2)) (hv : (Int8.ofInt n).toInt32 = v) (kk : X k μ Z (pc + 2) lv (.int v :: rest) S cells slots) : X k μ Z pc lv rest S cells slots := fun p e s m args below meth c H locs ls C hl hR hS => lv_bipush C.1 C.2.1 hd hv (kk p e s m args below meth c H locs ls C hl hR hS)
theorem x_sipush {k : KT} {μ : MT} {Z : ZT} {pc : Nat} {lv : List (Nat × Value)} {rest : List Value} {S : HS} {cells slots : Nat} {n : Int} (v : Int32) (hd : decode μ.2.2.1 pc = .ok (.sipush n, 3)) (hv : (Int16.ofInt n).toInt32 = v) (kk : X k μ Z (pc + 3) lv (.int v :: rest) S cells slots) : X k μ Z pc lv rest S cells slots := fun p e s m args below meth c H locs ls C hl hR hS => lv_sipush C.1 C.2.1 hd hv (kk p e s m args below meth c H locs ls C hl hR hS)
theorem x_iload_n {k : KT} {μ : MT} {Z : ZT} {pc : Nat} {lv : List (Nat × Value)} {rest : List Value} {S : HS} {cells slots : Nat} {n : Fin 4} {x : Int32} (j : Nat) (hd : decode μ.2.2.1 pc = .ok (.iload_n n, 1)) (h : lv[j]? = some ((n : Nat), Value.int x)) (kk : X k μ Z (pc + 1) lv (.int x :: rest) S cells slots) : X k μ Z pc lv rest S cells slots := fun p e s m args below meth c H locs ls C hl hR hS => lv_iload_n C.1 C.2.1 hd rfl (lv_at hl j h) (kk p e s m args below meth c H locs ls C hl hR hS)
theorem x_iload {k : KT} {μ : MT} {Z : ZT} {pc : Nat} {lv : List (Nat × Value)} {rest : List Value} {S : HS} {cells slots : Nat} {i : Nat} {x : Int32} (j : Nat) (hd : decode μ.2.2.1 pc = .ok (.iload i, 2)) (h : lv[j]? = some (i, Value.int x)) (kk : X k μ Z (pc + 2) lv (.int x :: rest) S cells slots) : X k μ Z pc lv rest S cells slots := fun p e s m args below meth c H locs ls C hl hR hS => lv_iload C.1 C.2.1 hd (lv_at hl j h) (kk p e s m args below meth c H locs ls C hl hR hS)
theorem x_aload_n {k : KT} {μ : MT} {Z : ZT} {pc : Nat} {lv : List (Nat × Value)} {rest : List Value} {S : HS} {cells slots : Nat} {n : Fin 4} {x : Nat} (j : Nat) (hd : decode μ.2.2.1 pc = .ok (.aload_n n, 1)) (h : lv[j]? = some ((n : Nat), Value.ref x)) (kk : X k μ Z (pc + 1) lv (.ref x :: rest) S cells slots) : X k μ Z pc lv rest S cells slots := fun p e s m args below meth c H locs ls C hl hR hS => lv_aload_n C.1 C.2.1 hd rfl (lv_at hl j h) (kk p e s m args below meth c H locs ls C hl hR hS)
theorem x_aload {k : KT} {μ : MT} {Z : ZT} {pc : Nat} {lv : List (Nat × Value)} {rest : List Value} {S : HS} {cells slots : Nat} {i : Nat} {x : Nat} (j : Nat) (hd : decode μ.2.2.1 pc = .ok (.aload i, 2)) (h : lv[j]? = some (i, Value.ref x)) (kk : X k μ Z (pc + 2) lv (.ref x :: rest) S cells slots) : X k μ Z pc lv rest S cells slots := fun p e s m args below meth c H locs ls C hl hR hS => lv_aload C.1 C.2.1 hd (lv_at hl j h) (kk p e s m args below meth c H locs ls C hl hR hS)
theorem x_aload_nN {k : KT} {μ : MT} {Z : ZT} {pc : Nat} {lv : List (Nat × Value)} {rest : List Value} {S : HS} {cells slots : Nat} {n : Fin 4} (j : Nat) (hd : decode μ.2.2.1 pc = .ok (.aload_n n, 1)) (h : lv[j]? = some ((n : Nat), Value.null)) (kk : X k μ Z (pc + 1) lv (.null :: rest) S cells slots) : X k μ Z pc lv rest S cells slots := fun p e s m args below meth c H locs ls C hl hR hS => lv_aload_nN C.1 C.2.1 hd rfl (lv_at hl j h) (kk p e s m args below meth c H locs ls C hl hR hS)
theorem x_aloadN {k : KT} {μ : MT} {Z : ZT} {pc : Nat} {lv : List (Nat × Value)} {rest : List Value} {S : HS} {cells slots : Nat} {i : Nat} (j : Nat) (hd : decode μ.2.2.1 pc = .ok (.aload i, 2)) (h : lv[j]? = some (i, Value.null)) (kk : X k μ Z (pc + 2) lv (.null :: rest) S cells slots) : X k μ Z pc lv rest S cells slots := fun p e s m args below meth c H locs ls C hl hR hS => lv_aloadN C.1 C.2.1 hd (lv_at hl j h) (kk p e s m args below meth c H locs ls C hl hR hS)
theorem x_istore_n {k : KT} {μ : MT} {Z : ZT} {pc : Nat} {lv : List (Nat × Value)} {rest : List Value} {S : HS} {cells slots : Nat} {n : Fin 4} {x : Int32} (lv' : List (Nat × Value)) (hd : decode μ.2.2.1 pc = .ok (.istore_n n, 1)) (hn : (n : Nat) < μ.2.2.2.1) (hv : ((n : Nat), Value.int x) :: lv.filter (fun q => !(q.1 == (n : Nat)) && !(q.1 + 1 == (n : Nat) && q.2.category == 2)) = lv') (kk : X k μ Z (pc + 1) lv' rest S cells slots) : X k μ Z pc lv (.int x :: rest) S cells slots := fun p e s m args below meth c H locs ls C hl hR hS => lv_istore_n C.1 C.2.1 hd rfl hl hn hv (fun ls' hl' => kk p e s m args below meth c H locs ls' C hl' hR hS)
theorem x_istore {k : KT} {μ : MT} {Z : ZT} {pc : Nat} {lv : List (Nat × Value)} {rest : List Value} {S : HS} {cells slots : Nat} {i : Nat} {x : Int32} (lv' : List (Nat × Value)) (hd : decode μ.2.2.1 pc = .ok (.istore i, 2)) (hn : i < μ.2.2.2.1) (hv : (i, Value.int x) :: lv.filter (fun q => !(q.1 == i) && !(q.1 + 1 == i && q.2.category == 2)) = lv') (kk : X k μ Z (pc + 2) lv' rest S cells slots) : X k μ Z pc lv (.int x :: rest) S cells slots := fun p e s m args below meth c H locs ls C hl hR hS => lv_istore C.1 C.2.1 hd hl hn hv (fun ls' hl' => kk p e s m args below meth c H locs ls' C hl' hR hS)
theorem x_astore_n {k : KT} {μ : MT} {Z : ZT} {pc : Nat} {lv : List (Nat × Value)} {rest : List Value} {S : HS} {cells slots : Nat} {n : Fin 4} {x : Nat} (lv' : List (Nat × Value)) (hd : decode μ.2.2.1 pc = .ok (.astore_n n, 1)) (hn : (n : Nat) < μ.2.2.2.1) (hv : ((n : Nat), Value.ref x) :: lv.filter (fun q => !(q.1 == (n : Nat)) && !(q.1 + 1 == (n : Nat) && q.2.category == 2)) = lv') (kk : X k μ Z (pc + 1) lv' rest S cells slots) : X k μ Z pc lv (.ref x :: rest) S cells slots := fun p e s m args below meth c H locs ls C hl hR hS => lv_astore_n C.1 C.2.1 hd rfl hl hn hv (fun ls' hl' => kk p e s m args below meth c H locs ls' C hl' hR hS)
theorem x_astore {k : KT} {μ : MT} {Z : ZT} {pc : Nat} {lv : List (Nat × Value)} {rest : List Value} {S : HS} {cells slots : Nat} {i : Nat} {x : Nat} (lv' : List (Nat × Value)) (hd : decode μ.2.2.1 pc = .ok (.astore i, 2)) (hn : i < μ.2.2.2.1) (hv : (i, Value.ref x) :: lv.filter (fun q => !(q.1 == i) && !(q.1 + 1 == i && q.2.category == 2)) = lv') (kk : X k μ Z (pc + 2) lv' rest S cells slots) : X k μ Z pc lv (.ref x :: rest) S cells slots := fun p e s m args below meth c H locs ls C hl hR hS => lv_astore C.1 C.2.1 hd hl hn hv (fun ls' hl' => kk p e s m args below meth c H locs ls' C hl' hR hS)
theorem x_astore_nN {k : KT} {μ : MT} {Z : ZT} {pc : Nat} {lv : List (Nat × Value)} {rest : List Value} {S : HS} {cells slots : Nat} {n : Fin 4} (lv' : List (Nat × Value)) (hd : decode μ.2.2.1 pc = .ok (.astore_n n, 1)) (hn : (n : Nat) < μ.2.2.2.1) (hv : ((n : Nat), Value.null) :: lv.filter (fun q => !(q.1 == (n : Nat)) && !(q.1 + 1 == (n : Nat) && q.2.category == 2)) = lv') (kk : X k μ Z (pc + 1) lv' rest S cells slots) : X k μ Z pc lv (.null :: rest) S cells slots := fun p e s m args below meth c H locs ls C hl hR hS => lv_astore_nN C.1 C.2.1 hd rfl hl hn hv (fun ls' hl' => kk p e s m args below meth c H locs ls' C hl' hR hS)
theorem x_astoreN {k : KT} {μ : MT} {Z : ZT} {pc : Nat} {lv : List (Nat × Value)} {rest : List Value} {S : HS} {cells slots : Nat} {i : Nat} (lv' : List (Nat × Value)) (hd : decode μ.2.2.1 pc = .ok (.astore i, 2)) (hn : i < μ.2.2.2.1) (hv : (i, Value.null) :: lv.filter (fun q => !(q.1 == i) && !(q.1 + 1 == i && q.2.category == 2)) = lv') (kk : X k μ Z (pc + 2) lv' rest S cells slots) : X k μ Z pc lv (.null :: rest) S cells slots := fun p e s m args below meth c H locs ls C hl hR hS => lv_astoreN C.1 C.2.1 hd hl hn hv (fun ls' hl' => kk p e s m args below meth c H locs ls' C hl' hR hS)
theorem x_iinc {k : KT} {μ : MT} {Z : ZT} {pc : Nat} {lv : List (Nat × Value)} {rest : List Value} {S : HS} {cells slots : Nat} {i : Nat} {n : Int} {x : Int32} (j : Nat) (v : Int32) (lv' : List (Nat × Value)) (hd : decode μ.2.2.1 pc = .ok (.iinc i n, 3)) (hj : lv[j]? = some (i, .int x)) (hv : x + Int32.ofInt n = v) (hn : i < μ.2.2.2.1) (hw : (i, Value.int v) :: lv.filter (fun q => !(q.1 == i) && !(q.1 + 1 == i && q.2.category == 2)) = lv') (kk : X k μ Z (pc + 3) lv' rest S cells slots) : X k μ Z pc lv rest S cells slots := fun p e s m args below meth c H locs ls C hl hR hS => lv_iinc C.1 C.2.1 hd hl hj hv hn hw (fun ls' hl' => kk p e s m args below meth c H locs ls' C hl' hR hS)
theorem x_iadd {k : KT} {μ : MT} {Z : ZT} {pc : Nat} {lv : List (Nat × Value)} {rest : List Value} {S : HS} {cells slots : Nat} {x y : Int32} (hd : decode μ.2.2.1 pc = .ok (.iadd, 1))  (kk : X k μ Z (pc + 1) lv (.int (x + y) :: rest) S cells slots) : X k μ Z pc lv (.int y :: .int x :: rest) S cells slots := fun p e s m args below meth c H locs ls C hl hR hS => lv_iadd C.1 C.2.1 hd (kk p e s m args below meth c H locs ls C hl hR hS)
theorem x_isub {k : KT} {μ : MT} {Z : ZT} {pc : Nat} {lv : List (Nat × Value)} {rest : List Value} {S : HS} {cells slots : Nat} {x y : Int32} (hd : decode μ.2.2.1 pc = .ok (.isub, 1))  (kk : X k μ Z (pc + 1) lv (.int (x - y) :: rest) S cells slots) : X k μ Z pc lv (.int y :: .int x :: rest) S cells slots := fun p e s m args below meth c H locs ls C hl hR hS => lv_isub C.1 C.2.1 hd (kk p e s m args below meth c H locs ls C hl hR hS)
theorem x_imul {k : KT} {μ : MT} {Z : ZT} {pc : Nat} {lv : List (Nat × Value)} {rest : List Value} {S : HS} {cells slots : Nat} {x y : Int32} (hd : decode μ.2.2.1 pc = .ok (.imul, 1))  (kk : X k μ Z (pc + 1) lv (.int (x * y) :: rest) S cells slots) : X k μ Z pc lv (.int y :: .int x :: rest) S cells slots := fun p e s m args below meth c H locs ls C hl hR hS => lv_imul C.1 C.2.1 hd (kk p e s m args below meth c H locs ls C hl hR hS)
theorem x_iand {k : KT} {μ : MT} {Z : ZT} {pc : Nat} {lv : List (Nat × Value)} {rest : List Value} {S : HS} {cells slots : Nat} {x y : Int32} (hd : decode μ.2.2.1 pc = .ok (.iand, 1))  (kk : X k μ Z (pc + 1) lv (.int (x &&& y) :: rest) S cells slots) : X k μ Z pc lv (.int y :: .int x :: rest) S cells slots := fun p e s m args below meth c H locs ls C hl hR hS => lv_iand C.1 C.2.1 hd (kk p e s m args below meth c H locs ls C hl hR hS)
theorem x_ior {k : KT} {μ : MT} {Z : ZT} {pc : Nat} {lv : List (Nat × Value)} {rest : List Value} {S : HS} {cells slots : Nat} {x y : Int32} (hd : decode μ.2.2.1 pc = .ok (.ior, 1))  (kk : X k μ Z (pc + 1) lv (.int (x ||| y) :: rest) S cells slots) : X k μ Z pc lv (.int y :: .int x :: rest) S cells slots := fun p e s m args below meth c H locs ls C hl hR hS => lv_ior C.1 C.2.1 hd (kk p e s m args below meth c H locs ls C hl hR hS)
theorem x_ixor {k : KT} {μ : MT} {Z : ZT} {pc : Nat} {lv : List (Nat × Value)} {rest : List Value} {S : HS} {cells slots : Nat} {x y : Int32} (hd : decode μ.2.2.1 pc = .ok (.ixor, 1))  (kk : X k μ Z (pc + 1) lv (.int (x ^^^ y) :: rest) S cells slots) : X k μ Z pc lv (.int y :: .int x :: rest) S cells slots := fun p e s m args below meth c H locs ls C hl hR hS => lv_ixor C.1 C.2.1 hd (kk p e s m args below meth c H locs ls C hl hR hS)
theorem x_ishl {k : KT} {μ : MT} {Z : ZT} {pc : Nat} {lv : List (Nat × Value)} {rest : List Value} {S : HS} {cells slots : Nat} {x y : Int32} (hd : decode μ.2.2.1 pc = .ok (.ishl, 1))  (kk : X k μ Z (pc + 1) lv (.int (x <<< (y &&& 31)) :: rest) S cells slots) : X k μ Z pc lv (.int y :: .int x :: rest) S cells slots := fun p e s m args below meth c H locs ls C hl hR hS => lv_ishl C.1 C.2.1 hd (kk p e s m args below meth c H locs ls C hl hR hS)
theorem x_ishr {k : KT} {μ : MT} {Z : ZT} {pc : Nat} {lv : List (Nat × Value)} {rest : List Value} {S : HS} {cells slots : Nat} {x y : Int32} (hd : decode μ.2.2.1 pc = .ok (.ishr, 1))  (kk : X k μ Z (pc + 1) lv (.int (x >>> (y &&& 31)) :: rest) S cells slots) : X k μ Z pc lv (.int y :: .int x :: rest) S cells slots := fun p e s m args below meth c H locs ls C hl hR hS => lv_ishr C.1 C.2.1 hd (kk p e s m args below meth c H locs ls C hl hR hS)
theorem x_idiv {k : KT} {μ : MT} {Z : ZT} {pc : Nat} {lv : List (Nat × Value)} {rest : List Value} {S : HS} {cells slots : Nat} {x y : Int32} (hd : decode μ.2.2.1 pc = .ok (.idiv, 1)) (hne : ¬ y = 0) (kk : X k μ Z (pc + 1) lv (.int (x / y) :: rest) S cells slots) : X k μ Z pc lv (.int y :: .int x :: rest) S cells slots := fun p e s m args below meth c H locs ls C hl hR hS => lv_idiv C.1 C.2.1 hd hne (kk p e s m args below meth c H locs ls C hl hR hS)
theorem x_irem {k : KT} {μ : MT} {Z : ZT} {pc : Nat} {lv : List (Nat × Value)} {rest : List Value} {S : HS} {cells slots : Nat} {x y : Int32} (hd : decode μ.2.2.1 pc = .ok (.irem, 1)) (hne : ¬ y = 0) (kk : X k μ Z (pc + 1) lv (.int (x - x / y * y) :: rest) S cells slots) : X k μ Z pc lv (.int y :: .int x :: rest) S cells slots := fun p e s m args below meth c H locs ls C hl hR hS => lv_irem C.1 C.2.1 hd hne (kk p e s m args below meth c H locs ls C hl hR hS)
theorem x_ineg {k : KT} {μ : MT} {Z : ZT} {pc : Nat} {lv : List (Nat × Value)} {rest : List Value} {S : HS} {cells slots : Nat} {x : Int32} (hd : decode μ.2.2.1 pc = .ok (.ineg, 1))  (kk : X k μ Z (pc + 1) lv (.int (-x) :: rest) S cells slots) : X k μ Z pc lv (.int x :: rest) S cells slots := fun p e s m args below meth c H locs ls C hl hR hS => lv_ineg C.1 C.2.1 hd (kk p e s m args below meth c H locs ls C hl hR hS)
theorem x_dup {k : KT} {μ : MT} {Z : ZT} {pc : Nat} {lv : List (Nat × Value)} {rest : List Value} {S : HS} {cells slots : Nat} {v : Value} (hd : decode μ.2.2.1 pc = .ok (.dup, 1)) (hv : v.category = 1) (kk : X k μ Z (pc + 1) lv (v :: v :: rest) S cells slots) : X k μ Z pc lv (v :: rest) S cells slots := fun p e s m args below meth c H locs ls C hl hR hS => lv_dup C.1 C.2.1 hd hv (kk p e s m args below meth c H locs ls C hl hR hS)
theorem x_pop {k : KT} {μ : MT} {Z : ZT} {pc : Nat} {lv : List (Nat × Value)} {rest : List Value} {S : HS} {cells slots : Nat} {v : Value} (hd : decode μ.2.2.1 pc = .ok (.pop, 1)) (hv : v.category = 1) (kk : X k μ Z (pc + 1) lv rest S cells slots) : X k μ Z pc lv (v :: rest) S cells slots := fun p e s m args below meth c H locs ls C hl hR hS => lv_pop C.1 C.2.1 hd hv (kk p e s m args below meth c H locs ls C hl hR hS)
theorem x_dup_x1 {k : KT} {μ : MT} {Z : ZT} {pc : Nat} {lv : List (Nat × Value)} {rest : List Value} {S : HS} {cells slots : Nat} {v w : Value} (hd : decode μ.2.2.1 pc = .ok (.dup_x1, 1)) (hv : v.category = 1) (hw : w.category = 1) (kk : X k μ Z (pc + 1) lv (v :: w :: v :: rest) S cells slots) : X k μ Z pc lv (v :: w :: rest) S cells slots := fun p e s m args below meth c H locs ls C hl hR hS => lv_dup_x1 C.1 C.2.1 hd hv hw (kk p e s m args below meth c H locs ls C hl hR hS)
theorem x_null {k : KT} {μ : MT} {Z : ZT} {pc : Nat} {lv : List (Nat × Value)} {rest : List Value} {S : HS} {cells slots : Nat}  (hd : decode μ.2.2.1 pc = .ok (.aconst_null, 1))  (kk : X k μ Z (pc + 1) lv (.null :: rest) S cells slots) : X k μ Z pc lv rest S cells slots := fun p e s m args below meth c H locs ls C hl hR hS => lv_null C.1 C.2.1 hd (kk p e s m args below meth c H locs ls C hl hR hS)
theorem x_if_eq {k : KT} {μ : MT} {Z : ZT} {pc : Nat} {lv : List (Nat × Value)} {rest : List Value} {S : HS} {cells slots : Nat} {x : Int32} {off : Int} (tgt : Nat) (hd : decode μ.2.2.1 pc = .ok (.ifCond .eq off, 3)) (ht : (pc : Int) + off = (tgt : Int)) (kt : x = 0 → X k μ Z tgt lv rest S cells slots) (kf : ¬ x = 0 → X k μ Z (pc + 3) lv rest S cells slots) : X k μ Z pc lv (.int x :: rest) S cells slots := fun p e s m args below meth c H locs ls C hl hR hS => lv_if_eq C.1 C.2.1 hd ht (fun q => kt q p e s m args below meth c H locs ls C hl hR hS) (fun q => kf q p e s m args below meth c H locs ls C hl hR hS)
theorem x_icmp_eq {k : KT} {μ : MT} {Z : ZT} {pc : Nat} {lv : List (Nat × Value)} {rest : List Value} {S : HS} {cells slots : Nat} {x y : Int32} {off : Int} (tgt : Nat) (hd : decode μ.2.2.1 pc = .ok (.if_icmp .eq off, 3)) (ht : (pc : Int) + off = (tgt : Int)) (kt : x = y → X k μ Z tgt lv rest S cells slots) (kf : ¬ x = y → X k μ Z (pc + 3) lv rest S cells slots) : X k μ Z pc lv (.int y :: .int x :: rest) S cells slots := fun p e s m args below meth c H locs ls C hl hR hS => lv_icmp_eq C.1 C.2.1 hd ht (fun q => kt q p e s m args below meth c H locs ls C hl hR hS) (fun q => kf q p e s m args below meth c H locs ls C hl hR hS)
theorem x_if_ne {k : KT} {μ : MT} {Z : ZT} {pc : Nat} {lv : List (Nat × Value)} {rest : List Value} {S : HS} {cells slots : Nat} {x : Int32} {off : Int} (tgt : Nat) (hd : decode μ.2.2.1 pc = .ok (.ifCond .ne off, 3)) (ht : (pc : Int) + off = (tgt : Int)) (kt : ¬ x = 0 → X k μ Z tgt lv rest S cells slots) (kf : x = 0 → X k μ Z (pc + 3) lv rest S cells slots) : X k μ Z pc lv (.int x :: rest) S cells slots := fun p e s m args below meth c H locs ls C hl hR hS => lv_if_ne C.1 C.2.1 hd ht (fun q => kt q p e s m args below meth c H locs ls C hl hR hS) (fun q => kf q p e s m args below meth c H locs ls C hl hR hS)
theorem x_icmp_ne {k : KT} {μ : MT} {Z : ZT} {pc : Nat} {lv : List (Nat × Value)} {rest : List Value} {S : HS} {cells slots : Nat} {x y : Int32} {off : Int} (tgt : Nat) (hd : decode μ.2.2.1 pc = .ok (.if_icmp .ne off, 3)) (ht : (pc : Int) + off = (tgt : Int)) (kt : ¬ x = y → X k μ Z tgt lv rest S cells slots) (kf : x = y → X k μ Z (pc + 3) lv rest S cells slots) : X k μ Z pc lv (.int y :: .int x :: rest) S cells slots := fun p e s m args below meth c H locs ls C hl hR hS => lv_icmp_ne C.1 C.2.1 hd ht (fun q => kt q p e s m args below meth c H locs ls C hl hR hS) (fun q => kf q p e s m args below meth c H locs ls C hl hR hS)
theorem x_if_lt {k : KT} {μ : MT} {Z : ZT} {pc : Nat} {lv : List (Nat × Value)} {rest : List Value} {S : HS} {cells slots : Nat} {x : Int32} {off : Int} (tgt : Nat) (hd : decode μ.2.2.1 pc = .ok (.ifCond .lt off, 3)) (ht : (pc : Int) + off = (tgt : Int)) (kt : x < 0 → X k μ Z tgt lv rest S cells slots) (kf : ¬ x < 0 → X k μ Z (pc + 3) lv rest S cells slots) : X k μ Z pc lv (.int x :: rest) S cells slots := fun p e s m args below meth c H locs ls C hl hR hS => lv_if_lt C.1 C.2.1 hd ht (fun q => kt q p e s m args below meth c H locs ls C hl hR hS) (fun q => kf q p e s m args below meth c H locs ls C hl hR hS)
theorem x_icmp_lt {k : KT} {μ : MT} {Z : ZT} {pc : Nat} {lv : List (Nat × Value)} {rest : List Value} {S : HS} {cells slots : Nat} {x y : Int32} {off : Int} (tgt : Nat) (hd : decode μ.2.2.1 pc = .ok (.if_icmp .lt off, 3)) (ht : (pc : Int) + off = (tgt : Int)) (kt : x < y → X k μ Z tgt lv rest S cells slots) (kf : ¬ x < y → X k μ Z (pc + 3) lv rest S cells slots) : X k μ Z pc lv (.int y :: .int x :: rest) S cells slots := fun p e s m args below meth c H locs ls C hl hR hS => lv_icmp_lt C.1 C.2.1 hd ht (fun q => kt q p e s m args below meth c H locs ls C hl hR hS) (fun q => kf q p e s m args below meth c H locs ls C hl hR hS)
theorem x_if_ge {k : KT} {μ : MT} {Z : ZT} {pc : Nat} {lv : List (Nat × Value)} {rest : List Value} {S : HS} {cells slots : Nat} {x : Int32} {off : Int} (tgt : Nat) (hd : decode μ.2.2.1 pc = .ok (.ifCond .ge off, 3)) (ht : (pc : Int) + off = (tgt : Int)) (kt : 0 ≤ x → X k μ Z tgt lv rest S cells slots) (kf : ¬ 0 ≤ x → X k μ Z (pc + 3) lv rest S cells slots) : X k μ Z pc lv (.int x :: rest) S cells slots := fun p e s m args below meth c H locs ls C hl hR hS => lv_if_ge C.1 C.2.1 hd ht (fun q => kt q p e s m args below meth c H locs ls C hl hR hS) (fun q => kf q p e s m args below meth c H locs ls C hl hR hS)
theorem x_icmp_ge {k : KT} {μ : MT} {Z : ZT} {pc : Nat} {lv : List (Nat × Value)} {rest : List Value} {S : HS} {cells slots : Nat} {x y : Int32} {off : Int} (tgt : Nat) (hd : decode μ.2.2.1 pc = .ok (.if_icmp .ge off, 3)) (ht : (pc : Int) + off = (tgt : Int)) (kt : y ≤ x → X k μ Z tgt lv rest S cells slots) (kf : ¬ y ≤ x → X k μ Z (pc + 3) lv rest S cells slots) : X k μ Z pc lv (.int y :: .int x :: rest) S cells slots := fun p e s m args below meth c H locs ls C hl hR hS => lv_icmp_ge C.1 C.2.1 hd ht (fun q => kt q p e s m args below meth c H locs ls C hl hR hS) (fun q => kf q p e s m args below meth c H locs ls C hl hR hS)
theorem x_if_gt {k : KT} {μ : MT} {Z : ZT} {pc : Nat} {lv : List (Nat × Value)} {rest : List Value} {S : HS} {cells slots : Nat} {x : Int32} {off : Int} (tgt : Nat) (hd : decode μ.2.2.1 pc = .ok (.ifCond .gt off, 3)) (ht : (pc : Int) + off = (tgt : Int)) (kt : 0 < x → X k μ Z tgt lv rest S cells slots) (kf : ¬ 0 < x → X k μ Z (pc + 3) lv rest S cells slots) : X k μ Z pc lv (.int x :: rest) S cells slots := fun p e s m args below meth c H locs ls C hl hR hS => lv_if_gt C.1 C.2.1 hd ht (fun q => kt q p e s m args below meth c H locs ls C hl hR hS) (fun q => kf q p e s m args below meth c H locs ls C hl hR hS)
theorem x_icmp_gt {k : KT} {μ : MT} {Z : ZT} {pc : Nat} {lv : List (Nat × Value)} {rest : List Value} {S : HS} {cells slots : Nat} {x y : Int32} {off : Int} (tgt : Nat) (hd : decode μ.2.2.1 pc = .ok (.if_icmp .gt off, 3)) (ht : (pc : Int) + off = (tgt : Int)) (kt : y < x → X k μ Z tgt lv rest S cells slots) (kf : ¬ y < x → X k μ Z (pc + 3) lv rest S cells slots) : X k μ Z pc lv (.int y :: .int x :: rest) S cells slots := fun p e s m args below meth c H locs ls C hl hR hS => lv_icmp_gt C.1 C.2.1 hd ht (fun q => kt q p e s m args below meth c H locs ls C hl hR hS) (fun q => kf q p e s m args below meth c H locs ls C hl hR hS)
theorem x_if_le {k : KT} {μ : MT} {Z : ZT} {pc : Nat} {lv : List (Nat × Value)} {rest : List Value} {S : HS} {cells slots : Nat} {x : Int32} {off : Int} (tgt : Nat) (hd : decode μ.2.2.1 pc = .ok (.ifCond .le off, 3)) (ht : (pc : Int) + off = (tgt : Int)) (kt : x ≤ 0 → X k μ Z tgt lv rest S cells slots) (kf : ¬ x ≤ 0 → X k μ Z (pc + 3) lv rest S cells slots) : X k μ Z pc lv (.int x :: rest) S cells slots := fun p e s m args below meth c H locs ls C hl hR hS => lv_if_le C.1 C.2.1 hd ht (fun q => kt q p e s m args below meth c H locs ls C hl hR hS) (fun q => kf q p e s m args below meth c H locs ls C hl hR hS)
theorem x_icmp_le {k : KT} {μ : MT} {Z : ZT} {pc : Nat} {lv : List (Nat × Value)} {rest : List Value} {S : HS} {cells slots : Nat} {x y : Int32} {off : Int} (tgt : Nat) (hd : decode μ.2.2.1 pc = .ok (.if_icmp .le off, 3)) (ht : (pc : Int) + off = (tgt : Int)) (kt : x ≤ y → X k μ Z tgt lv rest S cells slots) (kf : ¬ x ≤ y → X k μ Z (pc + 3) lv rest S cells slots) : X k μ Z pc lv (.int y :: .int x :: rest) S cells slots := fun p e s m args below meth c H locs ls C hl hR hS => lv_icmp_le C.1 C.2.1 hd ht (fun q => kt q p e s m args below meth c H locs ls C hl hR hS) (fun q => kf q p e s m args below meth c H locs ls C hl hR hS)
theorem x_goto {k : KT} {μ : MT} {Z : ZT} {pc : Nat} {lv : List (Nat × Value)} {rest : List Value} {S : HS} {cells slots : Nat} {off : Int} (tgt : Nat) (hd : decode μ.2.2.1 pc = .ok (.goto off, 3)) (ht : (pc : Int) + off = (tgt : Int)) (kk : X k μ Z tgt lv rest S cells slots) : X k μ Z pc lv rest S cells slots := fun p e s m args below meth c H locs ls C hl hR hS => lv_goto C.1 C.2.1 hd ht (kk p e s m args below meth c H locs ls C hl hR hS)
theorem x_ifnonnull {k : KT} {μ : MT} {Z : ZT} {pc : Nat} {lv : List (Nat × Value)} {rest : List Value} {S : HS} {cells slots : Nat} {x : Nat} {off : Int} (tgt : Nat) (hd : decode μ.2.2.1 pc = .ok (.ifnonnull off, 3)) (ht : (pc : Int) + off = (tgt : Int)) (kk : X k μ Z tgt lv rest S cells slots) : X k μ Z pc lv (.ref x :: rest) S cells slots := fun p e s m args below meth c H locs ls C hl hR hS => lv_ifnonnull C.1 C.2.1 hd ht (kk p e s m args below meth c H locs ls C hl hR hS)
theorem x_ifnull {k : KT} {μ : MT} {Z : ZT} {pc : Nat} {lv : List (Nat × Value)} {rest : List Value} {S : HS} {cells slots : Nat} {x : Nat} {off : Int} (hd : decode μ.2.2.1 pc = .ok (.ifnull off, 3)) (kk : X k μ Z (pc + 3) lv rest S cells slots) : X k μ Z pc lv (.ref x :: rest) S cells slots := fun p e s m args below meth c H locs ls C hl hR hS => lv_ifnull C.1 C.2.1 hd (kk p e s m args below meth c H locs ls C hl hR hS)
theorem x_ifnullN {k : KT} {μ : MT} {Z : ZT} {pc : Nat} {lv : List (Nat × Value)} {rest : List Value} {S : HS} {cells slots : Nat} {off : Int} (tgt : Nat) (hd : decode μ.2.2.1 pc = .ok (.ifnull off, 3)) (ht : (pc : Int) + off = (tgt : Int)) (kk : X k μ Z tgt lv rest S cells slots) : X k μ Z pc lv (.null :: rest) S cells slots := fun p e s m args below meth c H locs ls C hl hR hS => lv_ifnullN C.1 C.2.1 hd ht (kk p e s m args below meth c H locs ls C hl hR hS)
theorem x_ifnonnullN {k : KT} {μ : MT} {Z : ZT} {pc : Nat} {lv : List (Nat × Value)} {rest : List Value} {S : HS} {cells slots : Nat} {off : Int} (hd : decode μ.2.2.1 pc = .ok (.ifnonnull off, 3)) (kk : X k μ Z (pc + 3) lv rest S cells slots) : X k μ Z pc lv (.null :: rest) S cells slots := fun p e s m args below meth c H locs ls C hl hR hS => lv_ifnonnullN C.1 C.2.1 hd (kk p e s m args below meth c H locs ls C hl hR hS)
theorem x_acmp_eq {k : KT} {μ : MT} {Z : ZT} {pc : Nat} {lv : List (Nat × Value)} {rest : List Value} {S : HS} {cells slots : Nat} {a b : Nat} {off : Int} (tgt : Nat) (hd : decode μ.2.2.1 pc = .ok (.if_acmp .eq off, 3)) (ht : (pc : Int) + off = (tgt : Int)) (kt : a = b → X k μ Z tgt lv rest S cells slots) (kf : ¬ a = b → X k μ Z (pc + 3) lv rest S cells slots) : X k μ Z pc lv (.ref b :: .ref a :: rest) S cells slots := fun p e s m args below meth c H locs ls C hl hR hS => lv_acmp_eq (rx := some a) (ry := some b) C.1 C.2.1 hd ht (fun q => kt (by simpa using q) p e s m args below meth c H locs ls C hl hR hS) (fun q => kf (by simpa using q) p e s m args below meth c H locs ls C hl hR hS)
theorem x_acmp_ne {k : KT} {μ : MT} {Z : ZT} {pc : Nat} {lv : List (Nat × Value)} {rest : List Value} {S : HS} {cells slots : Nat} {a b : Nat} {off : Int} (tgt : Nat) (hd : decode μ.2.2.1 pc = .ok (.if_acmp .ne off, 3)) (ht : (pc : Int) + off = (tgt : Int)) (kt : ¬ a = b → X k μ Z tgt lv rest S cells slots) (kf : a = b → X k μ Z (pc + 3) lv rest S cells slots) : X k μ Z pc lv (.ref b :: .ref a :: rest) S cells slots := fun p e s m args below meth c H locs ls C hl hR hS => lv_acmp_ne (rx := some a) (ry := some b) C.1 C.2.1 hd ht (fun q => kt (by simpa using q) p e s m args below meth c H locs ls C hl hR hS) (fun q => kf (by simpa using q) p e s m args below meth c H locs ls C hl hR hS)
theorem x_tableIn {k : KT} {μ : MT} {Z : ZT} {pc : Nat} {lv : List (Nat × Value)} {rest : List Value} {S : HS} {cells slots : Nat} {dflt lo hi : Int} {offs : Array Int} {len : Nat} {x : Int32} (off : Int) (tgt : Nat) (hd : decode μ.2.2.1 pc = .ok (.tableswitch dflt lo hi offs, len)) (h1 : ¬ x.toInt < lo) (h2 : ¬ hi < x.toInt) (ho : offs[(x.toInt - lo).toNat]? = some off) (ht : (pc : Int) + off = (tgt : Int)) (kk : X k μ Z tgt lv rest S cells slots) : X k μ Z pc lv (.int x :: rest) S cells slots := fun p e s m args below meth c H locs ls C hl hR hS => lv_tableIn C.1 C.2.1 hd h1 h2 ho ht (kk p e s m args below meth c H locs ls C hl hR hS)
theorem x_tableOut {k : KT} {μ : MT} {Z : ZT} {pc : Nat} {lv : List (Nat × Value)} {rest : List Value} {S : HS} {cells slots : Nat} {dflt lo hi : Int} {offs : Array Int} {len : Nat} {x : Int32} (tgt : Nat) (hd : decode μ.2.2.1 pc = .ok (.tableswitch dflt lo hi offs, len)) (h : x.toInt < lo ∨ hi < x.toInt) (ht : (pc : Int) + dflt = (tgt : Int)) (kk : X k μ Z tgt lv rest S cells slots) : X k μ Z pc lv (.int x :: rest) S cells slots := fun p e s m args below meth c H locs ls C hl hR hS => lv_tableOut C.1 C.2.1 hd h ht (kk p e s m args below meth c H locs ls C hl hR hS)
theorem x_topi {k : KT} {μ : MT} {Z : ZT} {pc : Nat} {lv : List (Nat × Value)} {rest : List Value} {S : HS} {cells slots : Nat} {x : Int32} (kk : ∀ y : Int32, y = x → X k μ Z pc lv (.int y :: rest) S cells slots) : X k μ Z pc lv (.int x :: rest) S cells slots := kk x rfl
theorem x_widen {k : KT} {μ : MT} {Z : ZT} {pc : Nat} {lv : List (Nat × Value)} {S : HS} {cells slots : Nat} (st : List Value) (c2 s2 : Nat) (h1 : cells ≤ c2) (h2 : slots ≤ s2) (kk : X k μ Z pc lv st S c2 s2) : X k μ Z pc lv st S cells slots := fun p e s m args below meth c H locs ls C hl hR hS => W.widen h1 h2 (kk p e s m args below meth c H locs ls C hl hR hS)
theorem x_ireturn {k : KT} {μ : MT} {Q : Option Value → HS → Prop} {pc : Nat} {lv : List (Nat × Value)} {S : HS} {cells slots : Nat} {v : Int32} (hd : decode μ.2.2.1 pc = .ok (.ireturn, 1)) (hr : μ.2.2.2.2 = some .int) (hc : cells ≤ μ.1.cells) (hs : slots ≤ μ.1.slots) (hq : Q (some (.int v)) S) : X k μ (Zm k μ Q) pc lv [.int v] S cells slots := fun p e s m args below meth c H locs ls C hl hR hS => W.widen hc hs (W.iret C.1 C.2.1 (C.2.2.2.1.trans hr) (fun t ht hW => ⟨⟨_, S, rfl, hq, by rw [ht]; exact hR⟩, hS.F ht⟩) hS.2.2 hd C.2.2.2.2.2.2.1)
theorem x_zreturn {k : KT} {μ : MT} {Q : Option Value → HS → Prop} {pc : Nat} {lv : List (Nat × Value)} {S : HS} {cells slots : Nat} {v : Int32} (hd : decode μ.2.2.1 pc = .ok (.ireturn, 1)) (hr : μ.2.2.2.2 = some .boolean) (hn : narrow .boolean (.int v) = .int v) (hc : cells ≤ μ.1.cells) (hs : slots ≤ μ.1.slots) (hq : Q (some (.int v)) S) : X k μ (Zm k μ Q) pc lv [.int v] S cells slots := fun p e s m args below meth c H locs ls C hl hR hS => W.widen hc hs (W.zret C.1 C.2.1 (C.2.2.2.1.trans hr) hn (fun t ht hW => ⟨⟨_, S, rfl, hq, by rw [ht]; exact hR⟩, hS.F ht⟩) hS.2.2 hd C.2.2.2.2.2.2.1)
theorem x_return {k : KT} {μ : MT} {Q : Option Value → HS → Prop} {pc : Nat} {lv : List (Nat × Value)} {S : HS} {cells slots : Nat}  (hd : decode μ.2.2.1 pc = .ok (.return_, 1)) (hr : μ.2.2.2.2 = none) (hc : cells ≤ μ.1.cells) (hs : slots ≤ μ.1.slots) (hq : Q none S) : X k μ (Zm k μ Q) pc lv [] S cells slots := fun p e s m args below meth c H locs ls C hl hR hS => W.widen hc hs (W.vret C.1 C.2.1 (C.2.2.2.1.trans hr) (fun t ht hW => ⟨⟨_, S, rfl, hq, by rw [ht]; exact hR⟩, hS.F ht⟩) hS.2.2 hd C.2.2.2.2.2.2.1)
theorem x_areturn {k : KT} {μ : MT} {Q : Option Value → HS → Prop} {pc : Nat} {lv : List (Nat × Value)} {S : HS} {cells slots : Nat} {a : Nat} {rt : FieldType} (hd : decode μ.2.2.1 pc = .ok (.areturn, 1)) (hr : μ.2.2.2.2 = some rt) (hrt : (∃ n, rt = .object n) ∨ ∃ t, rt = .array t) (hc : cells ≤ μ.1.cells) (hs : slots ≤ μ.1.slots) (hq : Q (some (.ref a)) S) : X k μ (Zm k μ Q) pc lv [.ref a] S cells slots := fun p e s m args below meth c H locs ls C hl hR hS => W.widen hc hs (W.aret C.1 C.2.1 (C.2.2.2.1.trans hr) hrt (Or.inr ⟨a, rfl⟩) (fun t ht hW => ⟨⟨_, S, rfl, hq, by rw [ht]; exact hR⟩, hS.F ht⟩) hS.2.2 hd C.2.2.2.2.2.2.1)
theorem x_areturnN {k : KT} {μ : MT} {Q : Option Value → HS → Prop} {pc : Nat} {lv : List (Nat × Value)} {S : HS} {cells slots : Nat} {rt : FieldType} (hd : decode μ.2.2.1 pc = .ok (.areturn, 1)) (hr : μ.2.2.2.2 = some rt) (hrt : (∃ n, rt = .object n) ∨ ∃ t, rt = .array t) (hc : cells ≤ μ.1.cells) (hs : slots ≤ μ.1.slots) (hq : Q (some .null) S) : X k μ (Zm k μ Q) pc lv [.null] S cells slots := fun p e s m args below meth c H locs ls C hl hR hS => W.widen hc hs (W.aret C.1 C.2.1 (C.2.2.2.1.trans hr) hrt (Or.inl rfl) (fun t ht hW => ⟨⟨_, S, rfl, hq, by rw [ht]; exact hR⟩, hS.F ht⟩) hS.2.2 hd C.2.2.2.2.2.2.1)
end
section
theorem dX0_init_0 : decode cX0_init 0 = .ok (.aload_n 0, 1) := by decide +kernel
theorem dX0_init_1 : decode cX0_init 1 = .ok (.invokespecial 1, 3) := by decide +kernel
theorem dX0_init_4 : decode cX0_init 4 = .ok (.aload_n 0, 1) := by decide +kernel
theorem dX0_init_5 : decode cX0_init 5 = .ok (.iload_n 1, 1) := by decide +kernel
theorem dX0_init_6 : decode cX0_init 6 = .ok (.putfield 7, 3) := by decide +kernel
theorem dX0_init_9 : decode cX0_init 9 = .ok (.aload_n 0, 1) := by decide +kernel
theorem dX0_init_10 : decode cX0_init 10 = .ok (.iload_n 2, 1) := by decide +kernel
theorem dX0_init_11 : decode cX0_init 11 = .ok (.putfield 13, 3) := by decide +kernel
theorem dX0_init_14 : decode cX0_init 14 = .ok (.return_, 1) := by decide +kernel
theorem dX0_isAt_0 : decode cX0_isAt 0 = .ok (.aload_n 0, 1) := by decide +kernel
theorem dX0_isAt_1 : decode cX0_isAt 1 = .ok (.getfield 7, 3) := by decide +kernel
theorem dX0_isAt_4 : decode cX0_isAt 4 = .ok (.iload_n 1, 1) := by decide +kernel
theorem dX0_isAt_5 : decode cX0_isAt 5 = .ok (.if_icmp .ne 15, 3) := by decide +kernel
theorem dX0_isAt_8 : decode cX0_isAt 8 = .ok (.aload_n 0, 1) := by decide +kernel
theorem dX0_isAt_9 : decode cX0_isAt 9 = .ok (.getfield 13, 3) := by decide +kernel
theorem dX0_isAt_12 : decode cX0_isAt 12 = .ok (.iload_n 2, 1) := by decide +kernel
theorem dX0_isAt_13 : decode cX0_isAt 13 = .ok (.if_icmp .ne 7, 3) := by decide +kernel
theorem dX0_isAt_16 : decode cX0_isAt 16 = .ok (.iconst 1, 1) := by decide +kernel
theorem dX0_isAt_17 : decode cX0_isAt 17 = .ok (.goto 4, 3) := by decide +kernel
theorem dX0_isAt_20 : decode cX0_isAt 20 = .ok (.iconst 0, 1) := by decide +kernel
theorem dX0_isAt_21 : decode cX0_isAt 21 = .ok (.ireturn, 1) := by decide +kernel
theorem dX1_init_0 : decode cX1_init 0 = .ok (.aload_n 0, 1) := by decide +kernel
theorem dX1_init_1 : decode cX1_init 1 = .ok (.invokespecial 1, 3) := by decide +kernel
theorem dX1_init_4 : decode cX1_init 4 = .ok (.aload_n 0, 1) := by decide +kernel
theorem dX1_init_5 : decode cX1_init 5 = .ok (.new 7, 3) := by decide +kernel
theorem dX1_init_8 : decode cX1_init 8 = .ok (.dup, 1) := by decide +kernel
theorem dX1_init_9 : decode cX1_init 9 = .ok (.invokespecial 9, 3) := by decide +kernel
theorem dX1_init_12 : decode cX1_init 12 = .ok (.putfield 10, 3) := by decide +kernel
theorem dX1_init_15 : decode cX1_init 15 = .ok (.aload_n 0, 1) := by decide +kernel
theorem dX1_init_16 : decode cX1_init 16 = .ok (.new 7, 3) := by decide +kernel
theorem dX1_init_19 : decode cX1_init 19 = .ok (.dup, 1) := by decide +kernel
theorem dX1_init_20 : decode cX1_init 20 = .ok (.invokespecial 9, 3) := by decide +kernel
theorem dX1_init_23 : decode cX1_init 23 = .ok (.putfield 16, 3) := by decide +kernel
theorem dX1_init_26 : decode cX1_init 26 = .ok (.aload_n 0, 1) := by decide +kernel
theorem dX1_init_27 : decode cX1_init 27 = .ok (.iconst 1, 1) := by decide +kernel
theorem dX1_init_28 : decode cX1_init 28 = .ok (.putfield 19, 3) := by decide +kernel
theorem dX1_init_31 : decode cX1_init 31 = .ok (.return_, 1) := by decide +kernel
theorem dX1_takeOut_0 : decode cX1_takeOut 0 = .ok (.iconst 0, 1) := by decide +kernel
theorem dX1_takeOut_1 : decode cX1_takeOut 1 = .ok (.istore_n 2, 1) := by decide +kernel
theorem dX1_takeOut_2 : decode cX1_takeOut 2 = .ok (.iload_n 2, 1) := by decide +kernel
theorem dX1_takeOut_3 : decode cX1_takeOut 3 = .ok (.aload_n 0, 1) := by decide +kernel
theorem dX1_takeOut_4 : decode cX1_takeOut 4 = .ok (.getfield 16, 3) := by decide +kernel
theorem dX1_takeOut_7 : decode cX1_takeOut 7 = .ok (.invokevirtual 23, 3) := by decide +kernel
theorem dX1_takeOut_10 : decode cX1_takeOut 10 = .ok (.if_icmp .ge 31, 3) := by decide +kernel
theorem dX1_takeOut_13 : decode cX1_takeOut 13 = .ok (.aload_n 0, 1) := by decide +kernel
theorem dX1_takeOut_14 : decode cX1_takeOut 14 = .ok (.getfield 16, 3) := by decide +kernel
theorem dX1_takeOut_17 : decode cX1_takeOut 17 = .ok (.iload_n 2, 1) := by decide +kernel
theorem dX1_takeOut_18 : decode cX1_takeOut 18 = .ok (.invokevirtual 27, 3) := by decide +kernel
theorem dX1_takeOut_21 : decode cX1_takeOut 21 = .ok (.aload_n 1, 1) := by decide +kernel
theorem dX1_takeOut_22 : decode cX1_takeOut 22 = .ok (.if_acmp .ne 13, 3) := by decide +kernel
theorem dX1_takeOut_25 : decode cX1_takeOut 25 = .ok (.aload_n 0, 1) := by decide +kernel
theorem dX1_takeOut_26 : decode cX1_takeOut 26 = .ok (.getfield 16, 3) := by decide +kernel
theorem dX1_takeOut_29 : decode cX1_takeOut 29 = .ok (.iload_n 2, 1) := by decide +kernel
theorem dX1_takeOut_30 : decode cX1_takeOut 30 = .ok (.invokevirtual 31, 3) := by decide +kernel
theorem dX1_takeOut_33 : decode cX1_takeOut 33 = .ok (.pop, 1) := by decide +kernel
theorem dX1_takeOut_34 : decode cX1_takeOut 34 = .ok (.return_, 1) := by decide +kernel
theorem dX1_takeOut_35 : decode cX1_takeOut 35 = .ok (.iinc 2 1, 3) := by decide +kernel
theorem dX1_takeOut_38 : decode cX1_takeOut 38 = .ok (.goto (-36), 3) := by decide +kernel
theorem dX1_takeOut_41 : decode cX1_takeOut 41 = .ok (.return_, 1) := by decide +kernel
theorem dX2_init_0 : decode cX2_init 0 = .ok (.aload_n 0, 1) := by decide +kernel
theorem dX2_init_1 : decode cX2_init 1 = .ok (.invokespecial 3, 3) := by decide +kernel
theorem dX2_init_4 : decode cX2_init 4 = .ok (.aload_n 0, 1) := by decide +kernel
theorem dX2_init_5 : decode cX2_init 5 = .ok (.iload_n 1, 1) := by decide +kernel
theorem dX2_init_6 : decode cX2_init 6 = .ok (.putfield 9, 3) := by decide +kernel
theorem dX2_init_9 : decode cX2_init 9 = .ok (.aload_n 0, 1) := by decide +kernel
theorem dX2_init_10 : decode cX2_init 10 = .ok (.iload_n 2, 1) := by decide +kernel
theorem dX2_init_11 : decode cX2_init 11 = .ok (.putfield 15, 3) := by decide +kernel
theorem dX2_init_14 : decode cX2_init 14 = .ok (.aload_n 0, 1) := by decide +kernel
theorem dX2_init_15 : decode cX2_init 15 = .ok (.iload_n 3, 1) := by decide +kernel
theorem dX2_init_16 : decode cX2_init 16 = .ok (.putfield 18, 3) := by decide +kernel
theorem dX2_init_19 : decode cX2_init 19 = .ok (.aload_n 0, 1) := by decide +kernel
theorem dX2_init_20 : decode cX2_init 20 = .ok (.iload 4, 2) := by decide +kernel
theorem dX2_init_22 : decode cX2_init 22 = .ok (.putfield 21, 3) := by decide +kernel
theorem dX2_init_25 : decode cX2_init 25 = .ok (.aload_n 0, 1) := by decide +kernel
theorem dX2_init_26 : decode cX2_init 26 = .ok (.iload 5, 2) := by decide +kernel
theorem dX2_init_28 : decode cX2_init 28 = .ok (.putfield 24, 3) := by decide +kernel
theorem dX2_init_31 : decode cX2_init 31 = .ok (.aload_n 0, 1) := by decide +kernel
theorem dX2_init_32 : decode cX2_init 32 = .ok (.iload 6, 2) := by decide +kernel
theorem dX2_init_34 : decode cX2_init 34 = .ok (.putfield 27, 3) := by decide +kernel
theorem dX2_init_37 : decode cX2_init 37 = .ok (.return_, 1) := by decide +kernel
theorem dX2_allows_0 : decode cX2_allows 0 = .ok (.iload_n 1, 1) := by decide +kernel
theorem dX2_allows_1 : decode cX2_allows 1 = .ok (.ifCond .lt 24, 3) := by decide +kernel
theorem dX2_allows_4 : decode cX2_allows 4 = .ok (.iload_n 1, 1) := by decide +kernel
theorem dX2_allows_5 : decode cX2_allows 5 = .ok (.iconst 4, 1) := by decide +kernel
theorem dX2_allows_6 : decode cX2_allows 6 = .ok (.if_icmp .gt 19, 3) := by decide +kernel
theorem dX2_allows_9 : decode cX2_allows 9 = .ok (.aload_n 0, 1) := by decide +kernel
theorem dX2_allows_10 : decode cX2_allows 10 = .ok (.getfield 30, 3) := by decide +kernel
theorem dX2_allows_13 : decode cX2_allows 13 = .ok (.iload_n 1, 1) := by decide +kernel
theorem dX2_allows_14 : decode cX2_allows 14 = .ok (.ishr, 1) := by decide +kernel
theorem dX2_allows_15 : decode cX2_allows 15 = .ok (.iconst 1, 1) := by decide +kernel
theorem dX2_allows_16 : decode cX2_allows 16 = .ok (.iand, 1) := by decide +kernel
theorem dX2_allows_17 : decode cX2_allows 17 = .ok (.iconst 1, 1) := by decide +kernel
theorem dX2_allows_18 : decode cX2_allows 18 = .ok (.if_icmp .ne 7, 3) := by decide +kernel
theorem dX2_allows_21 : decode cX2_allows 21 = .ok (.iconst 1, 1) := by decide +kernel
theorem dX2_allows_22 : decode cX2_allows 22 = .ok (.goto 4, 3) := by decide +kernel
theorem dX2_allows_25 : decode cX2_allows 25 = .ok (.iconst 0, 1) := by decide +kernel
theorem dX2_allows_26 : decode cX2_allows 26 = .ok (.ireturn, 1) := by decide +kernel
theorem dX2_costOf_0 : decode cX2_costOf 0 = .ok (.iload_n 1, 1) := by decide +kernel
theorem dX2_costOf_1 : decode cX2_costOf 1 = .ok (.iconst 4, 1) := by decide +kernel
theorem dX2_costOf_2 : decode cX2_costOf 2 = .ok (.if_icmp .ne 10, 3) := by decide +kernel
theorem dX2_costOf_5 : decode cX2_costOf 5 = .ok (.aload_n 0, 1) := by decide +kernel
theorem dX2_costOf_6 : decode cX2_costOf 6 = .ok (.getfield 27, 3) := by decide +kernel
theorem dX2_costOf_9 : decode cX2_costOf 9 = .ok (.goto 4, 3) := by decide +kernel
theorem dX2_costOf_12 : decode cX2_costOf 12 = .ok (.iload_n 1, 1) := by decide +kernel
theorem dX2_costOf_13 : decode cX2_costOf 13 = .ok (.ireturn, 1) := by decide +kernel
theorem dX2_left_0 : decode cX2_left 0 = .ok (.iload_n 1, 1) := by decide +kernel
theorem dX2_left_1 : decode cX2_left 1 = .ok (.iconst 1, 1) := by decide +kernel
theorem dX2_left_2 : decode cX2_left 2 = .ok (.if_icmp .eq 8, 3) := by decide +kernel
theorem dX2_left_5 : decode cX2_left 5 = .ok (.iload_n 1, 1) := by decide +kernel
theorem dX2_left_6 : decode cX2_left 6 = .ok (.iconst 3, 1) := by decide +kernel
theorem dX2_left_7 : decode cX2_left 7 = .ok (.if_icmp .ne 18, 3) := by decide +kernel
theorem dX2_left_10 : decode cX2_left 10 = .ok (.aload_n 0, 1) := by decide +kernel
theorem dX2_left_11 : decode cX2_left 11 = .ok (.getfield 21, 3) := by decide +kernel
theorem dX2_left_14 : decode cX2_left 14 = .ok (.bipush 40, 2) := by decide +kernel
theorem dX2_left_16 : decode cX2_left 16 = .ok (.aload_n 0, 1) := by decide +kernel
theorem dX2_left_17 : decode cX2_left 17 = .ok (.getfield 24, 3) := by decide +kernel
theorem dX2_left_20 : decode cX2_left 20 = .ok (.imul, 1) := by decide +kernel
theorem dX2_left_21 : decode cX2_left 21 = .ok (.isub, 1) := by decide +kernel
theorem dX2_left_22 : decode cX2_left 22 = .ok (.goto 7, 3) := by decide +kernel
theorem dX2_left_25 : decode cX2_left 25 = .ok (.aload_n 0, 1) := by decide +kernel
theorem dX2_left_26 : decode cX2_left 26 = .ok (.getfield 21, 3) := by decide +kernel
theorem dX2_left_29 : decode cX2_left 29 = .ok (.ireturn, 1) := by decide +kernel
theorem dX2_right_0 : decode cX2_right 0 = .ok (.aload_n 0, 1) := by decide +kernel
theorem dX2_right_1 : decode cX2_right 1 = .ok (.iload_n 1, 1) := by decide +kernel
theorem dX2_right_2 : decode cX2_right 2 = .ok (.invokevirtual 33, 3) := by decide +kernel
theorem dX2_right_5 : decode cX2_right 5 = .ok (.bipush 40, 2) := by decide +kernel
theorem dX2_right_7 : decode cX2_right 7 = .ok (.aload_n 0, 1) := by decide +kernel
theorem dX2_right_8 : decode cX2_right 8 = .ok (.getfield 24, 3) := by decide +kernel
theorem dX2_right_11 : decode cX2_right 11 = .ok (.imul, 1) := by decide +kernel
theorem dX2_right_12 : decode cX2_right 12 = .ok (.iadd, 1) := by decide +kernel
theorem dX2_right_13 : decode cX2_right 13 = .ok (.ireturn, 1) := by decide +kernel
theorem dX2_bottom_0 : decode cX2_bottom 0 = .ok (.iload_n 1, 1) := by decide +kernel
theorem dX2_bottom_1 : decode cX2_bottom 1 = .ok (.iconst 2, 1) := by decide +kernel
theorem dX2_bottom_2 : decode cX2_bottom 2 = .ok (.if_icmp .eq 8, 3) := by decide +kernel
theorem dX2_bottom_5 : decode cX2_bottom 5 = .ok (.iload_n 1, 1) := by decide +kernel
theorem dX2_bottom_6 : decode cX2_bottom 6 = .ok (.iconst 3, 1) := by decide +kernel
theorem dX2_bottom_7 : decode cX2_bottom 7 = .ok (.if_icmp .ne 13, 3) := by decide +kernel
theorem dX2_bottom_10 : decode cX2_bottom 10 = .ok (.aload_n 0, 1) := by decide +kernel
theorem dX2_bottom_11 : decode cX2_bottom 11 = .ok (.getfield 18, 3) := by decide +kernel
theorem dX2_bottom_14 : decode cX2_bottom 14 = .ok (.bipush 80, 2) := by decide +kernel
theorem dX2_bottom_16 : decode cX2_bottom 16 = .ok (.isub, 1) := by decide +kernel
theorem dX2_bottom_17 : decode cX2_bottom 17 = .ok (.goto 7, 3) := by decide +kernel
theorem dX2_bottom_20 : decode cX2_bottom 20 = .ok (.aload_n 0, 1) := by decide +kernel
theorem dX2_bottom_21 : decode cX2_bottom 21 = .ok (.getfield 18, 3) := by decide +kernel
theorem dX2_bottom_24 : decode cX2_bottom 24 = .ok (.ireturn, 1) := by decide +kernel
theorem dX2_covers_0 : decode cX2_covers 0 = .ok (.iload_n 1, 1) := by decide +kernel
theorem dX2_covers_1 : decode cX2_covers 1 = .ok (.iconst 4, 1) := by decide +kernel
theorem dX2_covers_2 : decode cX2_covers 2 = .ok (.if_icmp .eq 8, 3) := by decide +kernel
theorem dX2_covers_5 : decode cX2_covers 5 = .ok (.iload_n 3, 1) := by decide +kernel
theorem dX2_covers_6 : decode cX2_covers 6 = .ok (.iconst 4, 1) := by decide +kernel
theorem dX2_covers_7 : decode cX2_covers 7 = .ok (.if_icmp .ne 5, 3) := by decide +kernel
theorem dX2_covers_10 : decode cX2_covers 10 = .ok (.iconst 0, 1) := by decide +kernel
theorem dX2_covers_11 : decode cX2_covers 11 = .ok (.ireturn, 1) := by decide +kernel
theorem dX2_covers_12 : decode cX2_covers 12 = .ok (.aload_n 0, 1) := by decide +kernel
theorem dX2_covers_13 : decode cX2_covers 13 = .ok (.iload_n 1, 1) := by decide +kernel
theorem dX2_covers_14 : decode cX2_covers 14 = .ok (.invokevirtual 33, 3) := by decide +kernel
theorem dX2_covers_17 : decode cX2_covers 17 = .ok (.aload_n 2, 1) := by decide +kernel
theorem dX2_covers_18 : decode cX2_covers 18 = .ok (.iload_n 3, 1) := by decide +kernel
theorem dX2_covers_19 : decode cX2_covers 19 = .ok (.invokevirtual 37, 3) := by decide +kernel
theorem dX2_covers_22 : decode cX2_covers 22 = .ok (.if_icmp .ge 39, 3) := by decide +kernel
theorem dX2_covers_25 : decode cX2_covers 25 = .ok (.aload_n 2, 1) := by decide +kernel
theorem dX2_covers_26 : decode cX2_covers 26 = .ok (.iload_n 3, 1) := by decide +kernel
theorem dX2_covers_27 : decode cX2_covers 27 = .ok (.invokevirtual 33, 3) := by decide +kernel
theorem dX2_covers_30 : decode cX2_covers 30 = .ok (.aload_n 0, 1) := by decide +kernel
theorem dX2_covers_31 : decode cX2_covers 31 = .ok (.iload_n 1, 1) := by decide +kernel
theorem dX2_covers_32 : decode cX2_covers 32 = .ok (.invokevirtual 37, 3) := by decide +kernel
theorem dX2_covers_35 : decode cX2_covers 35 = .ok (.if_icmp .ge 26, 3) := by decide +kernel
theorem dX2_covers_38 : decode cX2_covers 38 = .ok (.aload_n 0, 1) := by decide +kernel
theorem dX2_covers_39 : decode cX2_covers 39 = .ok (.iload_n 1, 1) := by decide +kernel
theorem dX2_covers_40 : decode cX2_covers 40 = .ok (.invokevirtual 40, 3) := by decide +kernel
theorem dX2_covers_43 : decode cX2_covers 43 = .ok (.aload_n 2, 1) := by decide +kernel
theorem dX2_covers_44 : decode cX2_covers 44 = .ok (.iload_n 3, 1) := by decide +kernel
theorem dX2_covers_45 : decode cX2_covers 45 = .ok (.invokevirtual 40, 3) := by decide +kernel
theorem dX2_covers_48 : decode cX2_covers 48 = .ok (.isub, 1) := by decide +kernel
theorem dX2_covers_49 : decode cX2_covers 49 = .ok (.invokestatic 43, 3) := by decide +kernel
theorem dX2_covers_52 : decode cX2_covers 52 = .ok (.bipush 80, 2) := by decide +kernel
theorem dX2_covers_54 : decode cX2_covers 54 = .ok (.if_icmp .ge 7, 3) := by decide +kernel
theorem dX2_covers_57 : decode cX2_covers 57 = .ok (.iconst 1, 1) := by decide +kernel
theorem dX2_covers_58 : decode cX2_covers 58 = .ok (.goto 4, 3) := by decide +kernel
theorem dX2_covers_61 : decode cX2_covers 61 = .ok (.iconst 0, 1) := by decide +kernel
theorem dX2_covers_62 : decode cX2_covers 62 = .ok (.ireturn, 1) := by decide +kernel
theorem dX3_init_0 : decode cX3_init 0 = .ok (.aload_n 0, 1) := by decide +kernel
theorem dX3_init_1 : decode cX3_init 1 = .ok (.invokespecial 1, 3) := by decide +kernel
theorem dX3_init_4 : decode cX3_init 4 = .ok (.aload_n 0, 1) := by decide +kernel
theorem dX3_init_5 : decode cX3_init 5 = .ok (.iload_n 1, 1) := by decide +kernel
theorem dX3_init_6 : decode cX3_init 6 = .ok (.putfield 7, 3) := by decide +kernel
theorem dX3_init_9 : decode cX3_init 9 = .ok (.aload_n 0, 1) := by decide +kernel
theorem dX3_init_10 : decode cX3_init 10 = .ok (.iload_n 2, 1) := by decide +kernel
theorem dX3_init_11 : decode cX3_init 11 = .ok (.putfield 13, 3) := by decide +kernel
theorem dX3_init_14 : decode cX3_init 14 = .ok (.aload_n 0, 1) := by decide +kernel
theorem dX3_init_15 : decode cX3_init 15 = .ok (.iload_n 3, 1) := by decide +kernel
theorem dX3_init_16 : decode cX3_init 16 = .ok (.putfield 16, 3) := by decide +kernel
theorem dX3_init_19 : decode cX3_init 19 = .ok (.aload_n 0, 1) := by decide +kernel
theorem dX3_init_20 : decode cX3_init 20 = .ok (.iload 4, 2) := by decide +kernel
theorem dX3_init_22 : decode cX3_init 22 = .ok (.putfield 19, 3) := by decide +kernel
theorem dX3_init_25 : decode cX3_init 25 = .ok (.aload_n 0, 1) := by decide +kernel
theorem dX3_init_26 : decode cX3_init 26 = .ok (.iload 5, 2) := by decide +kernel
theorem dX3_init_28 : decode cX3_init 28 = .ok (.putfield 22, 3) := by decide +kernel
theorem dX3_init_31 : decode cX3_init 31 = .ok (.return_, 1) := by decide +kernel
theorem dX4_init_0 : decode cX4_init 0 = .ok (.aload_n 0, 1) := by decide +kernel
theorem dX4_init_1 : decode cX4_init 1 = .ok (.invokespecial 3, 3) := by decide +kernel
theorem dX4_init_4 : decode cX4_init 4 = .ok (.aload_n 0, 1) := by decide +kernel
theorem dX4_init_5 : decode cX4_init 5 = .ok (.bipush 6, 2) := by decide +kernel
theorem dX4_init_7 : decode cX4_init 7 = .ok (.newarray .int, 2) := by decide +kernel
theorem dX4_init_9 : decode cX4_init 9 = .ok (.putfield 9, 3) := by decide +kernel
theorem dX4_init_12 : decode cX4_init 12 = .ok (.aload_n 0, 1) := by decide +kernel
theorem dX4_init_13 : decode cX4_init 13 = .ok (.bipush 6, 2) := by decide +kernel
theorem dX4_init_15 : decode cX4_init 15 = .ok (.newarray .int, 2) := by decide +kernel
theorem dX4_init_17 : decode cX4_init 17 = .ok (.putfield 15, 3) := by decide +kernel
theorem dX4_init_20 : decode cX4_init 20 = .ok (.return_, 1) := by decide +kernel
theorem dX4_keep_0 : decode cX4_keep 0 = .ok (.aload_n 0, 1) := by decide +kernel
theorem dX4_keep_1 : decode cX4_keep 1 = .ok (.getfield 9, 3) := by decide +kernel
theorem dX4_keep_4 : decode cX4_keep 4 = .ok (.iconst 0, 1) := by decide +kernel
theorem dX4_keep_5 : decode cX4_keep 5 = .ok (.aload_n 0, 1) := by decide +kernel
theorem dX4_keep_6 : decode cX4_keep 6 = .ok (.getfield 15, 3) := by decide +kernel
theorem dX4_keep_9 : decode cX4_keep 9 = .ok (.iconst 0, 1) := by decide +kernel
theorem dX4_keep_10 : decode cX4_keep 10 = .ok (.aload_n 0, 1) := by decide +kernel
theorem dX4_keep_11 : decode cX4_keep 11 = .ok (.getfield 15, 3) := by decide +kernel
theorem dX4_keep_14 : decode cX4_keep 14 = .ok (.arraylength, 1) := by decide +kernel
theorem dX4_keep_15 : decode cX4_keep 15 = .ok (.invokestatic 18, 3) := by decide +kernel
theorem dX4_keep_18 : decode cX4_keep 18 = .ok (.aload_n 0, 1) := by decide +kernel
theorem dX4_keep_19 : decode cX4_keep 19 = .ok (.iload_n 1, 1) := by decide +kernel
theorem dX4_keep_20 : decode cX4_keep 20 = .ok (.putfield 24, 3) := by decide +kernel
theorem dX4_keep_23 : decode cX4_keep 23 = .ok (.return_, 1) := by decide +kernel
theorem dX5_init_0 : decode cX5_init 0 = .ok (.aload_n 0, 1) := by decide +kernel
theorem dX5_init_1 : decode cX5_init 1 = .ok (.invokespecial 3, 3) := by decide +kernel
theorem dX5_init_4 : decode cX5_init 4 = .ok (.aload_n 0, 1) := by decide +kernel
theorem dX5_init_5 : decode cX5_init 5 = .ok (.aload_n 1, 1) := by decide +kernel
theorem dX5_init_6 : decode cX5_init 6 = .ok (.getfield 9, 3) := by decide +kernel
theorem dX5_init_9 : decode cX5_init 9 = .ok (.putfield 15, 3) := by decide +kernel
theorem dX5_init_12 : decode cX5_init 12 = .ok (.aload_n 0, 1) := by decide +kernel
theorem dX5_init_13 : decode cX5_init 13 = .ok (.aload_n 1, 1) := by decide +kernel
theorem dX5_init_14 : decode cX5_init 14 = .ok (.getfield 18, 3) := by decide +kernel
theorem dX5_init_17 : decode cX5_init 17 = .ok (.bipush 60, 2) := by decide +kernel
theorem dX5_init_19 : decode cX5_init 19 = .ok (.imul, 1) := by decide +kernel
theorem dX5_init_20 : decode cX5_init 20 = .ok (.putfield 21, 3) := by decide +kernel
theorem dX5_init_23 : decode cX5_init 23 = .ok (.aload_n 0, 1) := by decide +kernel
theorem dX5_init_24 : decode cX5_init 24 = .ok (.iload_n 3, 1) := by decide +kernel
theorem dX5_init_25 : decode cX5_init 25 = .ok (.aload_n 1, 1) := by decide +kernel
theorem dX5_init_26 : decode cX5_init 26 = .ok (.getfield 18, 3) := by decide +kernel
theorem dX5_init_29 : decode cX5_init 29 = .ok (.isub, 1) := by decide +kernel
theorem dX5_init_30 : decode cX5_init 30 = .ok (.bipush 60, 2) := by decide +kernel
theorem dX5_init_32 : decode cX5_init 32 = .ok (.imul, 1) := by decide +kernel
theorem dX5_init_33 : decode cX5_init 33 = .ok (.putfield 24, 3) := by decide +kernel
theorem dX5_init_36 : decode cX5_init 36 = .ok (.iload_n 2, 1) := by decide +kernel
theorem dX5_init_37 : decode cX5_init 37 = .ok (.aload_n 1, 1) := by decide +kernel
theorem dX5_init_38 : decode cX5_init 38 = .ok (.getfield 9, 3) := by decide +kernel
theorem dX5_init_41 : decode cX5_init 41 = .ok (.isub, 1) := by decide +kernel
theorem dX5_init_42 : decode cX5_init 42 = .ok (.sipush 360, 3) := by decide +kernel
theorem dX5_init_45 : decode cX5_init 45 = .ok (.invokestatic 27, 3) := by decide +kernel
theorem dX5_init_48 : decode cX5_init 48 = .ok (.istore 4, 2) := by decide +kernel
theorem dX5_init_50 : decode cX5_init 50 = .ok (.aload_n 0, 1) := by decide +kernel
theorem dX5_init_51 : decode cX5_init 51 = .ok (.iload 4, 2) := by decide +kernel
theorem dX5_init_53 : decode cX5_init 53 = .ok (.sipush 180, 3) := by decide +kernel
theorem dX5_init_56 : decode cX5_init 56 = .ok (.if_icmp .gt 7, 3) := by decide +kernel
theorem dX5_init_59 : decode cX5_init 59 = .ok (.iconst 1, 1) := by decide +kernel
theorem dX5_init_60 : decode cX5_init 60 = .ok (.goto 4, 3) := by decide +kernel
theorem dX5_init_63 : decode cX5_init 63 = .ok (.iconst (-1), 1) := by decide +kernel
theorem dX5_init_64 : decode cX5_init 64 = .ok (.putfield 33, 3) := by decide +kernel
theorem dX5_init_67 : decode cX5_init 67 = .ok (.aload_n 0, 1) := by decide +kernel
theorem dX5_init_68 : decode cX5_init 68 = .ok (.iload 4, 2) := by decide +kernel
theorem dX5_init_70 : decode cX5_init 70 = .ok (.sipush 360, 3) := by decide +kernel
theorem dX5_init_73 : decode cX5_init 73 = .ok (.iload 4, 2) := by decide +kernel
theorem dX5_init_75 : decode cX5_init 75 = .ok (.isub, 1) := by decide +kernel
theorem dX5_init_76 : decode cX5_init 76 = .ok (.invokestatic 36, 3) := by decide +kernel
theorem dX5_init_79 : decode cX5_init 79 = .ok (.putfield 39, 3) := by decide +kernel
theorem dX5_init_82 : decode cX5_init 82 = .ok (.return_, 1) := by decide +kernel
theorem dX5_longitudeAt_0 : decode cX5_longitudeAt 0 = .ok (.aload_n 0, 1) := by decide +kernel
theorem dX5_longitudeAt_1 : decode cX5_longitudeAt 1 = .ok (.getfield 15, 3) := by decide +kernel
theorem dX5_longitudeAt_4 : decode cX5_longitudeAt 4 = .ok (.aload_n 0, 1) := by decide +kernel
theorem dX5_longitudeAt_5 : decode cX5_longitudeAt 5 = .ok (.getfield 33, 3) := by decide +kernel
theorem dX5_longitudeAt_8 : decode cX5_longitudeAt 8 = .ok (.iload_n 1, 1) := by decide +kernel
theorem dX5_longitudeAt_9 : decode cX5_longitudeAt 9 = .ok (.imul, 1) := by decide +kernel
theorem dX5_longitudeAt_10 : decode cX5_longitudeAt 10 = .ok (.iadd, 1) := by decide +kernel
theorem dX5_longitudeAt_11 : decode cX5_longitudeAt 11 = .ok (.ireturn, 1) := by decide +kernel
theorem dX5_heightAt_0 : decode cX5_heightAt 0 = .ok (.aload_n 0, 1) := by decide +kernel
theorem dX5_heightAt_1 : decode cX5_heightAt 1 = .ok (.getfield 21, 3) := by decide +kernel
theorem dX5_heightAt_4 : decode cX5_heightAt 4 = .ok (.aload_n 0, 1) := by decide +kernel
theorem dX5_heightAt_5 : decode cX5_heightAt 5 = .ok (.getfield 24, 3) := by decide +kernel
theorem dX5_heightAt_8 : decode cX5_heightAt 8 = .ok (.iload_n 1, 1) := by decide +kernel
theorem dX5_heightAt_9 : decode cX5_heightAt 9 = .ok (.imul, 1) := by decide +kernel
theorem dX5_heightAt_10 : decode cX5_heightAt 10 = .ok (.aload_n 0, 1) := by decide +kernel
theorem dX5_heightAt_11 : decode cX5_heightAt 11 = .ok (.getfield 39, 3) := by decide +kernel
theorem dX5_heightAt_14 : decode cX5_heightAt 14 = .ok (.invokestatic 42, 3) := by decide +kernel
theorem dX5_heightAt_17 : decode cX5_heightAt 17 = .ok (.iadd, 1) := by decide +kernel
theorem dX5_heightAt_18 : decode cX5_heightAt 18 = .ok (.ireturn, 1) := by decide +kernel
theorem dX6_init_0 : decode cX6_init 0 = .ok (.aload_n 0, 1) := by decide +kernel
theorem dX6_init_1 : decode cX6_init 1 = .ok (.invokespecial 3, 3) := by decide +kernel
theorem dX6_init_4 : decode cX6_init 4 = .ok (.aload_n 0, 1) := by decide +kernel
theorem dX6_init_5 : decode cX6_init 5 = .ok (.new 9, 3) := by decide +kernel
theorem dX6_init_8 : decode cX6_init 8 = .ok (.dup, 1) := by decide +kernel
theorem dX6_init_9 : decode cX6_init 9 = .ok (.invokespecial 11, 3) := by decide +kernel
theorem dX6_init_12 : decode cX6_init 12 = .ok (.putfield 12, 3) := by decide +kernel
theorem dX6_init_15 : decode cX6_init 15 = .ok (.aload_n 0, 1) := by decide +kernel
theorem dX6_init_16 : decode cX6_init 16 = .ok (.new 9, 3) := by decide +kernel
theorem dX6_init_19 : decode cX6_init 19 = .ok (.dup, 1) := by decide +kernel
theorem dX6_init_20 : decode cX6_init 20 = .ok (.invokespecial 11, 3) := by decide +kernel
theorem dX6_init_23 : decode cX6_init 23 = .ok (.putfield 16, 3) := by decide +kernel
theorem dX6_init_26 : decode cX6_init 26 = .ok (.aload_n 0, 1) := by decide +kernel
theorem dX6_init_27 : decode cX6_init 27 = .ok (.new 19, 3) := by decide +kernel
theorem dX6_init_30 : decode cX6_init 30 = .ok (.dup, 1) := by decide +kernel
theorem dX6_init_31 : decode cX6_init 31 = .ok (.invokespecial 21, 3) := by decide +kernel
theorem dX6_init_34 : decode cX6_init 34 = .ok (.putfield 22, 3) := by decide +kernel
theorem dX6_init_37 : decode cX6_init 37 = .ok (.iload_n 1, 1) := by decide +kernel
theorem dX6_init_38 : decode cX6_init 38 = .ok (.invokestatic 26, 3) := by decide +kernel
theorem dX6_init_41 : decode cX6_init 41 = .ok (.istore_n 2, 1) := by decide +kernel
theorem dX6_init_42 : decode cX6_init 42 = .ok (.aload_n 0, 1) := by decide +kernel
theorem dX6_init_43 : decode cX6_init 43 = .ok (.sipush 360, 3) := by decide +kernel
theorem dX6_init_46 : decode cX6_init 46 = .ok (.iload_n 2, 1) := by decide +kernel
theorem dX6_init_47 : decode cX6_init 47 = .ok (.idiv, 1) := by decide +kernel
theorem dX6_init_48 : decode cX6_init 48 = .ok (.putfield 30, 3) := by decide +kernel
theorem dX6_init_51 : decode cX6_init 51 = .ok (.aload_n 0, 1) := by decide +kernel
theorem dX6_init_52 : decode cX6_init 52 = .ok (.iload_n 2, 1) := by decide +kernel
theorem dX6_init_53 : decode cX6_init 53 = .ok (.anewarray 34, 3) := by decide +kernel
theorem dX6_init_56 : decode cX6_init 56 = .ok (.putfield 36, 3) := by decide +kernel
theorem dX6_init_59 : decode cX6_init 59 = .ok (.iconst 0, 1) := by decide +kernel
theorem dX6_init_60 : decode cX6_init 60 = .ok (.istore_n 3, 1) := by decide +kernel
theorem dX6_init_61 : decode cX6_init 61 = .ok (.iload_n 3, 1) := by decide +kernel
theorem dX6_init_62 : decode cX6_init 62 = .ok (.iload_n 2, 1) := by decide +kernel
theorem dX6_init_63 : decode cX6_init 63 = .ok (.if_icmp .ge 22, 3) := by decide +kernel
theorem dX6_init_66 : decode cX6_init 66 = .ok (.aload_n 0, 1) := by decide +kernel
theorem dX6_init_67 : decode cX6_init 67 = .ok (.getfield 36, 3) := by decide +kernel
theorem dX6_init_70 : decode cX6_init 70 = .ok (.iload_n 3, 1) := by decide +kernel
theorem dX6_init_71 : decode cX6_init 71 = .ok (.new 34, 3) := by decide +kernel
theorem dX6_init_74 : decode cX6_init 74 = .ok (.dup, 1) := by decide +kernel
theorem dX6_init_75 : decode cX6_init 75 = .ok (.invokespecial 40, 3) := by decide +kernel
theorem dX6_init_78 : decode cX6_init 78 = .ok (.aastore, 1) := by decide +kernel
theorem dX6_init_79 : decode cX6_init 79 = .ok (.iinc 3 1, 3) := by decide +kernel
theorem dX6_init_82 : decode cX6_init 82 = .ok (.goto (-21), 3) := by decide +kernel
theorem dX6_init_85 : decode cX6_init 85 = .ok (.return_, 1) := by decide +kernel
theorem dX6_narrow_0 : decode cX6_narrow 0 = .ok (.iload_n 1, 1) := by decide +kernel
theorem dX6_narrow_1 : decode cX6_narrow 1 = .ok (.invokestatic 41, 3) := by decide +kernel
theorem dX6_narrow_4 : decode cX6_narrow 4 = .ok (.ifCond .eq 10, 3) := by decide +kernel
theorem dX6_narrow_7 : decode cX6_narrow 7 = .ok (.iload_n 1, 1) := by decide +kernel
theorem dX6_narrow_8 : decode cX6_narrow 8 = .ok (.invokestatic 45, 3) := by decide +kernel
theorem dX6_narrow_11 : decode cX6_narrow 11 = .ok (.goto 4, 3) := by decide +kernel
theorem dX6_narrow_14 : decode cX6_narrow 14 = .ok (.iconst (-1), 1) := by decide +kernel
theorem dX6_narrow_15 : decode cX6_narrow 15 = .ok (.ireturn, 1) := by decide +kernel
theorem dX6_across_0 : decode cX6_across 0 = .ok (.iload_n 1, 1) := by decide +kernel
theorem dX6_across_1 : decode cX6_across 1 = .ok (.aload_n 0, 1) := by decide +kernel
theorem dX6_across_2 : decode cX6_across 2 = .ok (.getfield 30, 3) := by decide +kernel
theorem dX6_across_5 : decode cX6_across 5 = .ok (.ineg, 1) := by decide +kernel
theorem dX6_across_6 : decode cX6_across 6 = .ok (.if_icmp .lt 22, 3) := by decide +kernel
theorem dX6_across_9 : decode cX6_across 9 = .ok (.iload_n 1, 1) := by decide +kernel
theorem dX6_across_10 : decode cX6_across 10 = .ok (.aload_n 0, 1) := by decide +kernel
theorem dX6_across_11 : decode cX6_across 11 = .ok (.getfield 30, 3) := by decide +kernel
theorem dX6_across_14 : decode cX6_across 14 = .ok (.if_icmp .gt 14, 3) := by decide +kernel
theorem dX6_across_17 : decode cX6_across 17 = .ok (.iload_n 2, 1) := by decide +kernel
theorem dX6_across_18 : decode cX6_across 18 = .ok (.invokestatic 41, 3) := by decide +kernel
theorem dX6_across_21 : decode cX6_across 21 = .ok (.ifCond .eq 7, 3) := by decide +kernel
theorem dX6_across_24 : decode cX6_across 24 = .ok (.iconst 1, 1) := by decide +kernel
theorem dX6_across_25 : decode cX6_across 25 = .ok (.goto 4, 3) := by decide +kernel
theorem dX6_across_28 : decode cX6_across 28 = .ok (.iconst 0, 1) := by decide +kernel
theorem dX6_across_29 : decode cX6_across 29 = .ok (.istore_n 3, 1) := by decide +kernel
theorem dX6_across_30 : decode cX6_across 30 = .ok (.iload_n 3, 1) := by decide +kernel
theorem dX6_across_31 : decode cX6_across 31 = .ok (.ifCond .eq 11, 3) := by decide +kernel
theorem dX6_across_34 : decode cX6_across 34 = .ok (.iload_n 1, 1) := by decide +kernel
theorem dX6_across_35 : decode cX6_across 35 = .ok (.iload_n 2, 1) := by decide +kernel
theorem dX6_across_36 : decode cX6_across 36 = .ok (.invokestatic 48, 3) := by decide +kernel
theorem dX6_across_39 : decode cX6_across 39 = .ok (.goto 5, 3) := by decide +kernel
theorem dX6_across_42 : decode cX6_across 42 = .ok (.ldc 52, 2) := by decide +kernel
theorem dX6_across_44 : decode cX6_across 44 = .ok (.ireturn, 1) := by decide +kernel
theorem dX6_coast_0 : decode cX6_coast 0 = .ok (.iload_n 1, 1) := by decide +kernel
theorem dX6_coast_1 : decode cX6_coast 1 = .ok (.iload_n 2, 1) := by decide +kernel
theorem dX6_coast_2 : decode cX6_coast 2 = .ok (.invokestatic 53, 3) := by decide +kernel
theorem dX6_coast_5 : decode cX6_coast 5 = .ok (.ifCond .eq 15, 3) := by decide +kernel
theorem dX6_coast_8 : decode cX6_coast 8 = .ok (.aload_n 0, 1) := by decide +kernel
theorem dX6_coast_9 : decode cX6_coast 9 = .ok (.getfield 12, 3) := by decide +kernel
theorem dX6_coast_12 : decode cX6_coast 12 = .ok (.invokevirtual 57, 3) := by decide +kernel
theorem dX6_coast_15 : decode cX6_coast 15 = .ok (.bipush 30, 2) := by decide +kernel
theorem dX6_coast_17 : decode cX6_coast 17 = .ok (.if_icmp .lt 5, 3) := by decide +kernel
theorem dX6_coast_20 : decode cX6_coast 20 = .ok (.iconst (-1), 1) := by decide +kernel
theorem dX6_coast_21 : decode cX6_coast 21 = .ok (.ireturn, 1) := by decide +kernel
theorem dX6_coast_22 : decode cX6_coast 22 = .ok (.aload_n 0, 1) := by decide +kernel
theorem dX6_coast_23 : decode cX6_coast 23 = .ok (.getfield 12, 3) := by decide +kernel
theorem dX6_coast_26 : decode cX6_coast 26 = .ok (.new 61, 3) := by decide +kernel
theorem dX6_coast_29 : decode cX6_coast 29 = .ok (.dup, 1) := by decide +kernel
theorem dX6_coast_30 : decode cX6_coast 30 = .ok (.iload_n 1, 1) := by decide +kernel
theorem dX6_coast_31 : decode cX6_coast 31 = .ok (.iload_n 2, 1) := by decide +kernel
theorem dX6_coast_32 : decode cX6_coast 32 = .ok (.invokespecial 63, 3) := by decide +kernel
theorem dX6_coast_35 : decode cX6_coast 35 = .ok (.invokevirtual 66, 3) := by decide +kernel
theorem dX6_coast_38 : decode cX6_coast 38 = .ok (.pop, 1) := by decide +kernel
theorem dX6_coast_39 : decode cX6_coast 39 = .ok (.aload_n 0, 1) := by decide +kernel
theorem dX6_coast_40 : decode cX6_coast 40 = .ok (.getfield 12, 3) := by decide +kernel
theorem dX6_coast_43 : decode cX6_coast 43 = .ok (.invokevirtual 57, 3) := by decide +kernel
theorem dX6_coast_46 : decode cX6_coast 46 = .ok (.iconst 1, 1) := by decide +kernel
theorem dX6_coast_47 : decode cX6_coast 47 = .ok (.isub, 1) := by decide +kernel
theorem dX6_coast_48 : decode cX6_coast 48 = .ok (.ireturn, 1) := by decide +kernel
theorem dX6_to_0 : decode cX6_to 0 = .ok (.aload_n 0, 1) := by decide +kernel
theorem dX6_to_1 : decode cX6_to 1 = .ok (.iload_n 1, 1) := by decide +kernel
theorem dX6_to_2 : decode cX6_to 2 = .ok (.invokevirtual 70, 3) := by decide +kernel
theorem dX6_to_5 : decode cX6_to 5 = .ok (.astore 4, 2) := by decide +kernel
theorem dX6_to_7 : decode cX6_to 7 = .ok (.aload 4, 2) := by decide +kernel
theorem dX6_to_9 : decode cX6_to 9 = .ok (.ifnull 21, 3) := by decide +kernel
theorem dX6_to_12 : decode cX6_to 12 = .ok (.iload_n 2, 1) := by decide +kernel
theorem dX6_to_13 : decode cX6_to 13 = .ok (.iload_n 3, 1) := by decide +kernel
theorem dX6_to_14 : decode cX6_to 14 = .ok (.invokestatic 53, 3) := by decide +kernel
theorem dX6_to_17 : decode cX6_to 17 = .ok (.ifCond .eq 13, 3) := by decide +kernel
theorem dX6_to_20 : decode cX6_to 20 = .ok (.aload 4, 2) := by decide +kernel
theorem dX6_to_22 : decode cX6_to 22 = .ok (.iload_n 2, 1) := by decide +kernel
theorem dX6_to_23 : decode cX6_to 23 = .ok (.iload_n 3, 1) := by decide +kernel
theorem dX6_to_24 : decode cX6_to 24 = .ok (.invokevirtual 74, 3) := by decide +kernel
theorem dX6_to_27 : decode cX6_to 27 = .ok (.ifCond .eq 5, 3) := by decide +kernel
theorem dX6_to_30 : decode cX6_to 30 = .ok (.iconst (-1), 1) := by decide +kernel
theorem dX6_to_31 : decode cX6_to 31 = .ok (.ireturn, 1) := by decide +kernel
theorem dX6_to_32 : decode cX6_to 32 = .ok (.new 77, 3) := by decide +kernel
theorem dX6_to_35 : decode cX6_to 35 = .ok (.dup, 1) := by decide +kernel
theorem dX6_to_36 : decode cX6_to 36 = .ok (.aload 4, 2) := by decide +kernel
theorem dX6_to_38 : decode cX6_to 38 = .ok (.iload_n 2, 1) := by decide +kernel
theorem dX6_to_39 : decode cX6_to 39 = .ok (.iload_n 3, 1) := by decide +kernel
theorem dX6_to_40 : decode cX6_to 40 = .ok (.invokespecial 79, 3) := by decide +kernel
theorem dX6_to_43 : decode cX6_to 43 = .ok (.astore 5, 2) := by decide +kernel
theorem dX6_to_45 : decode cX6_to 45 = .ok (.aload 5, 2) := by decide +kernel
theorem dX6_to_47 : decode cX6_to 47 = .ok (.getfield 82, 3) := by decide +kernel
theorem dX6_to_50 : decode cX6_to 50 = .ok (.sipush 180, 3) := by decide +kernel
theorem dX6_to_53 : decode cX6_to 53 = .ok (.if_icmp .ne 5, 3) := by decide +kernel
theorem dX6_to_56 : decode cX6_to 56 = .ok (.iconst (-1), 1) := by decide +kernel
theorem dX6_to_57 : decode cX6_to 57 = .ok (.ireturn, 1) := by decide +kernel
theorem dX6_to_58 : decode cX6_to 58 = .ok (.aload_n 0, 1) := by decide +kernel
theorem dX6_to_59 : decode cX6_to 59 = .ok (.aload 5, 2) := by decide +kernel
theorem dX6_to_61 : decode cX6_to 61 = .ok (.invokevirtual 85, 3) := by decide +kernel
theorem dX6_to_64 : decode cX6_to 64 = .ok (.istore 6, 2) := by decide +kernel
theorem dX6_to_66 : decode cX6_to 66 = .ok (.aload_n 0, 1) := by decide +kernel
theorem dX6_to_67 : decode cX6_to 67 = .ok (.getfield 89, 3) := by decide +kernel
theorem dX6_to_70 : decode cX6_to 70 = .ok (.iload 6, 2) := by decide +kernel
theorem dX6_to_72 : decode cX6_to 72 = .ok (.iadd, 1) := by decide +kernel
theorem dX6_to_73 : decode cX6_to 73 = .ok (.sipush 600, 3) := by decide +kernel
theorem dX6_to_76 : decode cX6_to 76 = .ok (.if_icmp .le 5, 3) := by decide +kernel
theorem dX6_to_79 : decode cX6_to 79 = .ok (.iconst (-1), 1) := by decide +kernel
theorem dX6_to_80 : decode cX6_to 80 = .ok (.ireturn, 1) := by decide +kernel
theorem dX6_to_81 : decode cX6_to 81 = .ok (.aload 5, 2) := by decide +kernel
theorem dX6_to_83 : decode cX6_to 83 = .ok (.getfield 82, 3) := by decide +kernel
theorem dX6_to_86 : decode cX6_to 86 = .ok (.ifCond .ne 13, 3) := by decide +kernel
theorem dX6_to_89 : decode cX6_to 89 = .ok (.aload_n 0, 1) := by decide +kernel
theorem dX6_to_90 : decode cX6_to 90 = .ok (.iload_n 1, 1) := by decide +kernel
theorem dX6_to_91 : decode cX6_to 91 = .ok (.aload 5, 2) := by decide +kernel
theorem dX6_to_93 : decode cX6_to 93 = .ok (.invokevirtual 92, 3) := by decide +kernel
theorem dX6_to_96 : decode cX6_to 96 = .ok (.goto 12, 3) := by decide +kernel
theorem dX6_to_99 : decode cX6_to 99 = .ok (.aload_n 0, 1) := by decide +kernel
theorem dX6_to_100 : decode cX6_to 100 = .ok (.iload_n 1, 1) := by decide +kernel
theorem dX6_to_101 : decode cX6_to 101 = .ok (.aload 5, 2) := by decide +kernel
theorem dX6_to_103 : decode cX6_to 103 = .ok (.iload 6, 2) := by decide +kernel
theorem dX6_to_105 : decode cX6_to 105 = .ok (.invokevirtual 96, 3) := by decide +kernel
theorem dX6_to_108 : decode cX6_to 108 = .ok (.aload 4, 2) := by decide +kernel
theorem dX6_to_110 : decode cX6_to 110 = .ok (.iload_n 2, 1) := by decide +kernel
theorem dX6_to_111 : decode cX6_to 111 = .ok (.putfield 100, 3) := by decide +kernel
theorem dX6_to_114 : decode cX6_to 114 = .ok (.aload 4, 2) := by decide +kernel
theorem dX6_to_116 : decode cX6_to 116 = .ok (.iload_n 3, 1) := by decide +kernel
theorem dX6_to_117 : decode cX6_to 117 = .ok (.putfield 103, 3) := by decide +kernel
theorem dX6_to_120 : decode cX6_to 120 = .ok (.iload 6, 2) := by decide +kernel
theorem dX6_to_122 : decode cX6_to 122 = .ok (.ireturn, 1) := by decide +kernel
theorem dX6_pieces_0 : decode cX6_pieces 0 = .ok (.aload_n 0, 1) := by decide +kernel
theorem dX6_pieces_1 : decode cX6_pieces 1 = .ok (.iload_n 1, 1) := by decide +kernel
theorem dX6_pieces_2 : decode cX6_pieces 2 = .ok (.invokevirtual 106, 3) := by decide +kernel
theorem dX6_pieces_5 : decode cX6_pieces 5 = .ok (.astore_n 2, 1) := by decide +kernel
theorem dX6_pieces_6 : decode cX6_pieces 6 = .ok (.aload_n 2, 1) := by decide +kernel
theorem dX6_pieces_7 : decode cX6_pieces 7 = .ok (.ifnonnull 7, 3) := by decide +kernel
theorem dX6_pieces_10 : decode cX6_pieces 10 = .ok (.iconst (-1), 1) := by decide +kernel
theorem dX6_pieces_11 : decode cX6_pieces 11 = .ok (.goto 10, 3) := by decide +kernel
theorem dX6_pieces_14 : decode cX6_pieces 14 = .ok (.aload_n 2, 1) := by decide +kernel
theorem dX6_pieces_15 : decode cX6_pieces 15 = .ok (.getfield 110, 3) := by decide +kernel
theorem dX6_pieces_18 : decode cX6_pieces 18 = .ok (.invokevirtual 57, 3) := by decide +kernel
theorem dX6_pieces_21 : decode cX6_pieces 21 = .ok (.ireturn, 1) := by decide +kernel
theorem dX6_piece_0 : decode cX6_piece 0 = .ok (.iload_n 3, 1) := by decide +kernel
theorem dX6_piece_1 : decode cX6_piece 1 = .ok (.ifCond .lt 8, 3) := by decide +kernel
theorem dX6_piece_4 : decode cX6_piece 4 = .ok (.iload_n 3, 1) := by decide +kernel
theorem dX6_piece_5 : decode cX6_piece 5 = .ok (.iconst 4, 1) := by decide +kernel
theorem dX6_piece_6 : decode cX6_piece 6 = .ok (.if_icmp .le 5, 3) := by decide +kernel
theorem dX6_piece_9 : decode cX6_piece 9 = .ok (.iconst (-1), 1) := by decide +kernel
theorem dX6_piece_10 : decode cX6_piece 10 = .ok (.ireturn, 1) := by decide +kernel
theorem dX6_piece_11 : decode cX6_piece 11 = .ok (.aload_n 0, 1) := by decide +kernel
theorem dX6_piece_12 : decode cX6_piece 12 = .ok (.iload_n 1, 1) := by decide +kernel
theorem dX6_piece_13 : decode cX6_piece 13 = .ok (.invokevirtual 106, 3) := by decide +kernel
theorem dX6_piece_16 : decode cX6_piece 16 = .ok (.astore 4, 2) := by decide +kernel
theorem dX6_piece_18 : decode cX6_piece 18 = .ok (.aload 4, 2) := by decide +kernel
theorem dX6_piece_20 : decode cX6_piece 20 = .ok (.ifnull 19, 3) := by decide +kernel
theorem dX6_piece_23 : decode cX6_piece 23 = .ok (.iload_n 2, 1) := by decide +kernel
theorem dX6_piece_24 : decode cX6_piece 24 = .ok (.ifCond .lt 15, 3) := by decide +kernel
theorem dX6_piece_27 : decode cX6_piece 27 = .ok (.iload_n 2, 1) := by decide +kernel
theorem dX6_piece_28 : decode cX6_piece 28 = .ok (.aload 4, 2) := by decide +kernel
theorem dX6_piece_30 : decode cX6_piece 30 = .ok (.getfield 110, 3) := by decide +kernel
theorem dX6_piece_33 : decode cX6_piece 33 = .ok (.invokevirtual 57, 3) := by decide +kernel
theorem dX6_piece_36 : decode cX6_piece 36 = .ok (.if_icmp .lt 14, 3) := by decide +kernel
theorem dX6_piece_39 : decode cX6_piece 39 = .ok (.iload_n 3, 1) := by decide +kernel
theorem dX6_piece_40 : decode cX6_piece 40 = .ok (.ifCond .ne 7, 3) := by decide +kernel
theorem dX6_piece_43 : decode cX6_piece 43 = .ok (.iconst (-1), 1) := by decide +kernel
theorem dX6_piece_44 : decode cX6_piece 44 = .ok (.goto 5, 3) := by decide +kernel
theorem dX6_piece_47 : decode cX6_piece 47 = .ok (.ldc 52, 2) := by decide +kernel
theorem dX6_piece_49 : decode cX6_piece 49 = .ok (.ireturn, 1) := by decide +kernel
theorem dX6_piece_50 : decode cX6_piece 50 = .ok (.aload 4, 2) := by decide +kernel
theorem dX6_piece_52 : decode cX6_piece 52 = .ok (.getfield 110, 3) := by decide +kernel
theorem dX6_piece_55 : decode cX6_piece 55 = .ok (.iload_n 2, 1) := by decide +kernel
theorem dX6_piece_56 : decode cX6_piece 56 = .ok (.invokevirtual 113, 3) := by decide +kernel
theorem dX6_piece_59 : decode cX6_piece 59 = .ok (.checkcast 117, 3) := by decide +kernel
theorem dX6_piece_62 : decode cX6_piece 62 = .ok (.astore 5, 2) := by decide +kernel
theorem dX6_piece_64 : decode cX6_piece 64 = .ok (.iload_n 3, 1) := by decide +kernel
theorem dX6_piece_65 : decode cX6_piece 65 = .ok (.tableswitch 55 0 3 #[31, 37, 43, 49], 31) := by decide +kernel
theorem dX6_piece_96 : decode cX6_piece 96 = .ok (.aload 5, 2) := by decide +kernel
theorem dX6_piece_98 : decode cX6_piece 98 = .ok (.getfield 119, 3) := by decide +kernel
theorem dX6_piece_101 : decode cX6_piece 101 = .ok (.ireturn, 1) := by decide +kernel
theorem dX6_piece_102 : decode cX6_piece 102 = .ok (.aload 5, 2) := by decide +kernel
theorem dX6_piece_104 : decode cX6_piece 104 = .ok (.getfield 122, 3) := by decide +kernel
theorem dX6_piece_107 : decode cX6_piece 107 = .ok (.ireturn, 1) := by decide +kernel
theorem dX6_piece_108 : decode cX6_piece 108 = .ok (.aload 5, 2) := by decide +kernel
theorem dX6_piece_110 : decode cX6_piece 110 = .ok (.getfield 125, 3) := by decide +kernel
theorem dX6_piece_113 : decode cX6_piece 113 = .ok (.ireturn, 1) := by decide +kernel
theorem dX6_piece_114 : decode cX6_piece 114 = .ok (.aload 5, 2) := by decide +kernel
theorem dX6_piece_116 : decode cX6_piece 116 = .ok (.getfield 128, 3) := by decide +kernel
theorem dX6_piece_119 : decode cX6_piece 119 = .ok (.ireturn, 1) := by decide +kernel
theorem dX6_piece_120 : decode cX6_piece 120 = .ok (.aload 5, 2) := by decide +kernel
theorem dX6_piece_122 : decode cX6_piece 122 = .ok (.getfield 131, 3) := by decide +kernel
theorem dX6_piece_125 : decode cX6_piece 125 = .ok (.ireturn, 1) := by decide +kernel
theorem dX6_paper_0 : decode cX6_paper 0 = .ok (.iload_n 1, 1) := by decide +kernel
theorem dX6_paper_1 : decode cX6_paper 1 = .ok (.invokestatic 134, 3) := by decide +kernel
theorem dX6_paper_4 : decode cX6_paper 4 = .ok (.ifCond .eq 10, 3) := by decide +kernel
theorem dX6_paper_7 : decode cX6_paper 7 = .ok (.iload_n 2, 1) := by decide +kernel
theorem dX6_paper_8 : decode cX6_paper 8 = .ok (.invokestatic 134, 3) := by decide +kernel
theorem dX6_paper_11 : decode cX6_paper 11 = .ok (.ifCond .ne 5, 3) := by decide +kernel
theorem dX6_paper_14 : decode cX6_paper 14 = .ok (.iconst 0, 1) := by decide +kernel
theorem dX6_paper_15 : decode cX6_paper 15 = .ok (.ireturn, 1) := by decide +kernel
theorem dX6_paper_16 : decode cX6_paper 16 = .ok (.iload_n 1, 1) := by decide +kernel
theorem dX6_paper_17 : decode cX6_paper 17 = .ok (.aload_n 0, 1) := by decide +kernel
theorem dX6_paper_18 : decode cX6_paper 18 = .ok (.getfield 137, 3) := by decide +kernel
theorem dX6_paper_21 : decode cX6_paper 21 = .ok (.if_icmp .ne 13, 3) := by decide +kernel
theorem dX6_paper_24 : decode cX6_paper 24 = .ok (.iload_n 2, 1) := by decide +kernel
theorem dX6_paper_25 : decode cX6_paper 25 = .ok (.aload_n 0, 1) := by decide +kernel
theorem dX6_paper_26 : decode cX6_paper 26 = .ok (.getfield 140, 3) := by decide +kernel
theorem dX6_paper_29 : decode cX6_paper 29 = .ok (.if_icmp .ne 5, 3) := by decide +kernel
theorem dX6_paper_32 : decode cX6_paper 32 = .ok (.iconst 0, 1) := by decide +kernel
theorem dX6_paper_33 : decode cX6_paper 33 = .ok (.ireturn, 1) := by decide +kernel
theorem dX6_paper_34 : decode cX6_paper 34 = .ok (.aload_n 0, 1) := by decide +kernel
theorem dX6_paper_35 : decode cX6_paper 35 = .ok (.iload_n 1, 1) := by decide +kernel
theorem dX6_paper_36 : decode cX6_paper 36 = .ok (.putfield 137, 3) := by decide +kernel
theorem dX6_paper_39 : decode cX6_paper 39 = .ok (.aload_n 0, 1) := by decide +kernel
theorem dX6_paper_40 : decode cX6_paper 40 = .ok (.iload_n 2, 1) := by decide +kernel
theorem dX6_paper_41 : decode cX6_paper 41 = .ok (.putfield 140, 3) := by decide +kernel
theorem dX6_paper_44 : decode cX6_paper 44 = .ok (.aload_n 0, 1) := by decide +kernel
theorem dX6_paper_45 : decode cX6_paper 45 = .ok (.getfield 36, 3) := by decide +kernel
theorem dX6_paper_48 : decode cX6_paper 48 = .ok (.astore_n 3, 1) := by decide +kernel
theorem dX6_paper_49 : decode cX6_paper 49 = .ok (.aload_n 3, 1) := by decide +kernel
theorem dX6_paper_50 : decode cX6_paper 50 = .ok (.arraylength, 1) := by decide +kernel
theorem dX6_paper_51 : decode cX6_paper 51 = .ok (.istore 4, 2) := by decide +kernel
theorem dX6_paper_53 : decode cX6_paper 53 = .ok (.iconst 0, 1) := by decide +kernel
theorem dX6_paper_54 : decode cX6_paper 54 = .ok (.istore 5, 2) := by decide +kernel
theorem dX6_paper_56 : decode cX6_paper 56 = .ok (.iload 5, 2) := by decide +kernel
theorem dX6_paper_58 : decode cX6_paper 58 = .ok (.iload 4, 2) := by decide +kernel
theorem dX6_paper_60 : decode cX6_paper 60 = .ok (.if_icmp .ge 21, 3) := by decide +kernel
theorem dX6_paper_63 : decode cX6_paper 63 = .ok (.aload_n 3, 1) := by decide +kernel
theorem dX6_paper_64 : decode cX6_paper 64 = .ok (.iload 5, 2) := by decide +kernel
theorem dX6_paper_66 : decode cX6_paper 66 = .ok (.aaload, 1) := by decide +kernel
theorem dX6_paper_67 : decode cX6_paper 67 = .ok (.astore 6, 2) := by decide +kernel
theorem dX6_paper_69 : decode cX6_paper 69 = .ok (.aload 6, 2) := by decide +kernel
theorem dX6_paper_71 : decode cX6_paper 71 = .ok (.iconst 1, 1) := by decide +kernel
theorem dX6_paper_72 : decode cX6_paper 72 = .ok (.putfield 143, 3) := by decide +kernel
theorem dX6_paper_75 : decode cX6_paper 75 = .ok (.iinc 5 1, 3) := by decide +kernel
theorem dX6_paper_78 : decode cX6_paper 78 = .ok (.goto (-22), 3) := by decide +kernel
theorem dX6_paper_81 : decode cX6_paper 81 = .ok (.iconst 1, 1) := by decide +kernel
theorem dX6_paper_82 : decode cX6_paper 82 = .ok (.ireturn, 1) := by decide +kernel
theorem dX6_drawn_0 : decode cX6_drawn 0 = .ok (.iload_n 1, 1) := by decide +kernel
theorem dX6_drawn_1 : decode cX6_drawn 1 = .ok (.iload_n 2, 1) := by decide +kernel
theorem dX6_drawn_2 : decode cX6_drawn 2 = .ok (.invokestatic 147, 3) := by decide +kernel
theorem dX6_drawn_5 : decode cX6_drawn 5 = .ok (.ifCond .eq 19, 3) := by decide +kernel
theorem dX6_drawn_8 : decode cX6_drawn 8 = .ok (.iload_n 1, 1) := by decide +kernel
theorem dX6_drawn_9 : decode cX6_drawn 9 = .ok (.sipush 1000, 3) := by decide +kernel
theorem dX6_drawn_12 : decode cX6_drawn 12 = .ok (.imul, 1) := by decide +kernel
theorem dX6_drawn_13 : decode cX6_drawn 13 = .ok (.aload_n 0, 1) := by decide +kernel
theorem dX6_drawn_14 : decode cX6_drawn 14 = .ok (.iload_n 2, 1) := by decide +kernel
theorem dX6_drawn_15 : decode cX6_drawn 15 = .ok (.invokevirtual 150, 3) := by decide +kernel
theorem dX6_drawn_18 : decode cX6_drawn 18 = .ok (.invokestatic 153, 3) := by decide +kernel
theorem dX6_drawn_21 : decode cX6_drawn 21 = .ok (.goto 4, 3) := by decide +kernel
theorem dX6_drawn_24 : decode cX6_drawn 24 = .ok (.iconst (-1), 1) := by decide +kernel
theorem dX6_drawn_25 : decode cX6_drawn 25 = .ok (.ireturn, 1) := by decide +kernel
theorem dX6_wet_0 : decode cX6_wet 0 = .ok (.iload_n 1, 1) := by decide +kernel
theorem dX6_wet_1 : decode cX6_wet 1 = .ok (.iload_n 2, 1) := by decide +kernel
theorem dX6_wet_2 : decode cX6_wet 2 = .ok (.invokestatic 147, 3) := by decide +kernel
theorem dX6_wet_5 : decode cX6_wet 5 = .ok (.ifCond .eq 19, 3) := by decide +kernel
theorem dX6_wet_8 : decode cX6_wet 8 = .ok (.iload_n 1, 1) := by decide +kernel
theorem dX6_wet_9 : decode cX6_wet 9 = .ok (.aload_n 0, 1) := by decide +kernel
theorem dX6_wet_10 : decode cX6_wet 10 = .ok (.iload_n 2, 1) := by decide +kernel
theorem dX6_wet_11 : decode cX6_wet 11 = .ok (.invokevirtual 150, 3) := by decide +kernel
theorem dX6_wet_14 : decode cX6_wet 14 = .ok (.imul, 1) := by decide +kernel
theorem dX6_wet_15 : decode cX6_wet 15 = .ok (.sipush 1000, 3) := by decide +kernel
theorem dX6_wet_18 : decode cX6_wet 18 = .ok (.invokestatic 153, 3) := by decide +kernel
theorem dX6_wet_21 : decode cX6_wet 21 = .ok (.goto 4, 3) := by decide +kernel
theorem dX6_wet_24 : decode cX6_wet 24 = .ok (.iconst (-1), 1) := by decide +kernel
theorem dX6_wet_25 : decode cX6_wet 25 = .ok (.ireturn, 1) := by decide +kernel
theorem dX6_name_0 : decode cX6_name 0 = .ok (.iload_n 1, 1) := by decide +kernel
theorem dX6_name_1 : decode cX6_name 1 = .ok (.iload_n 2, 1) := by decide +kernel
theorem dX6_name_2 : decode cX6_name 2 = .ok (.invokestatic 53, 3) := by decide +kernel
theorem dX6_name_5 : decode cX6_name 5 = .ok (.ifCond .eq 39, 3) := by decide +kernel
theorem dX6_name_8 : decode cX6_name 8 = .ok (.iload_n 3, 1) := by decide +kernel
theorem dX6_name_9 : decode cX6_name 9 = .ok (.iconst 1, 1) := by decide +kernel
theorem dX6_name_10 : decode cX6_name 10 = .ok (.if_icmp .lt 34, 3) := by decide +kernel
theorem dX6_name_13 : decode cX6_name 13 = .ok (.iload_n 3, 1) := by decide +kernel
theorem dX6_name_14 : decode cX6_name 14 = .ok (.bipush 20, 2) := by decide +kernel
theorem dX6_name_16 : decode cX6_name 16 = .ok (.if_icmp .gt 28, 3) := by decide +kernel
theorem dX6_name_19 : decode cX6_name 19 = .ok (.iload 4, 2) := by decide +kernel
theorem dX6_name_21 : decode cX6_name 21 = .ok (.iconst 1, 1) := by decide +kernel
theorem dX6_name_22 : decode cX6_name 22 = .ok (.if_icmp .lt 22, 3) := by decide +kernel
theorem dX6_name_25 : decode cX6_name 25 = .ok (.iload 4, 2) := by decide +kernel
theorem dX6_name_27 : decode cX6_name 27 = .ok (.bipush 99, 2) := by decide +kernel
theorem dX6_name_29 : decode cX6_name 29 = .ok (.if_icmp .gt 15, 3) := by decide +kernel
theorem dX6_name_32 : decode cX6_name 32 = .ok (.aload_n 0, 1) := by decide +kernel
theorem dX6_name_33 : decode cX6_name 33 = .ok (.getfield 16, 3) := by decide +kernel
theorem dX6_name_36 : decode cX6_name 36 = .ok (.invokevirtual 57, 3) := by decide +kernel
theorem dX6_name_39 : decode cX6_name 39 = .ok (.bipush 60, 2) := by decide +kernel
theorem dX6_name_41 : decode cX6_name 41 = .ok (.if_icmp .lt 5, 3) := by decide +kernel
theorem dX6_name_44 : decode cX6_name 44 = .ok (.iconst (-1), 1) := by decide +kernel
theorem dX6_name_45 : decode cX6_name 45 = .ok (.ireturn, 1) := by decide +kernel
theorem dX6_name_46 : decode cX6_name 46 = .ok (.iload_n 1, 1) := by decide +kernel
theorem dX6_name_47 : decode cX6_name 47 = .ok (.aload_n 0, 1) := by decide +kernel
theorem dX6_name_48 : decode cX6_name 48 = .ok (.getfield 30, 3) := by decide +kernel
theorem dX6_name_51 : decode cX6_name 51 = .ok (.idiv, 1) := by decide +kernel
theorem dX6_name_52 : decode cX6_name 52 = .ok (.istore 5, 2) := by decide +kernel
theorem dX6_name_54 : decode cX6_name 54 = .ok (.aload_n 0, 1) := by decide +kernel
theorem dX6_name_55 : decode cX6_name 55 = .ok (.iload 5, 2) := by decide +kernel
theorem dX6_name_57 : decode cX6_name 57 = .ok (.invokevirtual 106, 3) := by decide +kernel
theorem dX6_name_60 : decode cX6_name 60 = .ok (.astore 6, 2) := by decide +kernel
theorem dX6_name_62 : decode cX6_name 62 = .ok (.aload 6, 2) := by decide +kernel
theorem dX6_name_64 : decode cX6_name 64 = .ok (.ifnull 16, 3) := by decide +kernel
theorem dX6_name_67 : decode cX6_name 67 = .ok (.aload 6, 2) := by decide +kernel
theorem dX6_name_69 : decode cX6_name 69 = .ok (.getfield 156, 3) := by decide +kernel
theorem dX6_name_72 : decode cX6_name 72 = .ok (.invokevirtual 57, 3) := by decide +kernel
theorem dX6_name_75 : decode cX6_name 75 = .ok (.bipush 6, 2) := by decide +kernel
theorem dX6_name_77 : decode cX6_name 77 = .ok (.if_icmp .lt 5, 3) := by decide +kernel
theorem dX6_name_80 : decode cX6_name 80 = .ok (.iconst (-1), 1) := by decide +kernel
theorem dX6_name_81 : decode cX6_name 81 = .ok (.ireturn, 1) := by decide +kernel
theorem dX6_name_82 : decode cX6_name 82 = .ok (.aload_n 0, 1) := by decide +kernel
theorem dX6_name_83 : decode cX6_name 83 = .ok (.iload_n 1, 1) := by decide +kernel
theorem dX6_name_84 : decode cX6_name 84 = .ok (.iload 5, 2) := by decide +kernel
theorem dX6_name_86 : decode cX6_name 86 = .ok (.invokevirtual 157, 3) := by decide +kernel
theorem dX6_name_89 : decode cX6_name 89 = .ok (.istore 7, 2) := by decide +kernel
theorem dX6_name_91 : decode cX6_name 91 = .ok (.iload_n 2, 1) := by decide +kernel
theorem dX6_name_92 : decode cX6_name 92 = .ok (.bipush 60, 2) := by decide +kernel
theorem dX6_name_94 : decode cX6_name 94 = .ok (.imul, 1) := by decide +kernel
theorem dX6_name_95 : decode cX6_name 95 = .ok (.istore 8, 2) := by decide +kernel
theorem dX6_name_97 : decode cX6_name 97 = .ok (.new 160, 3) := by decide +kernel
theorem dX6_name_100 : decode cX6_name 100 = .ok (.dup, 1) := by decide +kernel
theorem dX6_name_101 : decode cX6_name 101 = .ok (.iload 5, 2) := by decide +kernel
theorem dX6_name_103 : decode cX6_name 103 = .ok (.iload 7, 2) := by decide +kernel
theorem dX6_name_105 : decode cX6_name 105 = .ok (.iload 8, 2) := by decide +kernel
theorem dX6_name_107 : decode cX6_name 107 = .ok (.iload 7, 2) := by decide +kernel
theorem dX6_name_109 : decode cX6_name 109 = .ok (.iload 8, 2) := by decide +kernel
theorem dX6_name_111 : decode cX6_name 111 = .ok (.invokestatic 48, 3) := by decide +kernel
theorem dX6_name_114 : decode cX6_name 114 = .ok (.iload_n 3, 1) := by decide +kernel
theorem dX6_name_115 : decode cX6_name 115 = .ok (.iload 4, 2) := by decide +kernel
theorem dX6_name_117 : decode cX6_name 117 = .ok (.invokespecial 162, 3) := by decide +kernel
theorem dX6_name_120 : decode cX6_name 120 = .ok (.astore 9, 2) := by decide +kernel
theorem dX6_name_122 : decode cX6_name 122 = .ok (.aload 9, 2) := by decide +kernel
theorem dX6_name_124 : decode cX6_name 124 = .ok (.aload_n 0, 1) := by decide +kernel
theorem dX6_name_125 : decode cX6_name 125 = .ok (.aload 9, 2) := by decide +kernel
theorem dX6_name_127 : decode cX6_name 127 = .ok (.invokevirtual 165, 3) := by decide +kernel
theorem dX6_name_130 : decode cX6_name 130 = .ok (.putfield 169, 3) := by decide +kernel
theorem dX6_name_133 : decode cX6_name 133 = .ok (.aload_n 0, 1) := by decide +kernel
theorem dX6_name_134 : decode cX6_name 134 = .ok (.getfield 16, 3) := by decide +kernel
theorem dX6_name_137 : decode cX6_name 137 = .ok (.aload 9, 2) := by decide +kernel
theorem dX6_name_139 : decode cX6_name 139 = .ok (.invokevirtual 66, 3) := by decide +kernel
theorem dX6_name_142 : decode cX6_name 142 = .ok (.pop, 1) := by decide +kernel
theorem dX6_name_143 : decode cX6_name 143 = .ok (.aload 6, 2) := by decide +kernel
theorem dX6_name_145 : decode cX6_name 145 = .ok (.getfield 156, 3) := by decide +kernel
theorem dX6_name_148 : decode cX6_name 148 = .ok (.aload 9, 2) := by decide +kernel
theorem dX6_name_150 : decode cX6_name 150 = .ok (.invokevirtual 66, 3) := by decide +kernel
theorem dX6_name_153 : decode cX6_name 153 = .ok (.pop, 1) := by decide +kernel
theorem dX6_name_154 : decode cX6_name 154 = .ok (.aload_n 0, 1) := by decide +kernel
theorem dX6_name_155 : decode cX6_name 155 = .ok (.aload 6, 2) := by decide +kernel
theorem dX6_name_157 : decode cX6_name 157 = .ok (.invokevirtual 172, 3) := by decide +kernel
theorem dX6_name_160 : decode cX6_name 160 = .ok (.aload_n 0, 1) := by decide +kernel
theorem dX6_name_161 : decode cX6_name 161 = .ok (.getfield 16, 3) := by decide +kernel
theorem dX6_name_164 : decode cX6_name 164 = .ok (.invokevirtual 57, 3) := by decide +kernel
theorem dX6_name_167 : decode cX6_name 167 = .ok (.iconst 1, 1) := by decide +kernel
theorem dX6_name_168 : decode cX6_name 168 = .ok (.isub, 1) := by decide +kernel
theorem dX6_name_169 : decode cX6_name 169 = .ok (.ireturn, 1) := by decide +kernel
theorem dX6_strike_0 : decode cX6_strike 0 = .ok (.aload_n 0, 1) := by decide +kernel
theorem dX6_strike_1 : decode cX6_strike 1 = .ok (.iload_n 1, 1) := by decide +kernel
theorem dX6_strike_2 : decode cX6_strike 2 = .ok (.invokevirtual 176, 3) := by decide +kernel
theorem dX6_strike_5 : decode cX6_strike 5 = .ok (.astore_n 2, 1) := by decide +kernel
theorem dX6_strike_6 : decode cX6_strike 6 = .ok (.aload_n 2, 1) := by decide +kernel
theorem dX6_strike_7 : decode cX6_strike 7 = .ok (.ifnonnull 5, 3) := by decide +kernel
theorem dX6_strike_10 : decode cX6_strike 10 = .ok (.iconst 0, 1) := by decide +kernel
theorem dX6_strike_11 : decode cX6_strike 11 = .ok (.ireturn, 1) := by decide +kernel
theorem dX6_strike_12 : decode cX6_strike 12 = .ok (.aload_n 2, 1) := by decide +kernel
theorem dX6_strike_13 : decode cX6_strike 13 = .ok (.iconst 1, 1) := by decide +kernel
theorem dX6_strike_14 : decode cX6_strike 14 = .ok (.putfield 180, 3) := by decide +kernel
theorem dX6_strike_17 : decode cX6_strike 17 = .ok (.aload_n 0, 1) := by decide +kernel
theorem dX6_strike_18 : decode cX6_strike 18 = .ok (.aload_n 2, 1) := by decide +kernel
theorem dX6_strike_19 : decode cX6_strike 19 = .ok (.getfield 183, 3) := by decide +kernel
theorem dX6_strike_22 : decode cX6_strike 22 = .ok (.invokevirtual 106, 3) := by decide +kernel
theorem dX6_strike_25 : decode cX6_strike 25 = .ok (.astore_n 3, 1) := by decide +kernel
theorem dX6_strike_26 : decode cX6_strike 26 = .ok (.aload_n 3, 1) := by decide +kernel
theorem dX6_strike_27 : decode cX6_strike 27 = .ok (.ifnull 13, 3) := by decide +kernel
theorem dX6_strike_30 : decode cX6_strike 30 = .ok (.aload_n 3, 1) := by decide +kernel
theorem dX6_strike_31 : decode cX6_strike 31 = .ok (.aload_n 2, 1) := by decide +kernel
theorem dX6_strike_32 : decode cX6_strike 32 = .ok (.invokevirtual 186, 3) := by decide +kernel
theorem dX6_strike_35 : decode cX6_strike 35 = .ok (.aload_n 0, 1) := by decide +kernel
theorem dX6_strike_36 : decode cX6_strike 36 = .ok (.aload_n 3, 1) := by decide +kernel
theorem dX6_strike_37 : decode cX6_strike 37 = .ok (.invokevirtual 172, 3) := by decide +kernel
theorem dX6_strike_40 : decode cX6_strike 40 = .ok (.iconst 1, 1) := by decide +kernel
theorem dX6_strike_41 : decode cX6_strike 41 = .ok (.ireturn, 1) := by decide +kernel
theorem dX6_may_0 : decode cX6_may 0 = .ok (.aload_n 0, 1) := by decide +kernel
theorem dX6_may_1 : decode cX6_may 1 = .ok (.iload_n 1, 1) := by decide +kernel
theorem dX6_may_2 : decode cX6_may 2 = .ok (.invokevirtual 176, 3) := by decide +kernel
theorem dX6_may_5 : decode cX6_may 5 = .ok (.astore_n 3, 1) := by decide +kernel
theorem dX6_may_6 : decode cX6_may 6 = .ok (.aload_n 3, 1) := by decide +kernel
theorem dX6_may_7 : decode cX6_may 7 = .ok (.ifnull 15, 3) := by decide +kernel
theorem dX6_may_10 : decode cX6_may 10 = .ok (.aload_n 3, 1) := by decide +kernel
theorem dX6_may_11 : decode cX6_may 11 = .ok (.iload_n 2, 1) := by decide +kernel
theorem dX6_may_12 : decode cX6_may 12 = .ok (.invokevirtual 190, 3) := by decide +kernel
theorem dX6_may_15 : decode cX6_may 15 = .ok (.ifCond .eq 7, 3) := by decide +kernel
theorem dX6_may_18 : decode cX6_may 18 = .ok (.iconst 1, 1) := by decide +kernel
theorem dX6_may_19 : decode cX6_may 19 = .ok (.goto 4, 3) := by decide +kernel
theorem dX6_may_22 : decode cX6_may 22 = .ok (.iconst 0, 1) := by decide +kernel
theorem dX6_may_23 : decode cX6_may 23 = .ok (.ireturn, 1) := by decide +kernel
theorem dX6_set_0 : decode cX6_set 0 = .ok (.aload_n 0, 1) := by decide +kernel
theorem dX6_set_1 : decode cX6_set 1 = .ok (.iload_n 1, 1) := by decide +kernel
theorem dX6_set_2 : decode cX6_set 2 = .ok (.invokevirtual 176, 3) := by decide +kernel
theorem dX6_set_5 : decode cX6_set 5 = .ok (.astore_n 2, 1) := by decide +kernel
theorem dX6_set_6 : decode cX6_set 6 = .ok (.aload_n 2, 1) := by decide +kernel
theorem dX6_set_7 : decode cX6_set 7 = .ok (.ifnonnull 7, 3) := by decide +kernel
theorem dX6_set_10 : decode cX6_set 10 = .ok (.iconst (-1), 1) := by decide +kernel
theorem dX6_set_11 : decode cX6_set 11 = .ok (.goto 7, 3) := by decide +kernel
theorem dX6_set_14 : decode cX6_set 14 = .ok (.aload_n 2, 1) := by decide +kernel
theorem dX6_set_15 : decode cX6_set 15 = .ok (.getfield 193, 3) := by decide +kernel
theorem dX6_set_18 : decode cX6_set 18 = .ok (.ireturn, 1) := by decide +kernel
theorem dX6_cost_0 : decode cX6_cost 0 = .ok (.aload_n 0, 1) := by decide +kernel
theorem dX6_cost_1 : decode cX6_cost 1 = .ok (.iload_n 1, 1) := by decide +kernel
theorem dX6_cost_2 : decode cX6_cost 2 = .ok (.invokevirtual 106, 3) := by decide +kernel
theorem dX6_cost_5 : decode cX6_cost 5 = .ok (.astore_n 2, 1) := by decide +kernel
theorem dX6_cost_6 : decode cX6_cost 6 = .ok (.aload_n 2, 1) := by decide +kernel
theorem dX6_cost_7 : decode cX6_cost 7 = .ok (.ifnonnull 7, 3) := by decide +kernel
theorem dX6_cost_10 : decode cX6_cost 10 = .ok (.iconst (-1), 1) := by decide +kernel
theorem dX6_cost_11 : decode cX6_cost 11 = .ok (.goto 7, 3) := by decide +kernel
theorem dX6_cost_14 : decode cX6_cost 14 = .ok (.aload_n 2, 1) := by decide +kernel
theorem dX6_cost_15 : decode cX6_cost 15 = .ok (.getfield 196, 3) := by decide +kernel
theorem dX6_cost_18 : decode cX6_cost 18 = .ok (.ireturn, 1) := by decide +kernel
theorem dX6_told_0 : decode cX6_told 0 = .ok (.aload_n 0, 1) := by decide +kernel
theorem dX6_told_1 : decode cX6_told 1 = .ok (.iload_n 1, 1) := by decide +kernel
theorem dX6_told_2 : decode cX6_told 2 = .ok (.invokevirtual 176, 3) := by decide +kernel
theorem dX6_told_5 : decode cX6_told 5 = .ok (.astore_n 3, 1) := by decide +kernel
theorem dX6_told_6 : decode cX6_told 6 = .ok (.aload_n 3, 1) := by decide +kernel
theorem dX6_told_7 : decode cX6_told 7 = .ok (.ifnonnull 6, 3) := by decide +kernel
theorem dX6_told_10 : decode cX6_told 10 = .ok (.ldc 52, 2) := by decide +kernel
theorem dX6_told_12 : decode cX6_told 12 = .ok (.ireturn, 1) := by decide +kernel
theorem dX6_told_13 : decode cX6_told 13 = .ok (.iload_n 2, 1) := by decide +kernel
theorem dX6_told_14 : decode cX6_told 14 = .ok (.tableswitch 59 0 4 #[34, 39, 44, 49, 54], 34) := by decide +kernel
theorem dX6_told_48 : decode cX6_told 48 = .ok (.aload_n 3, 1) := by decide +kernel
theorem dX6_told_49 : decode cX6_told 49 = .ok (.getfield 183, 3) := by decide +kernel
theorem dX6_told_52 : decode cX6_told 52 = .ok (.ireturn, 1) := by decide +kernel
theorem dX6_told_53 : decode cX6_told 53 = .ok (.aload_n 3, 1) := by decide +kernel
theorem dX6_told_54 : decode cX6_told 54 = .ok (.getfield 199, 3) := by decide +kernel
theorem dX6_told_57 : decode cX6_told 57 = .ok (.ireturn, 1) := by decide +kernel
theorem dX6_told_58 : decode cX6_told 58 = .ok (.aload_n 3, 1) := by decide +kernel
theorem dX6_told_59 : decode cX6_told 59 = .ok (.getfield 202, 3) := by decide +kernel
theorem dX6_told_62 : decode cX6_told 62 = .ok (.ireturn, 1) := by decide +kernel
theorem dX6_told_63 : decode cX6_told 63 = .ok (.aload_n 3, 1) := by decide +kernel
theorem dX6_told_64 : decode cX6_told 64 = .ok (.getfield 205, 3) := by decide +kernel
theorem dX6_told_67 : decode cX6_told 67 = .ok (.ireturn, 1) := by decide +kernel
theorem dX6_told_68 : decode cX6_told 68 = .ok (.aload_n 3, 1) := by decide +kernel
theorem dX6_told_69 : decode cX6_told 69 = .ok (.getfield 208, 3) := by decide +kernel
theorem dX6_told_72 : decode cX6_told 72 = .ok (.ireturn, 1) := by decide +kernel
theorem dX6_told_73 : decode cX6_told 73 = .ok (.ldc 52, 2) := by decide +kernel
theorem dX6_told_75 : decode cX6_told 75 = .ok (.ireturn, 1) := by decide +kernel
theorem dX6_fresh_0 : decode cX6_fresh 0 = .ok (.aload_n 0, 1) := by decide +kernel
theorem dX6_fresh_1 : decode cX6_fresh 1 = .ok (.iload_n 1, 1) := by decide +kernel
theorem dX6_fresh_2 : decode cX6_fresh 2 = .ok (.invokevirtual 106, 3) := by decide +kernel
theorem dX6_fresh_5 : decode cX6_fresh 5 = .ok (.astore_n 2, 1) := by decide +kernel
theorem dX6_fresh_6 : decode cX6_fresh 6 = .ok (.aload_n 2, 1) := by decide +kernel
theorem dX6_fresh_7 : decode cX6_fresh 7 = .ok (.ifnull 14, 3) := by decide +kernel
theorem dX6_fresh_10 : decode cX6_fresh 10 = .ok (.aload_n 2, 1) := by decide +kernel
theorem dX6_fresh_11 : decode cX6_fresh 11 = .ok (.getfield 143, 3) := by decide +kernel
theorem dX6_fresh_14 : decode cX6_fresh 14 = .ok (.ifCond .eq 7, 3) := by decide +kernel
theorem dX6_fresh_17 : decode cX6_fresh 17 = .ok (.iconst 1, 1) := by decide +kernel
theorem dX6_fresh_18 : decode cX6_fresh 18 = .ok (.goto 4, 3) := by decide +kernel
theorem dX6_fresh_21 : decode cX6_fresh 21 = .ok (.iconst 0, 1) := by decide +kernel
theorem dX6_fresh_22 : decode cX6_fresh 22 = .ok (.ireturn, 1) := by decide +kernel
theorem dX6_edition_0 : decode cX6_edition 0 = .ok (.aload_n 0, 1) := by decide +kernel
theorem dX6_edition_1 : decode cX6_edition 1 = .ok (.dup, 1) := by decide +kernel
theorem dX6_edition_2 : decode cX6_edition 2 = .ok (.getfield 211, 3) := by decide +kernel
theorem dX6_edition_5 : decode cX6_edition 5 = .ok (.iconst 1, 1) := by decide +kernel
theorem dX6_edition_6 : decode cX6_edition 6 = .ok (.iadd, 1) := by decide +kernel
theorem dX6_edition_7 : decode cX6_edition 7 = .ok (.putfield 211, 3) := by decide +kernel
theorem dX6_edition_10 : decode cX6_edition 10 = .ok (.iconst 0, 1) := by decide +kernel
theorem dX6_edition_11 : decode cX6_edition 11 = .ok (.istore_n 1, 1) := by decide +kernel
theorem dX6_edition_12 : decode cX6_edition 12 = .ok (.aload_n 0, 1) := by decide +kernel
theorem dX6_edition_13 : decode cX6_edition 13 = .ok (.getfield 36, 3) := by decide +kernel
theorem dX6_edition_16 : decode cX6_edition 16 = .ok (.astore_n 2, 1) := by decide +kernel
theorem dX6_edition_17 : decode cX6_edition 17 = .ok (.aload_n 2, 1) := by decide +kernel
theorem dX6_edition_18 : decode cX6_edition 18 = .ok (.arraylength, 1) := by decide +kernel
theorem dX6_edition_19 : decode cX6_edition 19 = .ok (.istore_n 3, 1) := by decide +kernel
theorem dX6_edition_20 : decode cX6_edition 20 = .ok (.iconst 0, 1) := by decide +kernel
theorem dX6_edition_21 : decode cX6_edition 21 = .ok (.istore 4, 2) := by decide +kernel
theorem dX6_edition_23 : decode cX6_edition 23 = .ok (.iload 4, 2) := by decide +kernel
theorem dX6_edition_25 : decode cX6_edition 25 = .ok (.iload_n 3, 1) := by decide +kernel
theorem dX6_edition_26 : decode cX6_edition 26 = .ok (.if_icmp .ge 41, 3) := by decide +kernel
theorem dX6_edition_29 : decode cX6_edition 29 = .ok (.aload_n 2, 1) := by decide +kernel
theorem dX6_edition_30 : decode cX6_edition 30 = .ok (.iload 4, 2) := by decide +kernel
theorem dX6_edition_32 : decode cX6_edition 32 = .ok (.aaload, 1) := by decide +kernel
theorem dX6_edition_33 : decode cX6_edition 33 = .ok (.astore 5, 2) := by decide +kernel
theorem dX6_edition_35 : decode cX6_edition 35 = .ok (.aload 5, 2) := by decide +kernel
theorem dX6_edition_37 : decode cX6_edition 37 = .ok (.getfield 143, 3) := by decide +kernel
theorem dX6_edition_40 : decode cX6_edition 40 = .ok (.ifCond .eq 21, 3) := by decide +kernel
theorem dX6_edition_43 : decode cX6_edition 43 = .ok (.aload 5, 2) := by decide +kernel
theorem dX6_edition_45 : decode cX6_edition 45 = .ok (.iconst 0, 1) := by decide +kernel
theorem dX6_edition_46 : decode cX6_edition 46 = .ok (.putfield 143, 3) := by decide +kernel
theorem dX6_edition_49 : decode cX6_edition 49 = .ok (.aload 5, 2) := by decide +kernel
theorem dX6_edition_51 : decode cX6_edition 51 = .ok (.aload_n 0, 1) := by decide +kernel
theorem dX6_edition_52 : decode cX6_edition 52 = .ok (.getfield 211, 3) := by decide +kernel
theorem dX6_edition_55 : decode cX6_edition 55 = .ok (.putfield 214, 3) := by decide +kernel
theorem dX6_edition_58 : decode cX6_edition 58 = .ok (.iinc 1 1, 3) := by decide +kernel
theorem dX6_edition_61 : decode cX6_edition 61 = .ok (.iinc 4 1, 3) := by decide +kernel
theorem dX6_edition_64 : decode cX6_edition 64 = .ok (.goto (-41), 3) := by decide +kernel
theorem dX6_edition_67 : decode cX6_edition 67 = .ok (.iload_n 1, 1) := by decide +kernel
theorem dX6_edition_68 : decode cX6_edition 68 = .ok (.ireturn, 1) := by decide +kernel
theorem dX6_printed_0 : decode cX6_printed 0 = .ok (.aload_n 0, 1) := by decide +kernel
theorem dX6_printed_1 : decode cX6_printed 1 = .ok (.iload_n 1, 1) := by decide +kernel
theorem dX6_printed_2 : decode cX6_printed 2 = .ok (.invokevirtual 106, 3) := by decide +kernel
theorem dX6_printed_5 : decode cX6_printed 5 = .ok (.astore_n 2, 1) := by decide +kernel
theorem dX6_printed_6 : decode cX6_printed 6 = .ok (.aload_n 2, 1) := by decide +kernel
theorem dX6_printed_7 : decode cX6_printed 7 = .ok (.ifnonnull 7, 3) := by decide +kernel
theorem dX6_printed_10 : decode cX6_printed 10 = .ok (.iconst (-1), 1) := by decide +kernel
theorem dX6_printed_11 : decode cX6_printed 11 = .ok (.goto 7, 3) := by decide +kernel
theorem dX6_printed_14 : decode cX6_printed 14 = .ok (.aload_n 2, 1) := by decide +kernel
theorem dX6_printed_15 : decode cX6_printed 15 = .ok (.getfield 214, 3) := by decide +kernel
theorem dX6_printed_18 : decode cX6_printed 18 = .ok (.ireturn, 1) := by decide +kernel
theorem dX6_count_0 : decode cX6_count 0 = .ok (.iload_n 1, 1) := by decide +kernel
theorem dX6_count_1 : decode cX6_count 1 = .ok (.tableswitch 73 0 5 #[39, 45, 53, 58, 63, 68], 39) := by decide +kernel
theorem dX6_count_40 : decode cX6_count 40 = .ok (.aload_n 0, 1) := by decide +kernel
theorem dX6_count_41 : decode cX6_count 41 = .ok (.getfield 36, 3) := by decide +kernel
theorem dX6_count_44 : decode cX6_count 44 = .ok (.arraylength, 1) := by decide +kernel
theorem dX6_count_45 : decode cX6_count 45 = .ok (.ireturn, 1) := by decide +kernel
theorem dX6_count_46 : decode cX6_count 46 = .ok (.aload_n 0, 1) := by decide +kernel
theorem dX6_count_47 : decode cX6_count 47 = .ok (.getfield 12, 3) := by decide +kernel
theorem dX6_count_50 : decode cX6_count 50 = .ok (.invokevirtual 57, 3) := by decide +kernel
theorem dX6_count_53 : decode cX6_count 53 = .ok (.ireturn, 1) := by decide +kernel
theorem dX6_count_54 : decode cX6_count 54 = .ok (.aload_n 0, 1) := by decide +kernel
theorem dX6_count_55 : decode cX6_count 55 = .ok (.getfield 89, 3) := by decide +kernel
theorem dX6_count_58 : decode cX6_count 58 = .ok (.ireturn, 1) := by decide +kernel
theorem dX6_count_59 : decode cX6_count 59 = .ok (.aload_n 0, 1) := by decide +kernel
theorem dX6_count_60 : decode cX6_count 60 = .ok (.invokevirtual 217, 3) := by decide +kernel
theorem dX6_count_63 : decode cX6_count 63 = .ok (.ireturn, 1) := by decide +kernel
theorem dX6_count_64 : decode cX6_count 64 = .ok (.aload_n 0, 1) := by decide +kernel
theorem dX6_count_65 : decode cX6_count 65 = .ok (.getfield 211, 3) := by decide +kernel
theorem dX6_count_68 : decode cX6_count 68 = .ok (.ireturn, 1) := by decide +kernel
theorem dX6_count_69 : decode cX6_count 69 = .ok (.aload_n 0, 1) := by decide +kernel
theorem dX6_count_70 : decode cX6_count 70 = .ok (.invokevirtual 220, 3) := by decide +kernel
theorem dX6_count_73 : decode cX6_count 73 = .ok (.ireturn, 1) := by decide +kernel
theorem dX6_count_74 : decode cX6_count 74 = .ok (.iconst (-1), 1) := by decide +kernel
theorem dX6_count_75 : decode cX6_count 75 = .ok (.ireturn, 1) := by decide +kernel
theorem dX6_goreNumber_0 : decode cX6_goreNumber 0 = .ok (.bipush 6, 2) := by decide +kernel
theorem dX6_goreNumber_2 : decode cX6_goreNumber 2 = .ok (.istore_n 1, 1) := by decide +kernel
theorem dX6_goreNumber_3 : decode cX6_goreNumber 3 = .ok (.iconst 0, 1) := by decide +kernel
theorem dX6_goreNumber_4 : decode cX6_goreNumber 4 = .ok (.istore_n 2, 1) := by decide +kernel
theorem dX6_goreNumber_5 : decode cX6_goreNumber 5 = .ok (.iload_n 2, 1) := by decide +kernel
theorem dX6_goreNumber_6 : decode cX6_goreNumber 6 = .ok (.getstatic 223, 3) := by decide +kernel
theorem dX6_goreNumber_9 : decode cX6_goreNumber 9 = .ok (.arraylength, 1) := by decide +kernel
theorem dX6_goreNumber_10 : decode cX6_goreNumber 10 = .ok (.if_icmp .ge 24, 3) := by decide +kernel
theorem dX6_goreNumber_13 : decode cX6_goreNumber 13 = .ok (.getstatic 223, 3) := by decide +kernel
theorem dX6_goreNumber_16 : decode cX6_goreNumber 16 = .ok (.iload_n 2, 1) := by decide +kernel
theorem dX6_goreNumber_17 : decode cX6_goreNumber 17 = .ok (.iaload, 1) := by decide +kernel
theorem dX6_goreNumber_18 : decode cX6_goreNumber 18 = .ok (.iload_n 0, 1) := by decide +kernel
theorem dX6_goreNumber_19 : decode cX6_goreNumber 19 = .ok (.if_icmp .gt 9, 3) := by decide +kernel
theorem dX6_goreNumber_22 : decode cX6_goreNumber 22 = .ok (.getstatic 223, 3) := by decide +kernel
theorem dX6_goreNumber_25 : decode cX6_goreNumber 25 = .ok (.iload_n 2, 1) := by decide +kernel
theorem dX6_goreNumber_26 : decode cX6_goreNumber 26 = .ok (.iaload, 1) := by decide +kernel
theorem dX6_goreNumber_27 : decode cX6_goreNumber 27 = .ok (.istore_n 1, 1) := by decide +kernel
theorem dX6_goreNumber_28 : decode cX6_goreNumber 28 = .ok (.iinc 2 1, 3) := by decide +kernel
theorem dX6_goreNumber_31 : decode cX6_goreNumber 31 = .ok (.goto (-26), 3) := by decide +kernel
theorem dX6_goreNumber_34 : decode cX6_goreNumber 34 = .ok (.iload_n 1, 1) := by decide +kernel
theorem dX6_goreNumber_35 : decode cX6_goreNumber 35 = .ok (.ireturn, 1) := by decide +kernel
theorem dX6_isPlace_0 : decode cX6_isPlace 0 = .ok (.iload_n 0, 1) := by decide +kernel
theorem dX6_isPlace_1 : decode cX6_isPlace 1 = .ok (.ifCond .lt 26, 3) := by decide +kernel
theorem dX6_isPlace_4 : decode cX6_isPlace 4 = .ok (.iload_n 0, 1) := by decide +kernel
theorem dX6_isPlace_5 : decode cX6_isPlace 5 = .ok (.sipush 360, 3) := by decide +kernel
theorem dX6_isPlace_8 : decode cX6_isPlace 8 = .ok (.if_icmp .ge 19, 3) := by decide +kernel
theorem dX6_isPlace_11 : decode cX6_isPlace 11 = .ok (.iload_n 1, 1) := by decide +kernel
theorem dX6_isPlace_12 : decode cX6_isPlace 12 = .ok (.bipush (-90), 2) := by decide +kernel
theorem dX6_isPlace_14 : decode cX6_isPlace 14 = .ok (.if_icmp .lt 13, 3) := by decide +kernel
theorem dX6_isPlace_17 : decode cX6_isPlace 17 = .ok (.iload_n 1, 1) := by decide +kernel
theorem dX6_isPlace_18 : decode cX6_isPlace 18 = .ok (.bipush 90, 2) := by decide +kernel
theorem dX6_isPlace_20 : decode cX6_isPlace 20 = .ok (.if_icmp .gt 7, 3) := by decide +kernel
theorem dX6_isPlace_23 : decode cX6_isPlace 23 = .ok (.iconst 1, 1) := by decide +kernel
theorem dX6_isPlace_24 : decode cX6_isPlace 24 = .ok (.goto 4, 3) := by decide +kernel
theorem dX6_isPlace_27 : decode cX6_isPlace 27 = .ok (.iconst 0, 1) := by decide +kernel
theorem dX6_isPlace_28 : decode cX6_isPlace 28 = .ok (.ireturn, 1) := by decide +kernel
theorem dX6_isHeight_0 : decode cX6_isHeight 0 = .ok (.iload_n 0, 1) := by decide +kernel
theorem dX6_isHeight_1 : decode cX6_isHeight 1 = .ok (.sipush (-5400), 3) := by decide +kernel
theorem dX6_isHeight_4 : decode cX6_isHeight 4 = .ok (.if_icmp .lt 14, 3) := by decide +kernel
theorem dX6_isHeight_7 : decode cX6_isHeight 7 = .ok (.iload_n 0, 1) := by decide +kernel
theorem dX6_isHeight_8 : decode cX6_isHeight 8 = .ok (.sipush 5400, 3) := by decide +kernel
theorem dX6_isHeight_11 : decode cX6_isHeight 11 = .ok (.if_icmp .gt 7, 3) := by decide +kernel
theorem dX6_isHeight_14 : decode cX6_isHeight 14 = .ok (.iconst 1, 1) := by decide +kernel
theorem dX6_isHeight_15 : decode cX6_isHeight 15 = .ok (.goto 4, 3) := by decide +kernel
theorem dX6_isHeight_18 : decode cX6_isHeight 18 = .ok (.iconst 0, 1) := by decide +kernel
theorem dX6_isHeight_19 : decode cX6_isHeight 19 = .ok (.ireturn, 1) := by decide +kernel
theorem dX6_isGrowth_0 : decode cX6_isGrowth 0 = .ok (.iload_n 0, 1) := by decide +kernel
theorem dX6_isGrowth_1 : decode cX6_isGrowth 1 = .ok (.ifCond .lt 13, 3) := by decide +kernel
theorem dX6_isGrowth_4 : decode cX6_isGrowth 4 = .ok (.iload_n 0, 1) := by decide +kernel
theorem dX6_isGrowth_5 : decode cX6_isGrowth 5 = .ok (.bipush 50, 2) := by decide +kernel
theorem dX6_isGrowth_7 : decode cX6_isGrowth 7 = .ok (.if_icmp .gt 7, 3) := by decide +kernel
theorem dX6_isGrowth_10 : decode cX6_isGrowth 10 = .ok (.iconst 1, 1) := by decide +kernel
theorem dX6_isGrowth_11 : decode cX6_isGrowth 11 = .ok (.goto 4, 3) := by decide +kernel
theorem dX6_isGrowth_14 : decode cX6_isGrowth 14 = .ok (.iconst 0, 1) := by decide +kernel
theorem dX6_isGrowth_15 : decode cX6_isGrowth 15 = .ok (.ireturn, 1) := by decide +kernel
theorem dX6_isOnPaper_0 : decode cX6_isOnPaper 0 = .ok (.iload_n 1, 1) := by decide +kernel
theorem dX6_isOnPaper_1 : decode cX6_isOnPaper 1 = .ok (.ifCond .eq 8, 3) := by decide +kernel
theorem dX6_isOnPaper_4 : decode cX6_isOnPaper 4 = .ok (.iload_n 1, 1) := by decide +kernel
theorem dX6_isOnPaper_5 : decode cX6_isOnPaper 5 = .ok (.iconst 1, 1) := by decide +kernel
theorem dX6_isOnPaper_6 : decode cX6_isOnPaper 6 = .ok (.if_icmp .ne 21, 3) := by decide +kernel
theorem dX6_isOnPaper_9 : decode cX6_isOnPaper 9 = .ok (.iload_n 0, 1) := by decide +kernel
theorem dX6_isOnPaper_10 : decode cX6_isOnPaper 10 = .ok (.sipush (-10000), 3) := by decide +kernel
theorem dX6_isOnPaper_13 : decode cX6_isOnPaper 13 = .ok (.if_icmp .lt 14, 3) := by decide +kernel
theorem dX6_isOnPaper_16 : decode cX6_isOnPaper 16 = .ok (.iload_n 0, 1) := by decide +kernel
theorem dX6_isOnPaper_17 : decode cX6_isOnPaper 17 = .ok (.sipush 10000, 3) := by decide +kernel
theorem dX6_isOnPaper_20 : decode cX6_isOnPaper 20 = .ok (.if_icmp .gt 7, 3) := by decide +kernel
theorem dX6_isOnPaper_23 : decode cX6_isOnPaper 23 = .ok (.iconst 1, 1) := by decide +kernel
theorem dX6_isOnPaper_24 : decode cX6_isOnPaper 24 = .ok (.goto 4, 3) := by decide +kernel
theorem dX6_isOnPaper_27 : decode cX6_isOnPaper 27 = .ok (.iconst 0, 1) := by decide +kernel
theorem dX6_isOnPaper_28 : decode cX6_isOnPaper 28 = .ok (.ireturn, 1) := by decide +kernel
theorem dX6_roundBy_0 : decode cX6_roundBy 0 = .ok (.iload_n 1, 1) := by decide +kernel
theorem dX6_roundBy_1 : decode cX6_roundBy 1 = .ok (.ifCond .le 17, 3) := by decide +kernel
theorem dX6_roundBy_4 : decode cX6_roundBy 4 = .ok (.iconst 2, 1) := by decide +kernel
theorem dX6_roundBy_5 : decode cX6_roundBy 5 = .ok (.iload_n 0, 1) := by decide +kernel
theorem dX6_roundBy_6 : decode cX6_roundBy 6 = .ok (.imul, 1) := by decide +kernel
theorem dX6_roundBy_7 : decode cX6_roundBy 7 = .ok (.iload_n 1, 1) := by decide +kernel
theorem dX6_roundBy_8 : decode cX6_roundBy 8 = .ok (.iadd, 1) := by decide +kernel
theorem dX6_roundBy_9 : decode cX6_roundBy 9 = .ok (.iconst 2, 1) := by decide +kernel
theorem dX6_roundBy_10 : decode cX6_roundBy 10 = .ok (.iload_n 1, 1) := by decide +kernel
theorem dX6_roundBy_11 : decode cX6_roundBy 11 = .ok (.imul, 1) := by decide +kernel
theorem dX6_roundBy_12 : decode cX6_roundBy 12 = .ok (.invokestatic 227, 3) := by decide +kernel
theorem dX6_roundBy_15 : decode cX6_roundBy 15 = .ok (.goto 4, 3) := by decide +kernel
theorem dX6_roundBy_18 : decode cX6_roundBy 18 = .ok (.iconst 0, 1) := by decide +kernel
theorem dX6_roundBy_19 : decode cX6_roundBy 19 = .ok (.ireturn, 1) := by decide +kernel
theorem dX6_cosOf_0 : decode cX6_cosOf 0 = .ok (.iload_n 0, 1) := by decide +kernel
theorem dX6_cosOf_1 : decode cX6_cosOf 1 = .ok (.ifCond .lt 19, 3) := by decide +kernel
theorem dX6_cosOf_4 : decode cX6_cosOf 4 = .ok (.iload_n 0, 1) := by decide +kernel
theorem dX6_cosOf_5 : decode cX6_cosOf 5 = .ok (.getstatic 232, 3) := by decide +kernel
theorem dX6_cosOf_8 : decode cX6_cosOf 8 = .ok (.arraylength, 1) := by decide +kernel
theorem dX6_cosOf_9 : decode cX6_cosOf 9 = .ok (.if_icmp .ge 11, 3) := by decide +kernel
theorem dX6_cosOf_12 : decode cX6_cosOf 12 = .ok (.getstatic 232, 3) := by decide +kernel
theorem dX6_cosOf_15 : decode cX6_cosOf 15 = .ok (.iload_n 0, 1) := by decide +kernel
theorem dX6_cosOf_16 : decode cX6_cosOf 16 = .ok (.iaload, 1) := by decide +kernel
theorem dX6_cosOf_17 : decode cX6_cosOf 17 = .ok (.goto 4, 3) := by decide +kernel
theorem dX6_cosOf_20 : decode cX6_cosOf 20 = .ok (.iconst 0, 1) := by decide +kernel
theorem dX6_cosOf_21 : decode cX6_cosOf 21 = .ok (.ireturn, 1) := by decide +kernel
theorem dX6_narrowAt_0 : decode cX6_narrowAt 0 = .ok (.iload_n 0, 1) := by decide +kernel
theorem dX6_narrowAt_1 : decode cX6_narrowAt 1 = .ok (.invokestatic 235, 3) := by decide +kernel
theorem dX6_narrowAt_4 : decode cX6_narrowAt 4 = .ok (.istore_n 1, 1) := by decide +kernel
theorem dX6_narrowAt_5 : decode cX6_narrowAt 5 = .ok (.iload_n 1, 1) := by decide +kernel
theorem dX6_narrowAt_6 : decode cX6_narrowAt 6 = .ok (.bipush 60, 2) := by decide +kernel
theorem dX6_narrowAt_8 : decode cX6_narrowAt 8 = .ok (.idiv, 1) := by decide +kernel
theorem dX6_narrowAt_9 : decode cX6_narrowAt 9 = .ok (.istore_n 2, 1) := by decide +kernel
theorem dX6_narrowAt_10 : decode cX6_narrowAt 10 = .ok (.iload_n 1, 1) := by decide +kernel
theorem dX6_narrowAt_11 : decode cX6_narrowAt 11 = .ok (.bipush 60, 2) := by decide +kernel
theorem dX6_narrowAt_13 : decode cX6_narrowAt 13 = .ok (.irem, 1) := by decide +kernel
theorem dX6_narrowAt_14 : decode cX6_narrowAt 14 = .ok (.istore_n 3, 1) := by decide +kernel
theorem dX6_narrowAt_15 : decode cX6_narrowAt 15 = .ok (.iload_n 2, 1) := by decide +kernel
theorem dX6_narrowAt_16 : decode cX6_narrowAt 16 = .ok (.invokestatic 238, 3) := by decide +kernel
theorem dX6_narrowAt_19 : decode cX6_narrowAt 19 = .ok (.bipush 60, 2) := by decide +kernel
theorem dX6_narrowAt_21 : decode cX6_narrowAt 21 = .ok (.iload_n 3, 1) := by decide +kernel
theorem dX6_narrowAt_22 : decode cX6_narrowAt 22 = .ok (.isub, 1) := by decide +kernel
theorem dX6_narrowAt_23 : decode cX6_narrowAt 23 = .ok (.imul, 1) := by decide +kernel
theorem dX6_narrowAt_24 : decode cX6_narrowAt 24 = .ok (.iload_n 2, 1) := by decide +kernel
theorem dX6_narrowAt_25 : decode cX6_narrowAt 25 = .ok (.iconst 1, 1) := by decide +kernel
theorem dX6_narrowAt_26 : decode cX6_narrowAt 26 = .ok (.iadd, 1) := by decide +kernel
theorem dX6_narrowAt_27 : decode cX6_narrowAt 27 = .ok (.invokestatic 238, 3) := by decide +kernel
theorem dX6_narrowAt_30 : decode cX6_narrowAt 30 = .ok (.iload_n 3, 1) := by decide +kernel
theorem dX6_narrowAt_31 : decode cX6_narrowAt 31 = .ok (.imul, 1) := by decide +kernel
theorem dX6_narrowAt_32 : decode cX6_narrowAt 32 = .ok (.iadd, 1) := by decide +kernel
theorem dX6_narrowAt_33 : decode cX6_narrowAt 33 = .ok (.bipush 60, 2) := by decide +kernel
theorem dX6_narrowAt_35 : decode cX6_narrowAt 35 = .ok (.idiv, 1) := by decide +kernel
theorem dX6_narrowAt_36 : decode cX6_narrowAt 36 = .ok (.ireturn, 1) := by decide +kernel
theorem dX6_xOf_0 : decode cX6_xOf 0 = .ok (.bipush 30, 2) := by decide +kernel
theorem dX6_xOf_2 : decode cX6_xOf 2 = .ok (.iload_n 0, 1) := by decide +kernel
theorem dX6_xOf_3 : decode cX6_xOf 3 = .ok (.imul, 1) := by decide +kernel
theorem dX6_xOf_4 : decode cX6_xOf 4 = .ok (.iload_n 1, 1) := by decide +kernel
theorem dX6_xOf_5 : decode cX6_xOf 5 = .ok (.invokestatic 45, 3) := by decide +kernel
theorem dX6_xOf_8 : decode cX6_xOf 8 = .ok (.imul, 1) := by decide +kernel
theorem dX6_xOf_9 : decode cX6_xOf 9 = .ok (.sipush 1000, 3) := by decide +kernel
theorem dX6_xOf_12 : decode cX6_xOf 12 = .ok (.idiv, 1) := by decide +kernel
theorem dX6_xOf_13 : decode cX6_xOf 13 = .ok (.ireturn, 1) := by decide +kernel
theorem dX6_grownThousand_0 : decode cX6_grownThousand 0 = .ok (.sipush 1000, 3) := by decide +kernel
theorem dX6_grownThousand_3 : decode cX6_grownThousand 3 = .ok (.iload_n 1, 1) := by decide +kernel
theorem dX6_grownThousand_4 : decode cX6_grownThousand 4 = .ok (.ifCond .ne 10, 3) := by decide +kernel
theorem dX6_grownThousand_7 : decode cX6_grownThousand 7 = .ok (.aload_n 0, 1) := by decide +kernel
theorem dX6_grownThousand_8 : decode cX6_grownThousand 8 = .ok (.getfield 137, 3) := by decide +kernel
theorem dX6_grownThousand_11 : decode cX6_grownThousand 11 = .ok (.goto 7, 3) := by decide +kernel
theorem dX6_grownThousand_14 : decode cX6_grownThousand 14 = .ok (.aload_n 0, 1) := by decide +kernel
theorem dX6_grownThousand_15 : decode cX6_grownThousand 15 = .ok (.getfield 140, 3) := by decide +kernel
theorem dX6_grownThousand_18 : decode cX6_grownThousand 18 = .ok (.iadd, 1) := by decide +kernel
theorem dX6_grownThousand_19 : decode cX6_grownThousand 19 = .ok (.ireturn, 1) := by decide +kernel
theorem dX6_goreOf_0 : decode cX6_goreOf 0 = .ok (.iload_n 1, 1) := by decide +kernel
theorem dX6_goreOf_1 : decode cX6_goreOf 1 = .ok (.ifCond .lt 21, 3) := by decide +kernel
theorem dX6_goreOf_4 : decode cX6_goreOf 4 = .ok (.iload_n 1, 1) := by decide +kernel
theorem dX6_goreOf_5 : decode cX6_goreOf 5 = .ok (.aload_n 0, 1) := by decide +kernel
theorem dX6_goreOf_6 : decode cX6_goreOf 6 = .ok (.getfield 36, 3) := by decide +kernel
theorem dX6_goreOf_9 : decode cX6_goreOf 9 = .ok (.arraylength, 1) := by decide +kernel
theorem dX6_goreOf_10 : decode cX6_goreOf 10 = .ok (.if_icmp .ge 12, 3) := by decide +kernel
theorem dX6_goreOf_13 : decode cX6_goreOf 13 = .ok (.aload_n 0, 1) := by decide +kernel
theorem dX6_goreOf_14 : decode cX6_goreOf 14 = .ok (.getfield 36, 3) := by decide +kernel
theorem dX6_goreOf_17 : decode cX6_goreOf 17 = .ok (.iload_n 1, 1) := by decide +kernel
theorem dX6_goreOf_18 : decode cX6_goreOf 18 = .ok (.aaload, 1) := by decide +kernel
theorem dX6_goreOf_19 : decode cX6_goreOf 19 = .ok (.goto 4, 3) := by decide +kernel
theorem dX6_goreOf_22 : decode cX6_goreOf 22 = .ok (.aconst_null, 1) := by decide +kernel
theorem dX6_goreOf_23 : decode cX6_goreOf 23 = .ok (.areturn, 1) := by decide +kernel
theorem dX6_coastOf_0 : decode cX6_coastOf 0 = .ok (.iload_n 1, 1) := by decide +kernel
theorem dX6_coastOf_1 : decode cX6_coastOf 1 = .ok (.ifCond .lt 28, 3) := by decide +kernel
theorem dX6_coastOf_4 : decode cX6_coastOf 4 = .ok (.iload_n 1, 1) := by decide +kernel
theorem dX6_coastOf_5 : decode cX6_coastOf 5 = .ok (.aload_n 0, 1) := by decide +kernel
theorem dX6_coastOf_6 : decode cX6_coastOf 6 = .ok (.getfield 12, 3) := by decide +kernel
theorem dX6_coastOf_9 : decode cX6_coastOf 9 = .ok (.invokevirtual 57, 3) := by decide +kernel
theorem dX6_coastOf_12 : decode cX6_coastOf 12 = .ok (.if_icmp .ge 17, 3) := by decide +kernel
theorem dX6_coastOf_15 : decode cX6_coastOf 15 = .ok (.aload_n 0, 1) := by decide +kernel
theorem dX6_coastOf_16 : decode cX6_coastOf 16 = .ok (.getfield 12, 3) := by decide +kernel
theorem dX6_coastOf_19 : decode cX6_coastOf 19 = .ok (.iload_n 1, 1) := by decide +kernel
theorem dX6_coastOf_20 : decode cX6_coastOf 20 = .ok (.invokevirtual 113, 3) := by decide +kernel
theorem dX6_coastOf_23 : decode cX6_coastOf 23 = .ok (.checkcast 61, 3) := by decide +kernel
theorem dX6_coastOf_26 : decode cX6_coastOf 26 = .ok (.goto 4, 3) := by decide +kernel
theorem dX6_coastOf_29 : decode cX6_coastOf 29 = .ok (.aconst_null, 1) := by decide +kernel
theorem dX6_coastOf_30 : decode cX6_coastOf 30 = .ok (.areturn, 1) := by decide +kernel
theorem dX6_nameOf_0 : decode cX6_nameOf 0 = .ok (.iload_n 1, 1) := by decide +kernel
theorem dX6_nameOf_1 : decode cX6_nameOf 1 = .ok (.ifCond .lt 14, 3) := by decide +kernel
theorem dX6_nameOf_4 : decode cX6_nameOf 4 = .ok (.iload_n 1, 1) := by decide +kernel
theorem dX6_nameOf_5 : decode cX6_nameOf 5 = .ok (.aload_n 0, 1) := by decide +kernel
theorem dX6_nameOf_6 : decode cX6_nameOf 6 = .ok (.getfield 16, 3) := by decide +kernel
theorem dX6_nameOf_9 : decode cX6_nameOf 9 = .ok (.invokevirtual 57, 3) := by decide +kernel
theorem dX6_nameOf_12 : decode cX6_nameOf 12 = .ok (.if_icmp .lt 5, 3) := by decide +kernel
theorem dX6_nameOf_15 : decode cX6_nameOf 15 = .ok (.aconst_null, 1) := by decide +kernel
theorem dX6_nameOf_16 : decode cX6_nameOf 16 = .ok (.areturn, 1) := by decide +kernel
theorem dX6_nameOf_17 : decode cX6_nameOf 17 = .ok (.aload_n 0, 1) := by decide +kernel
theorem dX6_nameOf_18 : decode cX6_nameOf 18 = .ok (.getfield 16, 3) := by decide +kernel
theorem dX6_nameOf_21 : decode cX6_nameOf 21 = .ok (.iload_n 1, 1) := by decide +kernel
theorem dX6_nameOf_22 : decode cX6_nameOf 22 = .ok (.invokevirtual 113, 3) := by decide +kernel
theorem dX6_nameOf_25 : decode cX6_nameOf 25 = .ok (.checkcast 160, 3) := by decide +kernel
theorem dX6_nameOf_28 : decode cX6_nameOf 28 = .ok (.astore_n 2, 1) := by decide +kernel
theorem dX6_nameOf_29 : decode cX6_nameOf 29 = .ok (.aload_n 2, 1) := by decide +kernel
theorem dX6_nameOf_30 : decode cX6_nameOf 30 = .ok (.getfield 180, 3) := by decide +kernel
theorem dX6_nameOf_33 : decode cX6_nameOf 33 = .ok (.ifCond .eq 7, 3) := by decide +kernel
theorem dX6_nameOf_36 : decode cX6_nameOf 36 = .ok (.aconst_null, 1) := by decide +kernel
theorem dX6_nameOf_37 : decode cX6_nameOf 37 = .ok (.goto 4, 3) := by decide +kernel
theorem dX6_nameOf_40 : decode cX6_nameOf 40 = .ok (.aload_n 2, 1) := by decide +kernel
theorem dX6_nameOf_41 : decode cX6_nameOf 41 = .ok (.areturn, 1) := by decide +kernel
theorem dX6_namesThere_0 : decode cX6_namesThere 0 = .ok (.iconst 0, 1) := by decide +kernel
theorem dX6_namesThere_1 : decode cX6_namesThere 1 = .ok (.istore_n 1, 1) := by decide +kernel
theorem dX6_namesThere_2 : decode cX6_namesThere 2 = .ok (.aload_n 0, 1) := by decide +kernel
theorem dX6_namesThere_3 : decode cX6_namesThere 3 = .ok (.getfield 36, 3) := by decide +kernel
theorem dX6_namesThere_6 : decode cX6_namesThere 6 = .ok (.astore_n 2, 1) := by decide +kernel
theorem dX6_namesThere_7 : decode cX6_namesThere 7 = .ok (.aload_n 2, 1) := by decide +kernel
theorem dX6_namesThere_8 : decode cX6_namesThere 8 = .ok (.arraylength, 1) := by decide +kernel
theorem dX6_namesThere_9 : decode cX6_namesThere 9 = .ok (.istore_n 3, 1) := by decide +kernel
theorem dX6_namesThere_10 : decode cX6_namesThere 10 = .ok (.iconst 0, 1) := by decide +kernel
theorem dX6_namesThere_11 : decode cX6_namesThere 11 = .ok (.istore 4, 2) := by decide +kernel
theorem dX6_namesThere_13 : decode cX6_namesThere 13 = .ok (.iload 4, 2) := by decide +kernel
theorem dX6_namesThere_15 : decode cX6_namesThere 15 = .ok (.iload_n 3, 1) := by decide +kernel
theorem dX6_namesThere_16 : decode cX6_namesThere 16 = .ok (.if_icmp .ge 26, 3) := by decide +kernel
theorem dX6_namesThere_19 : decode cX6_namesThere 19 = .ok (.aload_n 2, 1) := by decide +kernel
theorem dX6_namesThere_20 : decode cX6_namesThere 20 = .ok (.iload 4, 2) := by decide +kernel
theorem dX6_namesThere_22 : decode cX6_namesThere 22 = .ok (.aaload, 1) := by decide +kernel
theorem dX6_namesThere_23 : decode cX6_namesThere 23 = .ok (.astore 5, 2) := by decide +kernel
theorem dX6_namesThere_25 : decode cX6_namesThere 25 = .ok (.iload_n 1, 1) := by decide +kernel
theorem dX6_namesThere_26 : decode cX6_namesThere 26 = .ok (.aload 5, 2) := by decide +kernel
theorem dX6_namesThere_28 : decode cX6_namesThere 28 = .ok (.getfield 156, 3) := by decide +kernel
theorem dX6_namesThere_31 : decode cX6_namesThere 31 = .ok (.invokevirtual 57, 3) := by decide +kernel
theorem dX6_namesThere_34 : decode cX6_namesThere 34 = .ok (.iadd, 1) := by decide +kernel
theorem dX6_namesThere_35 : decode cX6_namesThere 35 = .ok (.istore_n 1, 1) := by decide +kernel
theorem dX6_namesThere_36 : decode cX6_namesThere 36 = .ok (.iinc 4 1, 3) := by decide +kernel
theorem dX6_namesThere_39 : decode cX6_namesThere 39 = .ok (.goto (-26), 3) := by decide +kernel
theorem dX6_namesThere_42 : decode cX6_namesThere 42 = .ok (.iload_n 1, 1) := by decide +kernel
theorem dX6_namesThere_43 : decode cX6_namesThere 43 = .ok (.ireturn, 1) := by decide +kernel
theorem dX6_freshGores_0 : decode cX6_freshGores 0 = .ok (.iconst 0, 1) := by decide +kernel
theorem dX6_freshGores_1 : decode cX6_freshGores 1 = .ok (.istore_n 1, 1) := by decide +kernel
theorem dX6_freshGores_2 : decode cX6_freshGores 2 = .ok (.aload_n 0, 1) := by decide +kernel
theorem dX6_freshGores_3 : decode cX6_freshGores 3 = .ok (.getfield 36, 3) := by decide +kernel
theorem dX6_freshGores_6 : decode cX6_freshGores 6 = .ok (.astore_n 2, 1) := by decide +kernel
theorem dX6_freshGores_7 : decode cX6_freshGores 7 = .ok (.aload_n 2, 1) := by decide +kernel
theorem dX6_freshGores_8 : decode cX6_freshGores 8 = .ok (.arraylength, 1) := by decide +kernel
theorem dX6_freshGores_9 : decode cX6_freshGores 9 = .ok (.istore_n 3, 1) := by decide +kernel
theorem dX6_freshGores_10 : decode cX6_freshGores 10 = .ok (.iconst 0, 1) := by decide +kernel
theorem dX6_freshGores_11 : decode cX6_freshGores 11 = .ok (.istore 4, 2) := by decide +kernel
theorem dX6_freshGores_13 : decode cX6_freshGores 13 = .ok (.iload 4, 2) := by decide +kernel
theorem dX6_freshGores_15 : decode cX6_freshGores 15 = .ok (.iload_n 3, 1) := by decide +kernel
theorem dX6_freshGores_16 : decode cX6_freshGores 16 = .ok (.if_icmp .ge 26, 3) := by decide +kernel
theorem dX6_freshGores_19 : decode cX6_freshGores 19 = .ok (.aload_n 2, 1) := by decide +kernel
theorem dX6_freshGores_20 : decode cX6_freshGores 20 = .ok (.iload 4, 2) := by decide +kernel
theorem dX6_freshGores_22 : decode cX6_freshGores 22 = .ok (.aaload, 1) := by decide +kernel
theorem dX6_freshGores_23 : decode cX6_freshGores 23 = .ok (.astore 5, 2) := by decide +kernel
theorem dX6_freshGores_25 : decode cX6_freshGores 25 = .ok (.aload 5, 2) := by decide +kernel
theorem dX6_freshGores_27 : decode cX6_freshGores 27 = .ok (.getfield 143, 3) := by decide +kernel
theorem dX6_freshGores_30 : decode cX6_freshGores 30 = .ok (.ifCond .eq 6, 3) := by decide +kernel
theorem dX6_freshGores_33 : decode cX6_freshGores 33 = .ok (.iinc 1 1, 3) := by decide +kernel
theorem dX6_freshGores_36 : decode cX6_freshGores 36 = .ok (.iinc 4 1, 3) := by decide +kernel
theorem dX6_freshGores_39 : decode cX6_freshGores 39 = .ok (.goto (-26), 3) := by decide +kernel
theorem dX6_freshGores_42 : decode cX6_freshGores 42 = .ok (.iload_n 1, 1) := by decide +kernel
theorem dX6_freshGores_43 : decode cX6_freshGores 43 = .ok (.ireturn, 1) := by decide +kernel
theorem dX6_sideOf_0 : decode cX6_sideOf 0 = .ok (.iconst 2, 1) := by decide +kernel
theorem dX6_sideOf_1 : decode cX6_sideOf 1 = .ok (.iload_n 1, 1) := by decide +kernel
theorem dX6_sideOf_2 : decode cX6_sideOf 2 = .ok (.iload_n 2, 1) := by decide +kernel
theorem dX6_sideOf_3 : decode cX6_sideOf 3 = .ok (.aload_n 0, 1) := by decide +kernel
theorem dX6_sideOf_4 : decode cX6_sideOf 4 = .ok (.getfield 30, 3) := by decide +kernel
theorem dX6_sideOf_7 : decode cX6_sideOf 7 = .ok (.imul, 1) := by decide +kernel
theorem dX6_sideOf_8 : decode cX6_sideOf 8 = .ok (.isub, 1) := by decide +kernel
theorem dX6_sideOf_9 : decode cX6_sideOf 9 = .ok (.sipush 360, 3) := by decide +kernel
end
section
theorem dX6_sideOf_12 : decode cX6_sideOf 12 = .ok (.invokestatic 241, 3) := by decide +kernel
theorem dX6_sideOf_15 : decode cX6_sideOf 15 = .ok (.imul, 1) := by decide +kernel
theorem dX6_sideOf_16 : decode cX6_sideOf 16 = .ok (.aload_n 0, 1) := by decide +kernel
theorem dX6_sideOf_17 : decode cX6_sideOf 17 = .ok (.getfield 30, 3) := by decide +kernel
theorem dX6_sideOf_20 : decode cX6_sideOf 20 = .ok (.isub, 1) := by decide +kernel
theorem dX6_sideOf_21 : decode cX6_sideOf 21 = .ok (.ireturn, 1) := by decide +kernel
theorem dX6_goneFromEdge_0 : decode cX6_goneFromEdge 0 = .ok (.aload_n 1, 1) := by decide +kernel
theorem dX6_goneFromEdge_1 : decode cX6_goneFromEdge 1 = .ok (.getfield 244, 3) := by decide +kernel
theorem dX6_goneFromEdge_4 : decode cX6_goneFromEdge 4 = .ok (.aload_n 1, 1) := by decide +kernel
theorem dX6_goneFromEdge_5 : decode cX6_goneFromEdge 5 = .ok (.getfield 247, 3) := by decide +kernel
theorem dX6_goneFromEdge_8 : decode cX6_goneFromEdge 8 = .ok (.imul, 1) := by decide +kernel
theorem dX6_goneFromEdge_9 : decode cX6_goneFromEdge 9 = .ok (.aload_n 0, 1) := by decide +kernel
theorem dX6_goneFromEdge_10 : decode cX6_goneFromEdge 10 = .ok (.getfield 30, 3) := by decide +kernel
theorem dX6_goneFromEdge_13 : decode cX6_goneFromEdge 13 = .ok (.invokestatic 241, 3) := by decide +kernel
theorem dX6_goneFromEdge_16 : decode cX6_goneFromEdge 16 = .ok (.ireturn, 1) := by decide +kernel
theorem dX6_piecesOf_0 : decode cX6_piecesOf 0 = .ok (.aload_n 0, 1) := by decide +kernel
theorem dX6_piecesOf_1 : decode cX6_piecesOf 1 = .ok (.aload_n 1, 1) := by decide +kernel
theorem dX6_piecesOf_2 : decode cX6_piecesOf 2 = .ok (.invokevirtual 248, 3) := by decide +kernel
theorem dX6_piecesOf_5 : decode cX6_piecesOf 5 = .ok (.istore_n 2, 1) := by decide +kernel
theorem dX6_piecesOf_6 : decode cX6_piecesOf 6 = .ok (.aload_n 1, 1) := by decide +kernel
theorem dX6_piecesOf_7 : decode cX6_piecesOf 7 = .ok (.getfield 82, 3) := by decide +kernel
theorem dX6_piecesOf_10 : decode cX6_piecesOf 10 = .ok (.ifCond .ne 13, 3) := by decide +kernel
theorem dX6_piecesOf_13 : decode cX6_piecesOf 13 = .ok (.iload_n 2, 1) := by decide +kernel
theorem dX6_piecesOf_14 : decode cX6_piecesOf 14 = .ok (.ifCond .ne 7, 3) := by decide +kernel
theorem dX6_piecesOf_17 : decode cX6_piecesOf 17 = .ok (.iconst 2, 1) := by decide +kernel
theorem dX6_piecesOf_18 : decode cX6_piecesOf 18 = .ok (.goto 4, 3) := by decide +kernel
theorem dX6_piecesOf_21 : decode cX6_piecesOf 21 = .ok (.iconst 1, 1) := by decide +kernel
theorem dX6_piecesOf_22 : decode cX6_piecesOf 22 = .ok (.ireturn, 1) := by decide +kernel
theorem dX6_piecesOf_23 : decode cX6_piecesOf 23 = .ok (.iload_n 2, 1) := by decide +kernel
theorem dX6_piecesOf_24 : decode cX6_piecesOf 24 = .ok (.aload_n 1, 1) := by decide +kernel
theorem dX6_piecesOf_25 : decode cX6_piecesOf 25 = .ok (.getfield 82, 3) := by decide +kernel
theorem dX6_piecesOf_28 : decode cX6_piecesOf 28 = .ok (.iadd, 1) := by decide +kernel
theorem dX6_piecesOf_29 : decode cX6_piecesOf 29 = .ok (.aload_n 0, 1) := by decide +kernel
theorem dX6_piecesOf_30 : decode cX6_piecesOf 30 = .ok (.getfield 30, 3) := by decide +kernel
theorem dX6_piecesOf_33 : decode cX6_piecesOf 33 = .ok (.iadd, 1) := by decide +kernel
theorem dX6_piecesOf_34 : decode cX6_piecesOf 34 = .ok (.iconst 1, 1) := by decide +kernel
theorem dX6_piecesOf_35 : decode cX6_piecesOf 35 = .ok (.isub, 1) := by decide +kernel
theorem dX6_piecesOf_36 : decode cX6_piecesOf 36 = .ok (.aload_n 0, 1) := by decide +kernel
theorem dX6_piecesOf_37 : decode cX6_piecesOf 37 = .ok (.getfield 30, 3) := by decide +kernel
theorem dX6_piecesOf_40 : decode cX6_piecesOf 40 = .ok (.idiv, 1) := by decide +kernel
theorem dX6_piecesOf_41 : decode cX6_piecesOf 41 = .ok (.ireturn, 1) := by decide +kernel
theorem dX6_cutUpright_0 : decode cX6_cutUpright 0 = .ok (.aload_n 2, 1) := by decide +kernel
theorem dX6_cutUpright_1 : decode cX6_cutUpright 1 = .ok (.getfield 247, 3) := by decide +kernel
theorem dX6_cutUpright_4 : decode cX6_cutUpright 4 = .ok (.aload_n 0, 1) := by decide +kernel
theorem dX6_cutUpright_5 : decode cX6_cutUpright 5 = .ok (.getfield 30, 3) := by decide +kernel
theorem dX6_cutUpright_8 : decode cX6_cutUpright 8 = .ok (.idiv, 1) := by decide +kernel
theorem dX6_cutUpright_9 : decode cX6_cutUpright 9 = .ok (.istore_n 3, 1) := by decide +kernel
theorem dX6_cutUpright_10 : decode cX6_cutUpright 10 = .ok (.aload_n 0, 1) := by decide +kernel
theorem dX6_cutUpright_11 : decode cX6_cutUpright 11 = .ok (.iload_n 1, 1) := by decide +kernel
theorem dX6_cutUpright_12 : decode cX6_cutUpright 12 = .ok (.aload_n 2, 1) := by decide +kernel
theorem dX6_cutUpright_13 : decode cX6_cutUpright 13 = .ok (.iload_n 3, 1) := by decide +kernel
theorem dX6_cutUpright_14 : decode cX6_cutUpright 14 = .ok (.invokevirtual 251, 3) := by decide +kernel
theorem dX6_cutUpright_17 : decode cX6_cutUpright 17 = .ok (.aload_n 0, 1) := by decide +kernel
theorem dX6_cutUpright_18 : decode cX6_cutUpright 18 = .ok (.aload_n 2, 1) := by decide +kernel
theorem dX6_cutUpright_19 : decode cX6_cutUpright 19 = .ok (.invokevirtual 248, 3) := by decide +kernel
theorem dX6_cutUpright_22 : decode cX6_cutUpright 22 = .ok (.ifCond .ne 20, 3) := by decide +kernel
theorem dX6_cutUpright_25 : decode cX6_cutUpright 25 = .ok (.aload_n 0, 1) := by decide +kernel
theorem dX6_cutUpright_26 : decode cX6_cutUpright 26 = .ok (.iload_n 1, 1) := by decide +kernel
theorem dX6_cutUpright_27 : decode cX6_cutUpright 27 = .ok (.aload_n 2, 1) := by decide +kernel
theorem dX6_cutUpright_28 : decode cX6_cutUpright 28 = .ok (.iload_n 3, 1) := by decide +kernel
theorem dX6_cutUpright_29 : decode cX6_cutUpright 29 = .ok (.iconst 1, 1) := by decide +kernel
theorem dX6_cutUpright_30 : decode cX6_cutUpright 30 = .ok (.isub, 1) := by decide +kernel
theorem dX6_cutUpright_31 : decode cX6_cutUpright 31 = .ok (.aload_n 0, 1) := by decide +kernel
theorem dX6_cutUpright_32 : decode cX6_cutUpright 32 = .ok (.getfield 36, 3) := by decide +kernel
theorem dX6_cutUpright_35 : decode cX6_cutUpright 35 = .ok (.arraylength, 1) := by decide +kernel
theorem dX6_cutUpright_36 : decode cX6_cutUpright 36 = .ok (.invokestatic 241, 3) := by decide +kernel
theorem dX6_cutUpright_39 : decode cX6_cutUpright 39 = .ok (.invokevirtual 251, 3) := by decide +kernel
theorem dX6_cutUpright_42 : decode cX6_cutUpright 42 = .ok (.return_, 1) := by decide +kernel
theorem dX6_layUpright_0 : decode cX6_layUpright 0 = .ok (.aload_n 0, 1) := by decide +kernel
theorem dX6_layUpright_1 : decode cX6_layUpright 1 = .ok (.aload_n 2, 1) := by decide +kernel
theorem dX6_layUpright_2 : decode cX6_layUpright 2 = .ok (.getfield 247, 3) := by decide +kernel
theorem dX6_layUpright_5 : decode cX6_layUpright 5 = .ok (.iload_n 3, 1) := by decide +kernel
theorem dX6_layUpright_6 : decode cX6_layUpright 6 = .ok (.invokevirtual 157, 3) := by decide +kernel
theorem dX6_layUpright_9 : decode cX6_layUpright 9 = .ok (.istore 4, 2) := by decide +kernel
theorem dX6_layUpright_11 : decode cX6_layUpright 11 = .ok (.aload_n 0, 1) := by decide +kernel
theorem dX6_layUpright_12 : decode cX6_layUpright 12 = .ok (.iload_n 3, 1) := by decide +kernel
theorem dX6_layUpright_13 : decode cX6_layUpright 13 = .ok (.new 117, 3) := by decide +kernel
theorem dX6_layUpright_16 : decode cX6_layUpright 16 = .ok (.dup, 1) := by decide +kernel
theorem dX6_layUpright_17 : decode cX6_layUpright 17 = .ok (.iload_n 1, 1) := by decide +kernel
theorem dX6_layUpright_18 : decode cX6_layUpright 18 = .ok (.iload 4, 2) := by decide +kernel
theorem dX6_layUpright_20 : decode cX6_layUpright 20 = .ok (.aload_n 2, 1) := by decide +kernel
theorem dX6_layUpright_21 : decode cX6_layUpright 21 = .ok (.getfield 254, 3) := by decide +kernel
theorem dX6_layUpright_24 : decode cX6_layUpright 24 = .ok (.iload 4, 2) := by decide +kernel
theorem dX6_layUpright_26 : decode cX6_layUpright 26 = .ok (.aload_n 2, 1) := by decide +kernel
theorem dX6_layUpright_27 : decode cX6_layUpright 27 = .ok (.getfield 254, 3) := by decide +kernel
theorem dX6_layUpright_30 : decode cX6_layUpright 30 = .ok (.aload_n 2, 1) := by decide +kernel
theorem dX6_layUpright_31 : decode cX6_layUpright 31 = .ok (.getfield 255, 3) := by decide +kernel
theorem dX6_layUpright_34 : decode cX6_layUpright 34 = .ok (.iadd, 1) := by decide +kernel
theorem dX6_layUpright_35 : decode cX6_layUpright 35 = .ok (.invokespecial 258, 3) := by decide +kernel
theorem dX6_layUpright_38 : decode cX6_layUpright 38 = .ok (.invokevirtual 261, 3) := by decide +kernel
theorem dX6_layUpright_41 : decode cX6_layUpright 41 = .ok (.return_, 1) := by decide +kernel
theorem dX6_cutSlanting_0 : decode cX6_cutSlanting 0 = .ok (.aload_n 0, 1) := by decide +kernel
theorem dX6_cutSlanting_1 : decode cX6_cutSlanting 1 = .ok (.aload_n 2, 1) := by decide +kernel
theorem dX6_cutSlanting_2 : decode cX6_cutSlanting 2 = .ok (.invokevirtual 248, 3) := by decide +kernel
theorem dX6_cutSlanting_5 : decode cX6_cutSlanting 5 = .ok (.istore 4, 2) := by decide +kernel
theorem dX6_cutSlanting_7 : decode cX6_cutSlanting 7 = .ok (.aload_n 2, 1) := by decide +kernel
theorem dX6_cutSlanting_8 : decode cX6_cutSlanting 8 = .ok (.getfield 247, 3) := by decide +kernel
theorem dX6_cutSlanting_11 : decode cX6_cutSlanting 11 = .ok (.aload_n 2, 1) := by decide +kernel
theorem dX6_cutSlanting_12 : decode cX6_cutSlanting 12 = .ok (.getfield 244, 3) := by decide +kernel
theorem dX6_cutSlanting_15 : decode cX6_cutSlanting 15 = .ok (.iload 4, 2) := by decide +kernel
theorem dX6_cutSlanting_17 : decode cX6_cutSlanting 17 = .ok (.imul, 1) := by decide +kernel
theorem dX6_cutSlanting_18 : decode cX6_cutSlanting 18 = .ok (.isub, 1) := by decide +kernel
theorem dX6_cutSlanting_19 : decode cX6_cutSlanting 19 = .ok (.aload_n 0, 1) := by decide +kernel
theorem dX6_cutSlanting_20 : decode cX6_cutSlanting 20 = .ok (.getfield 30, 3) := by decide +kernel
theorem dX6_cutSlanting_23 : decode cX6_cutSlanting 23 = .ok (.invokestatic 227, 3) := by decide +kernel
theorem dX6_cutSlanting_26 : decode cX6_cutSlanting 26 = .ok (.istore 5, 2) := by decide +kernel
theorem dX6_cutSlanting_28 : decode cX6_cutSlanting 28 = .ok (.aload_n 2, 1) := by decide +kernel
theorem dX6_cutSlanting_29 : decode cX6_cutSlanting 29 = .ok (.getfield 244, 3) := by decide +kernel
theorem dX6_cutSlanting_32 : decode cX6_cutSlanting 32 = .ok (.ifCond .ge 6, 3) := by decide +kernel
theorem dX6_cutSlanting_35 : decode cX6_cutSlanting 35 = .ok (.iinc 5 (-1), 3) := by decide +kernel
theorem dX6_cutSlanting_38 : decode cX6_cutSlanting 38 = .ok (.iconst 0, 1) := by decide +kernel
theorem dX6_cutSlanting_39 : decode cX6_cutSlanting 39 = .ok (.istore 6, 2) := by decide +kernel
theorem dX6_cutSlanting_41 : decode cX6_cutSlanting 41 = .ok (.iload 6, 2) := by decide +kernel
theorem dX6_cutSlanting_43 : decode cX6_cutSlanting 43 = .ok (.iload_n 3, 1) := by decide +kernel
theorem dX6_cutSlanting_44 : decode cX6_cutSlanting 44 = .ok (.if_icmp .ge 116, 3) := by decide +kernel
theorem dX6_cutSlanting_47 : decode cX6_cutSlanting 47 = .ok (.iload 5, 2) := by decide +kernel
theorem dX6_cutSlanting_49 : decode cX6_cutSlanting 49 = .ok (.aload_n 2, 1) := by decide +kernel
theorem dX6_cutSlanting_50 : decode cX6_cutSlanting 50 = .ok (.getfield 244, 3) := by decide +kernel
theorem dX6_cutSlanting_53 : decode cX6_cutSlanting 53 = .ok (.iload 6, 2) := by decide +kernel
theorem dX6_cutSlanting_55 : decode cX6_cutSlanting 55 = .ok (.imul, 1) := by decide +kernel
theorem dX6_cutSlanting_56 : decode cX6_cutSlanting 56 = .ok (.iadd, 1) := by decide +kernel
theorem dX6_cutSlanting_57 : decode cX6_cutSlanting 57 = .ok (.aload_n 0, 1) := by decide +kernel
theorem dX6_cutSlanting_58 : decode cX6_cutSlanting 58 = .ok (.getfield 36, 3) := by decide +kernel
theorem dX6_cutSlanting_61 : decode cX6_cutSlanting 61 = .ok (.arraylength, 1) := by decide +kernel
theorem dX6_cutSlanting_62 : decode cX6_cutSlanting 62 = .ok (.invokestatic 241, 3) := by decide +kernel
theorem dX6_cutSlanting_65 : decode cX6_cutSlanting 65 = .ok (.istore 7, 2) := by decide +kernel
theorem dX6_cutSlanting_67 : decode cX6_cutSlanting 67 = .ok (.iconst 0, 1) := by decide +kernel
theorem dX6_cutSlanting_68 : decode cX6_cutSlanting 68 = .ok (.iload 6, 2) := by decide +kernel
theorem dX6_cutSlanting_70 : decode cX6_cutSlanting 70 = .ok (.aload_n 0, 1) := by decide +kernel
theorem dX6_cutSlanting_71 : decode cX6_cutSlanting 71 = .ok (.getfield 30, 3) := by decide +kernel
theorem dX6_cutSlanting_74 : decode cX6_cutSlanting 74 = .ok (.imul, 1) := by decide +kernel
theorem dX6_cutSlanting_75 : decode cX6_cutSlanting 75 = .ok (.iload 4, 2) := by decide +kernel
theorem dX6_cutSlanting_77 : decode cX6_cutSlanting 77 = .ok (.isub, 1) := by decide +kernel
theorem dX6_cutSlanting_78 : decode cX6_cutSlanting 78 = .ok (.invokestatic 265, 3) := by decide +kernel
theorem dX6_cutSlanting_81 : decode cX6_cutSlanting 81 = .ok (.istore 8, 2) := by decide +kernel
theorem dX6_cutSlanting_83 : decode cX6_cutSlanting 83 = .ok (.aload_n 2, 1) := by decide +kernel
theorem dX6_cutSlanting_84 : decode cX6_cutSlanting 84 = .ok (.getfield 82, 3) := by decide +kernel
theorem dX6_cutSlanting_87 : decode cX6_cutSlanting 87 = .ok (.iload 6, 2) := by decide +kernel
theorem dX6_cutSlanting_89 : decode cX6_cutSlanting 89 = .ok (.iconst 1, 1) := by decide +kernel
theorem dX6_cutSlanting_90 : decode cX6_cutSlanting 90 = .ok (.iadd, 1) := by decide +kernel
theorem dX6_cutSlanting_91 : decode cX6_cutSlanting 91 = .ok (.aload_n 0, 1) := by decide +kernel
theorem dX6_cutSlanting_92 : decode cX6_cutSlanting 92 = .ok (.getfield 30, 3) := by decide +kernel
theorem dX6_cutSlanting_95 : decode cX6_cutSlanting 95 = .ok (.imul, 1) := by decide +kernel
theorem dX6_cutSlanting_96 : decode cX6_cutSlanting 96 = .ok (.iload 4, 2) := by decide +kernel
theorem dX6_cutSlanting_98 : decode cX6_cutSlanting 98 = .ok (.isub, 1) := by decide +kernel
theorem dX6_cutSlanting_99 : decode cX6_cutSlanting 99 = .ok (.invokestatic 268, 3) := by decide +kernel
theorem dX6_cutSlanting_102 : decode cX6_cutSlanting 102 = .ok (.istore 9, 2) := by decide +kernel
theorem dX6_cutSlanting_104 : decode cX6_cutSlanting 104 = .ok (.aload_n 0, 1) := by decide +kernel
theorem dX6_cutSlanting_105 : decode cX6_cutSlanting 105 = .ok (.iload 7, 2) := by decide +kernel
theorem dX6_cutSlanting_107 : decode cX6_cutSlanting 107 = .ok (.new 117, 3) := by decide +kernel
theorem dX6_cutSlanting_110 : decode cX6_cutSlanting 110 = .ok (.dup, 1) := by decide +kernel
theorem dX6_cutSlanting_111 : decode cX6_cutSlanting 111 = .ok (.iload_n 1, 1) := by decide +kernel
theorem dX6_cutSlanting_112 : decode cX6_cutSlanting 112 = .ok (.aload_n 0, 1) := by decide +kernel
theorem dX6_cutSlanting_113 : decode cX6_cutSlanting 113 = .ok (.aload_n 2, 1) := by decide +kernel
theorem dX6_cutSlanting_114 : decode cX6_cutSlanting 114 = .ok (.iload 8, 2) := by decide +kernel
theorem dX6_cutSlanting_116 : decode cX6_cutSlanting 116 = .ok (.invokevirtual 271, 3) := by decide +kernel
theorem dX6_cutSlanting_119 : decode cX6_cutSlanting 119 = .ok (.iload 7, 2) := by decide +kernel
theorem dX6_cutSlanting_121 : decode cX6_cutSlanting 121 = .ok (.invokevirtual 157, 3) := by decide +kernel
theorem dX6_cutSlanting_124 : decode cX6_cutSlanting 124 = .ok (.aload_n 2, 1) := by decide +kernel
theorem dX6_cutSlanting_125 : decode cX6_cutSlanting 125 = .ok (.iload 8, 2) := by decide +kernel
theorem dX6_cutSlanting_127 : decode cX6_cutSlanting 127 = .ok (.invokevirtual 274, 3) := by decide +kernel
theorem dX6_cutSlanting_130 : decode cX6_cutSlanting 130 = .ok (.aload_n 0, 1) := by decide +kernel
theorem dX6_cutSlanting_131 : decode cX6_cutSlanting 131 = .ok (.aload_n 2, 1) := by decide +kernel
theorem dX6_cutSlanting_132 : decode cX6_cutSlanting 132 = .ok (.iload 9, 2) := by decide +kernel
theorem dX6_cutSlanting_134 : decode cX6_cutSlanting 134 = .ok (.invokevirtual 271, 3) := by decide +kernel
theorem dX6_cutSlanting_137 : decode cX6_cutSlanting 137 = .ok (.iload 7, 2) := by decide +kernel
theorem dX6_cutSlanting_139 : decode cX6_cutSlanting 139 = .ok (.invokevirtual 157, 3) := by decide +kernel
theorem dX6_cutSlanting_142 : decode cX6_cutSlanting 142 = .ok (.aload_n 2, 1) := by decide +kernel
theorem dX6_cutSlanting_143 : decode cX6_cutSlanting 143 = .ok (.iload 9, 2) := by decide +kernel
theorem dX6_cutSlanting_145 : decode cX6_cutSlanting 145 = .ok (.invokevirtual 274, 3) := by decide +kernel
theorem dX6_cutSlanting_148 : decode cX6_cutSlanting 148 = .ok (.invokespecial 258, 3) := by decide +kernel
theorem dX6_cutSlanting_151 : decode cX6_cutSlanting 151 = .ok (.invokevirtual 261, 3) := by decide +kernel
theorem dX6_cutSlanting_154 : decode cX6_cutSlanting 154 = .ok (.iinc 6 1, 3) := by decide +kernel
theorem dX6_cutSlanting_157 : decode cX6_cutSlanting 157 = .ok (.goto (-116), 3) := by decide +kernel
theorem dX6_cutSlanting_160 : decode cX6_cutSlanting 160 = .ok (.return_, 1) := by decide +kernel
theorem dX6_lay_0 : decode cX6_lay 0 = .ok (.aload_n 0, 1) := by decide +kernel
theorem dX6_lay_1 : decode cX6_lay 1 = .ok (.iload_n 1, 1) := by decide +kernel
theorem dX6_lay_2 : decode cX6_lay 2 = .ok (.invokevirtual 106, 3) := by decide +kernel
theorem dX6_lay_5 : decode cX6_lay 5 = .ok (.astore_n 3, 1) := by decide +kernel
theorem dX6_lay_6 : decode cX6_lay 6 = .ok (.aload_n 3, 1) := by decide +kernel
theorem dX6_lay_7 : decode cX6_lay 7 = .ok (.ifnonnull 4, 3) := by decide +kernel
theorem dX6_lay_10 : decode cX6_lay 10 = .ok (.return_, 1) := by decide +kernel
theorem dX6_lay_11 : decode cX6_lay 11 = .ok (.aload_n 3, 1) := by decide +kernel
theorem dX6_lay_12 : decode cX6_lay 12 = .ok (.getfield 110, 3) := by decide +kernel
theorem dX6_lay_15 : decode cX6_lay 15 = .ok (.aload_n 2, 1) := by decide +kernel
theorem dX6_lay_16 : decode cX6_lay 16 = .ok (.invokevirtual 66, 3) := by decide +kernel
theorem dX6_lay_19 : decode cX6_lay 19 = .ok (.pop, 1) := by decide +kernel
theorem dX6_lay_20 : decode cX6_lay 20 = .ok (.aload_n 3, 1) := by decide +kernel
theorem dX6_lay_21 : decode cX6_lay 21 = .ok (.iconst 1, 1) := by decide +kernel
theorem dX6_lay_22 : decode cX6_lay 22 = .ok (.putfield 143, 3) := by decide +kernel
theorem dX6_lay_25 : decode cX6_lay 25 = .ok (.aload_n 0, 1) := by decide +kernel
theorem dX6_lay_26 : decode cX6_lay 26 = .ok (.dup, 1) := by decide +kernel
theorem dX6_lay_27 : decode cX6_lay 27 = .ok (.getfield 89, 3) := by decide +kernel
theorem dX6_lay_30 : decode cX6_lay 30 = .ok (.iconst 1, 1) := by decide +kernel
theorem dX6_lay_31 : decode cX6_lay 31 = .ok (.iadd, 1) := by decide +kernel
theorem dX6_lay_32 : decode cX6_lay 32 = .ok (.putfield 89, 3) := by decide +kernel
theorem dX6_lay_35 : decode cX6_lay 35 = .ok (.return_, 1) := by decide +kernel
theorem dX6_waysWithinEdges_0 : decode cX6_waysWithinEdges 0 = .ok (.bipush 16, 2) := by decide +kernel
theorem dX6_waysWithinEdges_2 : decode cX6_waysWithinEdges 2 = .ok (.istore_n 2, 1) := by decide +kernel
theorem dX6_waysWithinEdges_3 : decode cX6_waysWithinEdges 3 = .ok (.iconst 0, 1) := by decide +kernel
theorem dX6_waysWithinEdges_4 : decode cX6_waysWithinEdges 4 = .ok (.istore_n 3, 1) := by decide +kernel
theorem dX6_waysWithinEdges_5 : decode cX6_waysWithinEdges 5 = .ok (.iload_n 3, 1) := by decide +kernel
theorem dX6_waysWithinEdges_6 : decode cX6_waysWithinEdges 6 = .ok (.iconst 4, 1) := by decide +kernel
theorem dX6_waysWithinEdges_7 : decode cX6_waysWithinEdges 7 = .ok (.if_icmp .ge 47, 3) := by decide +kernel
theorem dX6_waysWithinEdges_10 : decode cX6_waysWithinEdges 10 = .ok (.aload_n 1, 1) := by decide +kernel
theorem dX6_waysWithinEdges_11 : decode cX6_waysWithinEdges 11 = .ok (.iload_n 3, 1) := by decide +kernel
theorem dX6_waysWithinEdges_12 : decode cX6_waysWithinEdges 12 = .ok (.invokevirtual 277, 3) := by decide +kernel
theorem dX6_waysWithinEdges_15 : decode cX6_waysWithinEdges 15 = .ok (.istore 4, 2) := by decide +kernel
theorem dX6_waysWithinEdges_17 : decode cX6_waysWithinEdges 17 = .ok (.aload_n 0, 1) := by decide +kernel
theorem dX6_waysWithinEdges_18 : decode cX6_waysWithinEdges 18 = .ok (.aload_n 1, 1) := by decide +kernel
theorem dX6_waysWithinEdges_19 : decode cX6_waysWithinEdges 19 = .ok (.iload_n 3, 1) := by decide +kernel
theorem dX6_waysWithinEdges_20 : decode cX6_waysWithinEdges 20 = .ok (.iload 4, 2) := by decide +kernel
theorem dX6_waysWithinEdges_22 : decode cX6_waysWithinEdges 22 = .ok (.invokevirtual 280, 3) := by decide +kernel
theorem dX6_waysWithinEdges_25 : decode cX6_waysWithinEdges 25 = .ok (.ifCond .eq 23, 3) := by decide +kernel
theorem dX6_waysWithinEdges_28 : decode cX6_waysWithinEdges 28 = .ok (.aload_n 0, 1) := by decide +kernel
theorem dX6_waysWithinEdges_29 : decode cX6_waysWithinEdges 29 = .ok (.aload_n 1, 1) := by decide +kernel
theorem dX6_waysWithinEdges_30 : decode cX6_waysWithinEdges 30 = .ok (.iload_n 3, 1) := by decide +kernel
theorem dX6_waysWithinEdges_31 : decode cX6_waysWithinEdges 31 = .ok (.iload 4, 2) := by decide +kernel
theorem dX6_waysWithinEdges_33 : decode cX6_waysWithinEdges 33 = .ok (.bipush 80, 2) := by decide +kernel
theorem dX6_waysWithinEdges_35 : decode cX6_waysWithinEdges 35 = .ok (.iadd, 1) := by decide +kernel
theorem dX6_waysWithinEdges_36 : decode cX6_waysWithinEdges 36 = .ok (.invokevirtual 280, 3) := by decide +kernel
theorem dX6_waysWithinEdges_39 : decode cX6_waysWithinEdges 39 = .ok (.ifCond .eq 9, 3) := by decide +kernel
theorem dX6_waysWithinEdges_42 : decode cX6_waysWithinEdges 42 = .ok (.iload_n 2, 1) := by decide +kernel
theorem dX6_waysWithinEdges_43 : decode cX6_waysWithinEdges 43 = .ok (.iconst 1, 1) := by decide +kernel
theorem dX6_waysWithinEdges_44 : decode cX6_waysWithinEdges 44 = .ok (.iload_n 3, 1) := by decide +kernel
theorem dX6_waysWithinEdges_45 : decode cX6_waysWithinEdges 45 = .ok (.ishl, 1) := by decide +kernel
theorem dX6_waysWithinEdges_46 : decode cX6_waysWithinEdges 46 = .ok (.ior, 1) := by decide +kernel
theorem dX6_waysWithinEdges_47 : decode cX6_waysWithinEdges 47 = .ok (.istore_n 2, 1) := by decide +kernel
theorem dX6_waysWithinEdges_48 : decode cX6_waysWithinEdges 48 = .ok (.iinc 3 1, 3) := by decide +kernel
theorem dX6_waysWithinEdges_51 : decode cX6_waysWithinEdges 51 = .ok (.goto (-46), 3) := by decide +kernel
theorem dX6_waysWithinEdges_54 : decode cX6_waysWithinEdges 54 = .ok (.iload_n 2, 1) := by decide +kernel
theorem dX6_waysWithinEdges_55 : decode cX6_waysWithinEdges 55 = .ok (.ireturn, 1) := by decide +kernel
theorem dX6_isWithinEdges_0 : decode cX6_isWithinEdges 0 = .ok (.iload_n 3, 1) := by decide +kernel
theorem dX6_isWithinEdges_1 : decode cX6_isWithinEdges 1 = .ok (.invokestatic 41, 3) := by decide +kernel
theorem dX6_isWithinEdges_4 : decode cX6_isWithinEdges 4 = .ok (.ifCond .ne 5, 3) := by decide +kernel
theorem dX6_isWithinEdges_7 : decode cX6_isWithinEdges 7 = .ok (.iconst 0, 1) := by decide +kernel
theorem dX6_isWithinEdges_8 : decode cX6_isWithinEdges 8 = .ok (.ireturn, 1) := by decide +kernel
theorem dX6_isWithinEdges_9 : decode cX6_isWithinEdges 9 = .ok (.aload_n 0, 1) := by decide +kernel
theorem dX6_isWithinEdges_10 : decode cX6_isWithinEdges 10 = .ok (.getfield 30, 3) := by decide +kernel
theorem dX6_isWithinEdges_13 : decode cX6_isWithinEdges 13 = .ok (.iload_n 3, 1) := by decide +kernel
theorem dX6_isWithinEdges_14 : decode cX6_isWithinEdges 14 = .ok (.invokestatic 48, 3) := by decide +kernel
theorem dX6_isWithinEdges_17 : decode cX6_isWithinEdges 17 = .ok (.istore 4, 2) := by decide +kernel
theorem dX6_isWithinEdges_19 : decode cX6_isWithinEdges 19 = .ok (.aload_n 1, 1) := by decide +kernel
theorem dX6_isWithinEdges_20 : decode cX6_isWithinEdges 20 = .ok (.iload_n 2, 1) := by decide +kernel
theorem dX6_isWithinEdges_21 : decode cX6_isWithinEdges 21 = .ok (.invokevirtual 284, 3) := by decide +kernel
theorem dX6_isWithinEdges_24 : decode cX6_isWithinEdges 24 = .ok (.iload 4, 2) := by decide +kernel
theorem dX6_isWithinEdges_26 : decode cX6_isWithinEdges 26 = .ok (.ineg, 1) := by decide +kernel
theorem dX6_isWithinEdges_27 : decode cX6_isWithinEdges 27 = .ok (.if_icmp .lt 17, 3) := by decide +kernel
theorem dX6_isWithinEdges_30 : decode cX6_isWithinEdges 30 = .ok (.aload_n 1, 1) := by decide +kernel
theorem dX6_isWithinEdges_31 : decode cX6_isWithinEdges 31 = .ok (.iload_n 2, 1) := by decide +kernel
theorem dX6_isWithinEdges_32 : decode cX6_isWithinEdges 32 = .ok (.invokevirtual 287, 3) := by decide +kernel
theorem dX6_isWithinEdges_35 : decode cX6_isWithinEdges 35 = .ok (.iload 4, 2) := by decide +kernel
theorem dX6_isWithinEdges_37 : decode cX6_isWithinEdges 37 = .ok (.if_icmp .gt 7, 3) := by decide +kernel
theorem dX6_isWithinEdges_40 : decode cX6_isWithinEdges 40 = .ok (.iconst 1, 1) := by decide +kernel
theorem dX6_isWithinEdges_41 : decode cX6_isWithinEdges 41 = .ok (.goto 4, 3) := by decide +kernel
theorem dX6_isWithinEdges_44 : decode cX6_isWithinEdges 44 = .ok (.iconst 0, 1) := by decide +kernel
theorem dX6_isWithinEdges_45 : decode cX6_isWithinEdges 45 = .ok (.ireturn, 1) := by decide +kernel
theorem dX6_changeNames_0 : decode cX6_changeNames 0 = .ok (.aload_n 1, 1) := by decide +kernel
theorem dX6_changeNames_1 : decode cX6_changeNames 1 = .ok (.iconst 1, 1) := by decide +kernel
theorem dX6_changeNames_2 : decode cX6_changeNames 2 = .ok (.putfield 143, 3) := by decide +kernel
theorem dX6_changeNames_5 : decode cX6_changeNames 5 = .ok (.aload_n 0, 1) := by decide +kernel
theorem dX6_changeNames_6 : decode cX6_changeNames 6 = .ok (.getfield 22, 3) := by decide +kernel
theorem dX6_changeNames_9 : decode cX6_changeNames 9 = .ok (.sipush 595, 3) := by decide +kernel
theorem dX6_changeNames_12 : decode cX6_changeNames 12 = .ok (.putfield 290, 3) := by decide +kernel
theorem dX6_changeNames_15 : decode cX6_changeNames 15 = .ok (.aload_n 1, 1) := by decide +kernel
theorem dX6_changeNames_16 : decode cX6_changeNames 16 = .ok (.aload_n 0, 1) := by decide +kernel
theorem dX6_changeNames_17 : decode cX6_changeNames 17 = .ok (.getfield 22, 3) := by decide +kernel
theorem dX6_changeNames_20 : decode cX6_changeNames 20 = .ok (.iconst 0, 1) := by decide +kernel
theorem dX6_changeNames_21 : decode cX6_changeNames 21 = .ok (.iconst 0, 1) := by decide +kernel
theorem dX6_changeNames_22 : decode cX6_changeNames 22 = .ok (.invokestatic 293, 3) := by decide +kernel
theorem dX6_changeNames_25 : decode cX6_changeNames 25 = .ok (.iconst 0, 1) := by decide +kernel
theorem dX6_changeNames_26 : decode cX6_changeNames 26 = .ok (.istore_n 2, 1) := by decide +kernel
theorem dX6_changeNames_27 : decode cX6_changeNames 27 = .ok (.iload_n 2, 1) := by decide +kernel
theorem dX6_changeNames_28 : decode cX6_changeNames 28 = .ok (.aload_n 1, 1) := by decide +kernel
theorem dX6_changeNames_29 : decode cX6_changeNames 29 = .ok (.getfield 156, 3) := by decide +kernel
theorem dX6_changeNames_32 : decode cX6_changeNames 32 = .ok (.invokevirtual 57, 3) := by decide +kernel
theorem dX6_changeNames_35 : decode cX6_changeNames 35 = .ok (.if_icmp .ge 44, 3) := by decide +kernel
theorem dX6_changeNames_38 : decode cX6_changeNames 38 = .ok (.iload_n 2, 1) := by decide +kernel
theorem dX6_changeNames_39 : decode cX6_changeNames 39 = .ok (.aload_n 0, 1) := by decide +kernel
theorem dX6_changeNames_40 : decode cX6_changeNames 40 = .ok (.getfield 22, 3) := by decide +kernel
theorem dX6_changeNames_43 : decode cX6_changeNames 43 = .ok (.getfield 297, 3) := by decide +kernel
theorem dX6_changeNames_46 : decode cX6_changeNames 46 = .ok (.arraylength, 1) := by decide +kernel
theorem dX6_changeNames_47 : decode cX6_changeNames 47 = .ok (.if_icmp .ge 32, 3) := by decide +kernel
theorem dX6_changeNames_50 : decode cX6_changeNames 50 = .ok (.aload_n 1, 1) := by decide +kernel
theorem dX6_changeNames_51 : decode cX6_changeNames 51 = .ok (.getfield 156, 3) := by decide +kernel
theorem dX6_changeNames_54 : decode cX6_changeNames 54 = .ok (.iload_n 2, 1) := by decide +kernel
theorem dX6_changeNames_55 : decode cX6_changeNames 55 = .ok (.invokevirtual 113, 3) := by decide +kernel
theorem dX6_changeNames_58 : decode cX6_changeNames 58 = .ok (.checkcast 160, 3) := by decide +kernel
theorem dX6_changeNames_61 : decode cX6_changeNames 61 = .ok (.aload_n 0, 1) := by decide +kernel
theorem dX6_changeNames_62 : decode cX6_changeNames 62 = .ok (.getfield 22, 3) := by decide +kernel
theorem dX6_changeNames_65 : decode cX6_changeNames 65 = .ok (.getfield 297, 3) := by decide +kernel
theorem dX6_changeNames_68 : decode cX6_changeNames 68 = .ok (.iload_n 2, 1) := by decide +kernel
theorem dX6_changeNames_69 : decode cX6_changeNames 69 = .ok (.iaload, 1) := by decide +kernel
theorem dX6_changeNames_70 : decode cX6_changeNames 70 = .ok (.putfield 193, 3) := by decide +kernel
theorem dX6_changeNames_73 : decode cX6_changeNames 73 = .ok (.iinc 2 1, 3) := by decide +kernel
theorem dX6_changeNames_76 : decode cX6_changeNames 76 = .ok (.goto (-49), 3) := by decide +kernel
theorem dX6_changeNames_79 : decode cX6_changeNames 79 = .ok (.aload_n 1, 1) := by decide +kernel
theorem dX6_changeNames_80 : decode cX6_changeNames 80 = .ok (.aload_n 0, 1) := by decide +kernel
theorem dX6_changeNames_81 : decode cX6_changeNames 81 = .ok (.getfield 22, 3) := by decide +kernel
theorem dX6_changeNames_84 : decode cX6_changeNames 84 = .ok (.getfield 290, 3) := by decide +kernel
theorem dX6_changeNames_87 : decode cX6_changeNames 87 = .ok (.putfield 196, 3) := by decide +kernel
theorem dX6_changeNames_90 : decode cX6_changeNames 90 = .ok (.return_, 1) := by decide +kernel
theorem dX6_tryWays_0 : decode cX6_tryWays 0 = .ok (.iload_n 3, 1) := by decide +kernel
theorem dX6_tryWays_1 : decode cX6_tryWays 1 = .ok (.aload_n 1, 1) := by decide +kernel
theorem dX6_tryWays_2 : decode cX6_tryWays 2 = .ok (.getfield 290, 3) := by decide +kernel
theorem dX6_tryWays_5 : decode cX6_tryWays 5 = .ok (.if_icmp .lt 4, 3) := by decide +kernel
theorem dX6_tryWays_8 : decode cX6_tryWays 8 = .ok (.return_, 1) := by decide +kernel
theorem dX6_tryWays_9 : decode cX6_tryWays 9 = .ok (.iload_n 2, 1) := by decide +kernel
theorem dX6_tryWays_10 : decode cX6_tryWays 10 = .ok (.aload_n 0, 1) := by decide +kernel
theorem dX6_tryWays_11 : decode cX6_tryWays 11 = .ok (.getfield 156, 3) := by decide +kernel
theorem dX6_tryWays_14 : decode cX6_tryWays 14 = .ok (.invokevirtual 57, 3) := by decide +kernel
theorem dX6_tryWays_17 : decode cX6_tryWays 17 = .ok (.if_icmp .ge 9, 3) := by decide +kernel
theorem dX6_tryWays_20 : decode cX6_tryWays 20 = .ok (.iload_n 2, 1) := by decide +kernel
theorem dX6_tryWays_21 : decode cX6_tryWays 21 = .ok (.bipush 6, 2) := by decide +kernel
theorem dX6_tryWays_23 : decode cX6_tryWays 23 = .ok (.if_icmp .lt 9, 3) := by decide +kernel
theorem dX6_tryWays_26 : decode cX6_tryWays 26 = .ok (.aload_n 1, 1) := by decide +kernel
theorem dX6_tryWays_27 : decode cX6_tryWays 27 = .ok (.iload_n 3, 1) := by decide +kernel
theorem dX6_tryWays_28 : decode cX6_tryWays 28 = .ok (.invokevirtual 300, 3) := by decide +kernel
theorem dX6_tryWays_31 : decode cX6_tryWays 31 = .ok (.return_, 1) := by decide +kernel
theorem dX6_tryWays_32 : decode cX6_tryWays 32 = .ok (.aload_n 0, 1) := by decide +kernel
theorem dX6_tryWays_33 : decode cX6_tryWays 33 = .ok (.getfield 156, 3) := by decide +kernel
theorem dX6_tryWays_36 : decode cX6_tryWays 36 = .ok (.iload_n 2, 1) := by decide +kernel
theorem dX6_tryWays_37 : decode cX6_tryWays 37 = .ok (.invokevirtual 113, 3) := by decide +kernel
theorem dX6_tryWays_40 : decode cX6_tryWays 40 = .ok (.checkcast 160, 3) := by decide +kernel
theorem dX6_tryWays_43 : decode cX6_tryWays 43 = .ok (.astore 4, 2) := by decide +kernel
theorem dX6_tryWays_45 : decode cX6_tryWays 45 = .ok (.iconst 0, 1) := by decide +kernel
theorem dX6_tryWays_46 : decode cX6_tryWays 46 = .ok (.istore 5, 2) := by decide +kernel
theorem dX6_tryWays_48 : decode cX6_tryWays 48 = .ok (.iload 5, 2) := by decide +kernel
theorem dX6_tryWays_50 : decode cX6_tryWays 50 = .ok (.iconst 4, 1) := by decide +kernel
theorem dX6_tryWays_51 : decode cX6_tryWays 51 = .ok (.if_icmp .gt 57, 3) := by decide +kernel
theorem dX6_tryWays_54 : decode cX6_tryWays 54 = .ok (.aload 4, 2) := by decide +kernel
theorem dX6_tryWays_56 : decode cX6_tryWays 56 = .ok (.iload 5, 2) := by decide +kernel
theorem dX6_tryWays_58 : decode cX6_tryWays 58 = .ok (.invokevirtual 190, 3) := by decide +kernel
theorem dX6_tryWays_61 : decode cX6_tryWays 61 = .ok (.ifCond .eq 41, 3) := by decide +kernel
theorem dX6_tryWays_64 : decode cX6_tryWays 64 = .ok (.aload 4, 2) := by decide +kernel
theorem dX6_tryWays_66 : decode cX6_tryWays 66 = .ok (.iload 5, 2) := by decide +kernel
theorem dX6_tryWays_68 : decode cX6_tryWays 68 = .ok (.aload_n 0, 1) := by decide +kernel
theorem dX6_tryWays_69 : decode cX6_tryWays 69 = .ok (.aload_n 1, 1) := by decide +kernel
theorem dX6_tryWays_70 : decode cX6_tryWays 70 = .ok (.iload_n 2, 1) := by decide +kernel
theorem dX6_tryWays_71 : decode cX6_tryWays 71 = .ok (.invokestatic 304, 3) := by decide +kernel
theorem dX6_tryWays_74 : decode cX6_tryWays 74 = .ok (.ifCond .eq 28, 3) := by decide +kernel
theorem dX6_tryWays_77 : decode cX6_tryWays 77 = .ok (.aload_n 1, 1) := by decide +kernel
theorem dX6_tryWays_78 : decode cX6_tryWays 78 = .ok (.getfield 308, 3) := by decide +kernel
theorem dX6_tryWays_81 : decode cX6_tryWays 81 = .ok (.iload_n 2, 1) := by decide +kernel
theorem dX6_tryWays_82 : decode cX6_tryWays 82 = .ok (.iload 5, 2) := by decide +kernel
theorem dX6_tryWays_84 : decode cX6_tryWays 84 = .ok (.iastore, 1) := by decide +kernel
theorem dX6_tryWays_85 : decode cX6_tryWays 85 = .ok (.aload_n 0, 1) := by decide +kernel
theorem dX6_tryWays_86 : decode cX6_tryWays 86 = .ok (.aload_n 1, 1) := by decide +kernel
theorem dX6_tryWays_87 : decode cX6_tryWays 87 = .ok (.iload_n 2, 1) := by decide +kernel
theorem dX6_tryWays_88 : decode cX6_tryWays 88 = .ok (.iconst 1, 1) := by decide +kernel
theorem dX6_tryWays_89 : decode cX6_tryWays 89 = .ok (.iadd, 1) := by decide +kernel
theorem dX6_tryWays_90 : decode cX6_tryWays 90 = .ok (.iload_n 3, 1) := by decide +kernel
theorem dX6_tryWays_91 : decode cX6_tryWays 91 = .ok (.aload 4, 2) := by decide +kernel
theorem dX6_tryWays_93 : decode cX6_tryWays 93 = .ok (.iload 5, 2) := by decide +kernel
theorem dX6_tryWays_95 : decode cX6_tryWays 95 = .ok (.invokevirtual 311, 3) := by decide +kernel
theorem dX6_tryWays_98 : decode cX6_tryWays 98 = .ok (.iadd, 1) := by decide +kernel
theorem dX6_tryWays_99 : decode cX6_tryWays 99 = .ok (.invokestatic 293, 3) := by decide +kernel
theorem dX6_tryWays_102 : decode cX6_tryWays 102 = .ok (.iinc 5 1, 3) := by decide +kernel
theorem dX6_tryWays_105 : decode cX6_tryWays 105 = .ok (.goto (-57), 3) := by decide +kernel
theorem dX6_tryWays_108 : decode cX6_tryWays 108 = .ok (.return_, 1) := by decide +kernel
theorem dX6_isClear_0 : decode cX6_isClear 0 = .ok (.iconst 0, 1) := by decide +kernel
theorem dX6_isClear_1 : decode cX6_isClear 1 = .ok (.istore 5, 2) := by decide +kernel
theorem dX6_isClear_3 : decode cX6_isClear 3 = .ok (.iload 5, 2) := by decide +kernel
theorem dX6_isClear_5 : decode cX6_isClear 5 = .ok (.iload 4, 2) := by decide +kernel
theorem dX6_isClear_7 : decode cX6_isClear 7 = .ok (.if_icmp .ge 50, 3) := by decide +kernel
theorem dX6_isClear_10 : decode cX6_isClear 10 = .ok (.iload 5, 2) := by decide +kernel
theorem dX6_isClear_12 : decode cX6_isClear 12 = .ok (.aload_n 2, 1) := by decide +kernel
theorem dX6_isClear_13 : decode cX6_isClear 13 = .ok (.getfield 156, 3) := by decide +kernel
theorem dX6_isClear_16 : decode cX6_isClear 16 = .ok (.invokevirtual 57, 3) := by decide +kernel
theorem dX6_isClear_19 : decode cX6_isClear 19 = .ok (.if_icmp .ge 38, 3) := by decide +kernel
theorem dX6_isClear_22 : decode cX6_isClear 22 = .ok (.aload_n 0, 1) := by decide +kernel
theorem dX6_isClear_23 : decode cX6_isClear 23 = .ok (.iload_n 1, 1) := by decide +kernel
theorem dX6_isClear_24 : decode cX6_isClear 24 = .ok (.aload_n 2, 1) := by decide +kernel
theorem dX6_isClear_25 : decode cX6_isClear 25 = .ok (.getfield 156, 3) := by decide +kernel
theorem dX6_isClear_28 : decode cX6_isClear 28 = .ok (.iload 5, 2) := by decide +kernel
theorem dX6_isClear_30 : decode cX6_isClear 30 = .ok (.invokevirtual 113, 3) := by decide +kernel
theorem dX6_isClear_33 : decode cX6_isClear 33 = .ok (.checkcast 160, 3) := by decide +kernel
theorem dX6_isClear_36 : decode cX6_isClear 36 = .ok (.aload_n 3, 1) := by decide +kernel
theorem dX6_isClear_37 : decode cX6_isClear 37 = .ok (.getfield 308, 3) := by decide +kernel
theorem dX6_isClear_40 : decode cX6_isClear 40 = .ok (.iload 5, 2) := by decide +kernel
theorem dX6_isClear_42 : decode cX6_isClear 42 = .ok (.iaload, 1) := by decide +kernel
theorem dX6_isClear_43 : decode cX6_isClear 43 = .ok (.invokevirtual 314, 3) := by decide +kernel
theorem dX6_isClear_46 : decode cX6_isClear 46 = .ok (.ifCond .eq 5, 3) := by decide +kernel
theorem dX6_isClear_49 : decode cX6_isClear 49 = .ok (.iconst 0, 1) := by decide +kernel
theorem dX6_isClear_50 : decode cX6_isClear 50 = .ok (.ireturn, 1) := by decide +kernel
theorem dX6_isClear_51 : decode cX6_isClear 51 = .ok (.iinc 5 1, 3) := by decide +kernel
theorem dX6_isClear_54 : decode cX6_isClear 54 = .ok (.goto (-51), 3) := by decide +kernel
theorem dX6_isClear_57 : decode cX6_isClear 57 = .ok (.iconst 1, 1) := by decide +kernel
theorem dX6_isClear_58 : decode cX6_isClear 58 = .ok (.ireturn, 1) := by decide +kernel
theorem dX7_init_0 : decode cX7_init 0 = .ok (.aload_n 0, 1) := by decide +kernel
theorem dX7_init_1 : decode cX7_init 1 = .ok (.invokespecial 1, 3) := by decide +kernel
theorem dX7_init_4 : decode cX7_init 4 = .ok (.aload_n 0, 1) := by decide +kernel
theorem dX7_init_5 : decode cX7_init 5 = .ok (.bipush 92, 2) := by decide +kernel
theorem dX7_init_7 : decode cX7_init 7 = .ok (.newarray .int, 2) := by decide +kernel
theorem dX7_init_9 : decode cX7_init 9 = .ok (.dup, 1) := by decide +kernel
theorem dX7_init_10 : decode cX7_init 10 = .ok (.iconst 0, 1) := by decide +kernel
theorem dX7_init_11 : decode cX7_init 11 = .ok (.sipush 1000, 3) := by decide +kernel
theorem dX7_init_14 : decode cX7_init 14 = .ok (.iastore, 1) := by decide +kernel
theorem dX7_init_15 : decode cX7_init 15 = .ok (.dup, 1) := by decide +kernel
theorem dX7_init_16 : decode cX7_init 16 = .ok (.iconst 1, 1) := by decide +kernel
theorem dX7_init_17 : decode cX7_init 17 = .ok (.sipush 1000, 3) := by decide +kernel
theorem dX7_init_20 : decode cX7_init 20 = .ok (.iastore, 1) := by decide +kernel
theorem dX7_init_21 : decode cX7_init 21 = .ok (.dup, 1) := by decide +kernel
theorem dX7_init_22 : decode cX7_init 22 = .ok (.iconst 2, 1) := by decide +kernel
theorem dX7_init_23 : decode cX7_init 23 = .ok (.sipush 999, 3) := by decide +kernel
theorem dX7_init_26 : decode cX7_init 26 = .ok (.iastore, 1) := by decide +kernel
theorem dX7_init_27 : decode cX7_init 27 = .ok (.dup, 1) := by decide +kernel
theorem dX7_init_28 : decode cX7_init 28 = .ok (.iconst 3, 1) := by decide +kernel
theorem dX7_init_29 : decode cX7_init 29 = .ok (.sipush 999, 3) := by decide +kernel
theorem dX7_init_32 : decode cX7_init 32 = .ok (.iastore, 1) := by decide +kernel
theorem dX7_init_33 : decode cX7_init 33 = .ok (.dup, 1) := by decide +kernel
theorem dX7_init_34 : decode cX7_init 34 = .ok (.iconst 4, 1) := by decide +kernel
theorem dX7_init_35 : decode cX7_init 35 = .ok (.sipush 998, 3) := by decide +kernel
theorem dX7_init_38 : decode cX7_init 38 = .ok (.iastore, 1) := by decide +kernel
theorem dX7_init_39 : decode cX7_init 39 = .ok (.dup, 1) := by decide +kernel
theorem dX7_init_40 : decode cX7_init 40 = .ok (.iconst 5, 1) := by decide +kernel
theorem dX7_init_41 : decode cX7_init 41 = .ok (.sipush 996, 3) := by decide +kernel
theorem dX7_init_44 : decode cX7_init 44 = .ok (.iastore, 1) := by decide +kernel
theorem dX7_init_45 : decode cX7_init 45 = .ok (.dup, 1) := by decide +kernel
theorem dX7_init_46 : decode cX7_init 46 = .ok (.bipush 6, 2) := by decide +kernel
theorem dX7_init_48 : decode cX7_init 48 = .ok (.sipush 995, 3) := by decide +kernel
theorem dX7_init_51 : decode cX7_init 51 = .ok (.iastore, 1) := by decide +kernel
theorem dX7_init_52 : decode cX7_init 52 = .ok (.dup, 1) := by decide +kernel
theorem dX7_init_53 : decode cX7_init 53 = .ok (.bipush 7, 2) := by decide +kernel
theorem dX7_init_55 : decode cX7_init 55 = .ok (.sipush 993, 3) := by decide +kernel
theorem dX7_init_58 : decode cX7_init 58 = .ok (.iastore, 1) := by decide +kernel
theorem dX7_init_59 : decode cX7_init 59 = .ok (.dup, 1) := by decide +kernel
theorem dX7_init_60 : decode cX7_init 60 = .ok (.bipush 8, 2) := by decide +kernel
theorem dX7_init_62 : decode cX7_init 62 = .ok (.sipush 990, 3) := by decide +kernel
theorem dX7_init_65 : decode cX7_init 65 = .ok (.iastore, 1) := by decide +kernel
theorem dX7_init_66 : decode cX7_init 66 = .ok (.dup, 1) := by decide +kernel
theorem dX7_init_67 : decode cX7_init 67 = .ok (.bipush 9, 2) := by decide +kernel
theorem dX7_init_69 : decode cX7_init 69 = .ok (.sipush 988, 3) := by decide +kernel
theorem dX7_init_72 : decode cX7_init 72 = .ok (.iastore, 1) := by decide +kernel
theorem dX7_init_73 : decode cX7_init 73 = .ok (.dup, 1) := by decide +kernel
theorem dX7_init_74 : decode cX7_init 74 = .ok (.bipush 10, 2) := by decide +kernel
theorem dX7_init_76 : decode cX7_init 76 = .ok (.sipush 985, 3) := by decide +kernel
theorem dX7_init_79 : decode cX7_init 79 = .ok (.iastore, 1) := by decide +kernel
theorem dX7_init_80 : decode cX7_init 80 = .ok (.dup, 1) := by decide +kernel
theorem dX7_init_81 : decode cX7_init 81 = .ok (.bipush 11, 2) := by decide +kernel
theorem dX7_init_83 : decode cX7_init 83 = .ok (.sipush 982, 3) := by decide +kernel
theorem dX7_init_86 : decode cX7_init 86 = .ok (.iastore, 1) := by decide +kernel
theorem dX7_init_87 : decode cX7_init 87 = .ok (.dup, 1) := by decide +kernel
theorem dX7_init_88 : decode cX7_init 88 = .ok (.bipush 12, 2) := by decide +kernel
theorem dX7_init_90 : decode cX7_init 90 = .ok (.sipush 978, 3) := by decide +kernel
theorem dX7_init_93 : decode cX7_init 93 = .ok (.iastore, 1) := by decide +kernel
theorem dX7_init_94 : decode cX7_init 94 = .ok (.dup, 1) := by decide +kernel
theorem dX7_init_95 : decode cX7_init 95 = .ok (.bipush 13, 2) := by decide +kernel
theorem dX7_init_97 : decode cX7_init 97 = .ok (.sipush 974, 3) := by decide +kernel
theorem dX7_init_100 : decode cX7_init 100 = .ok (.iastore, 1) := by decide +kernel
theorem dX7_init_101 : decode cX7_init 101 = .ok (.dup, 1) := by decide +kernel
theorem dX7_init_102 : decode cX7_init 102 = .ok (.bipush 14, 2) := by decide +kernel
theorem dX7_init_104 : decode cX7_init 104 = .ok (.sipush 970, 3) := by decide +kernel
theorem dX7_init_107 : decode cX7_init 107 = .ok (.iastore, 1) := by decide +kernel
theorem dX7_init_108 : decode cX7_init 108 = .ok (.dup, 1) := by decide +kernel
theorem dX7_init_109 : decode cX7_init 109 = .ok (.bipush 15, 2) := by decide +kernel
theorem dX7_init_111 : decode cX7_init 111 = .ok (.sipush 966, 3) := by decide +kernel
theorem dX7_init_114 : decode cX7_init 114 = .ok (.iastore, 1) := by decide +kernel
theorem dX7_init_115 : decode cX7_init 115 = .ok (.dup, 1) := by decide +kernel
theorem dX7_init_116 : decode cX7_init 116 = .ok (.bipush 16, 2) := by decide +kernel
theorem dX7_init_118 : decode cX7_init 118 = .ok (.sipush 961, 3) := by decide +kernel
theorem dX7_init_121 : decode cX7_init 121 = .ok (.iastore, 1) := by decide +kernel
theorem dX7_init_122 : decode cX7_init 122 = .ok (.dup, 1) := by decide +kernel
theorem dX7_init_123 : decode cX7_init 123 = .ok (.bipush 17, 2) := by decide +kernel
theorem dX7_init_125 : decode cX7_init 125 = .ok (.sipush 956, 3) := by decide +kernel
theorem dX7_init_128 : decode cX7_init 128 = .ok (.iastore, 1) := by decide +kernel
theorem dX7_init_129 : decode cX7_init 129 = .ok (.dup, 1) := by decide +kernel
theorem dX7_init_130 : decode cX7_init 130 = .ok (.bipush 18, 2) := by decide +kernel
theorem dX7_init_132 : decode cX7_init 132 = .ok (.sipush 951, 3) := by decide +kernel
theorem dX7_init_135 : decode cX7_init 135 = .ok (.iastore, 1) := by decide +kernel
theorem dX7_init_136 : decode cX7_init 136 = .ok (.dup, 1) := by decide +kernel
theorem dX7_init_137 : decode cX7_init 137 = .ok (.bipush 19, 2) := by decide +kernel
theorem dX7_init_139 : decode cX7_init 139 = .ok (.sipush 946, 3) := by decide +kernel
theorem dX7_init_142 : decode cX7_init 142 = .ok (.iastore, 1) := by decide +kernel
theorem dX7_init_143 : decode cX7_init 143 = .ok (.dup, 1) := by decide +kernel
theorem dX7_init_144 : decode cX7_init 144 = .ok (.bipush 20, 2) := by decide +kernel
theorem dX7_init_146 : decode cX7_init 146 = .ok (.sipush 940, 3) := by decide +kernel
theorem dX7_init_149 : decode cX7_init 149 = .ok (.iastore, 1) := by decide +kernel
theorem dX7_init_150 : decode cX7_init 150 = .ok (.dup, 1) := by decide +kernel
theorem dX7_init_151 : decode cX7_init 151 = .ok (.bipush 21, 2) := by decide +kernel
theorem dX7_init_153 : decode cX7_init 153 = .ok (.sipush 934, 3) := by decide +kernel
theorem dX7_init_156 : decode cX7_init 156 = .ok (.iastore, 1) := by decide +kernel
theorem dX7_init_157 : decode cX7_init 157 = .ok (.dup, 1) := by decide +kernel
theorem dX7_init_158 : decode cX7_init 158 = .ok (.bipush 22, 2) := by decide +kernel
theorem dX7_init_160 : decode cX7_init 160 = .ok (.sipush 927, 3) := by decide +kernel
theorem dX7_init_163 : decode cX7_init 163 = .ok (.iastore, 1) := by decide +kernel
theorem dX7_init_164 : decode cX7_init 164 = .ok (.dup, 1) := by decide +kernel
theorem dX7_init_165 : decode cX7_init 165 = .ok (.bipush 23, 2) := by decide +kernel
theorem dX7_init_167 : decode cX7_init 167 = .ok (.sipush 921, 3) := by decide +kernel
theorem dX7_init_170 : decode cX7_init 170 = .ok (.iastore, 1) := by decide +kernel
theorem dX7_init_171 : decode cX7_init 171 = .ok (.dup, 1) := by decide +kernel
theorem dX7_init_172 : decode cX7_init 172 = .ok (.bipush 24, 2) := by decide +kernel
theorem dX7_init_174 : decode cX7_init 174 = .ok (.sipush 914, 3) := by decide +kernel
theorem dX7_init_177 : decode cX7_init 177 = .ok (.iastore, 1) := by decide +kernel
theorem dX7_init_178 : decode cX7_init 178 = .ok (.dup, 1) := by decide +kernel
theorem dX7_init_179 : decode cX7_init 179 = .ok (.bipush 25, 2) := by decide +kernel
theorem dX7_init_181 : decode cX7_init 181 = .ok (.sipush 906, 3) := by decide +kernel
theorem dX7_init_184 : decode cX7_init 184 = .ok (.iastore, 1) := by decide +kernel
theorem dX7_init_185 : decode cX7_init 185 = .ok (.dup, 1) := by decide +kernel
theorem dX7_init_186 : decode cX7_init 186 = .ok (.bipush 26, 2) := by decide +kernel
theorem dX7_init_188 : decode cX7_init 188 = .ok (.sipush 899, 3) := by decide +kernel
theorem dX7_init_191 : decode cX7_init 191 = .ok (.iastore, 1) := by decide +kernel
theorem dX7_init_192 : decode cX7_init 192 = .ok (.dup, 1) := by decide +kernel
theorem dX7_init_193 : decode cX7_init 193 = .ok (.bipush 27, 2) := by decide +kernel
theorem dX7_init_195 : decode cX7_init 195 = .ok (.sipush 891, 3) := by decide +kernel
theorem dX7_init_198 : decode cX7_init 198 = .ok (.iastore, 1) := by decide +kernel
theorem dX7_init_199 : decode cX7_init 199 = .ok (.dup, 1) := by decide +kernel
theorem dX7_init_200 : decode cX7_init 200 = .ok (.bipush 28, 2) := by decide +kernel
theorem dX7_init_202 : decode cX7_init 202 = .ok (.sipush 883, 3) := by decide +kernel
theorem dX7_init_205 : decode cX7_init 205 = .ok (.iastore, 1) := by decide +kernel
theorem dX7_init_206 : decode cX7_init 206 = .ok (.dup, 1) := by decide +kernel
theorem dX7_init_207 : decode cX7_init 207 = .ok (.bipush 29, 2) := by decide +kernel
theorem dX7_init_209 : decode cX7_init 209 = .ok (.sipush 875, 3) := by decide +kernel
theorem dX7_init_212 : decode cX7_init 212 = .ok (.iastore, 1) := by decide +kernel
theorem dX7_init_213 : decode cX7_init 213 = .ok (.dup, 1) := by decide +kernel
theorem dX7_init_214 : decode cX7_init 214 = .ok (.bipush 30, 2) := by decide +kernel
theorem dX7_init_216 : decode cX7_init 216 = .ok (.sipush 866, 3) := by decide +kernel
theorem dX7_init_219 : decode cX7_init 219 = .ok (.iastore, 1) := by decide +kernel
theorem dX7_init_220 : decode cX7_init 220 = .ok (.dup, 1) := by decide +kernel
theorem dX7_init_221 : decode cX7_init 221 = .ok (.bipush 31, 2) := by decide +kernel
theorem dX7_init_223 : decode cX7_init 223 = .ok (.sipush 857, 3) := by decide +kernel
theorem dX7_init_226 : decode cX7_init 226 = .ok (.iastore, 1) := by decide +kernel
theorem dX7_init_227 : decode cX7_init 227 = .ok (.dup, 1) := by decide +kernel
theorem dX7_init_228 : decode cX7_init 228 = .ok (.bipush 32, 2) := by decide +kernel
theorem dX7_init_230 : decode cX7_init 230 = .ok (.sipush 848, 3) := by decide +kernel
theorem dX7_init_233 : decode cX7_init 233 = .ok (.iastore, 1) := by decide +kernel
theorem dX7_init_234 : decode cX7_init 234 = .ok (.dup, 1) := by decide +kernel
theorem dX7_init_235 : decode cX7_init 235 = .ok (.bipush 33, 2) := by decide +kernel
theorem dX7_init_237 : decode cX7_init 237 = .ok (.sipush 839, 3) := by decide +kernel
theorem dX7_init_240 : decode cX7_init 240 = .ok (.iastore, 1) := by decide +kernel
theorem dX7_init_241 : decode cX7_init 241 = .ok (.dup, 1) := by decide +kernel
theorem dX7_init_242 : decode cX7_init 242 = .ok (.bipush 34, 2) := by decide +kernel
theorem dX7_init_244 : decode cX7_init 244 = .ok (.sipush 829, 3) := by decide +kernel
theorem dX7_init_247 : decode cX7_init 247 = .ok (.iastore, 1) := by decide +kernel
theorem dX7_init_248 : decode cX7_init 248 = .ok (.dup, 1) := by decide +kernel
theorem dX7_init_249 : decode cX7_init 249 = .ok (.bipush 35, 2) := by decide +kernel
theorem dX7_init_251 : decode cX7_init 251 = .ok (.sipush 819, 3) := by decide +kernel
theorem dX7_init_254 : decode cX7_init 254 = .ok (.iastore, 1) := by decide +kernel
theorem dX7_init_255 : decode cX7_init 255 = .ok (.dup, 1) := by decide +kernel
theorem dX7_init_256 : decode cX7_init 256 = .ok (.bipush 36, 2) := by decide +kernel
theorem dX7_init_258 : decode cX7_init 258 = .ok (.sipush 809, 3) := by decide +kernel
theorem dX7_init_261 : decode cX7_init 261 = .ok (.iastore, 1) := by decide +kernel
theorem dX7_init_262 : decode cX7_init 262 = .ok (.dup, 1) := by decide +kernel
theorem dX7_init_263 : decode cX7_init 263 = .ok (.bipush 37, 2) := by decide +kernel
theorem dX7_init_265 : decode cX7_init 265 = .ok (.sipush 799, 3) := by decide +kernel
theorem dX7_init_268 : decode cX7_init 268 = .ok (.iastore, 1) := by decide +kernel
theorem dX7_init_269 : decode cX7_init 269 = .ok (.dup, 1) := by decide +kernel
theorem dX7_init_270 : decode cX7_init 270 = .ok (.bipush 38, 2) := by decide +kernel
theorem dX7_init_272 : decode cX7_init 272 = .ok (.sipush 788, 3) := by decide +kernel
theorem dX7_init_275 : decode cX7_init 275 = .ok (.iastore, 1) := by decide +kernel
theorem dX7_init_276 : decode cX7_init 276 = .ok (.dup, 1) := by decide +kernel
theorem dX7_init_277 : decode cX7_init 277 = .ok (.bipush 39, 2) := by decide +kernel
theorem dX7_init_279 : decode cX7_init 279 = .ok (.sipush 777, 3) := by decide +kernel
theorem dX7_init_282 : decode cX7_init 282 = .ok (.iastore, 1) := by decide +kernel
theorem dX7_init_283 : decode cX7_init 283 = .ok (.dup, 1) := by decide +kernel
theorem dX7_init_284 : decode cX7_init 284 = .ok (.bipush 40, 2) := by decide +kernel
theorem dX7_init_286 : decode cX7_init 286 = .ok (.sipush 766, 3) := by decide +kernel
theorem dX7_init_289 : decode cX7_init 289 = .ok (.iastore, 1) := by decide +kernel
theorem dX7_init_290 : decode cX7_init 290 = .ok (.dup, 1) := by decide +kernel
theorem dX7_init_291 : decode cX7_init 291 = .ok (.bipush 41, 2) := by decide +kernel
theorem dX7_init_293 : decode cX7_init 293 = .ok (.sipush 755, 3) := by decide +kernel
theorem dX7_init_296 : decode cX7_init 296 = .ok (.iastore, 1) := by decide +kernel
theorem dX7_init_297 : decode cX7_init 297 = .ok (.dup, 1) := by decide +kernel
theorem dX7_init_298 : decode cX7_init 298 = .ok (.bipush 42, 2) := by decide +kernel
theorem dX7_init_300 : decode cX7_init 300 = .ok (.sipush 743, 3) := by decide +kernel
theorem dX7_init_303 : decode cX7_init 303 = .ok (.iastore, 1) := by decide +kernel
theorem dX7_init_304 : decode cX7_init 304 = .ok (.dup, 1) := by decide +kernel
theorem dX7_init_305 : decode cX7_init 305 = .ok (.bipush 43, 2) := by decide +kernel
theorem dX7_init_307 : decode cX7_init 307 = .ok (.sipush 731, 3) := by decide +kernel
theorem dX7_init_310 : decode cX7_init 310 = .ok (.iastore, 1) := by decide +kernel
theorem dX7_init_311 : decode cX7_init 311 = .ok (.dup, 1) := by decide +kernel
theorem dX7_init_312 : decode cX7_init 312 = .ok (.bipush 44, 2) := by decide +kernel
theorem dX7_init_314 : decode cX7_init 314 = .ok (.sipush 719, 3) := by decide +kernel
theorem dX7_init_317 : decode cX7_init 317 = .ok (.iastore, 1) := by decide +kernel
theorem dX7_init_318 : decode cX7_init 318 = .ok (.dup, 1) := by decide +kernel
theorem dX7_init_319 : decode cX7_init 319 = .ok (.bipush 45, 2) := by decide +kernel
theorem dX7_init_321 : decode cX7_init 321 = .ok (.sipush 707, 3) := by decide +kernel
theorem dX7_init_324 : decode cX7_init 324 = .ok (.iastore, 1) := by decide +kernel
theorem dX7_init_325 : decode cX7_init 325 = .ok (.dup, 1) := by decide +kernel
theorem dX7_init_326 : decode cX7_init 326 = .ok (.bipush 46, 2) := by decide +kernel
theorem dX7_init_328 : decode cX7_init 328 = .ok (.sipush 695, 3) := by decide +kernel
theorem dX7_init_331 : decode cX7_init 331 = .ok (.iastore, 1) := by decide +kernel
theorem dX7_init_332 : decode cX7_init 332 = .ok (.dup, 1) := by decide +kernel
theorem dX7_init_333 : decode cX7_init 333 = .ok (.bipush 47, 2) := by decide +kernel
theorem dX7_init_335 : decode cX7_init 335 = .ok (.sipush 682, 3) := by decide +kernel
theorem dX7_init_338 : decode cX7_init 338 = .ok (.iastore, 1) := by decide +kernel
theorem dX7_init_339 : decode cX7_init 339 = .ok (.dup, 1) := by decide +kernel
theorem dX7_init_340 : decode cX7_init 340 = .ok (.bipush 48, 2) := by decide +kernel
theorem dX7_init_342 : decode cX7_init 342 = .ok (.sipush 669, 3) := by decide +kernel
theorem dX7_init_345 : decode cX7_init 345 = .ok (.iastore, 1) := by decide +kernel
theorem dX7_init_346 : decode cX7_init 346 = .ok (.dup, 1) := by decide +kernel
theorem dX7_init_347 : decode cX7_init 347 = .ok (.bipush 49, 2) := by decide +kernel
theorem dX7_init_349 : decode cX7_init 349 = .ok (.sipush 656, 3) := by decide +kernel
theorem dX7_init_352 : decode cX7_init 352 = .ok (.iastore, 1) := by decide +kernel
theorem dX7_init_353 : decode cX7_init 353 = .ok (.dup, 1) := by decide +kernel
theorem dX7_init_354 : decode cX7_init 354 = .ok (.bipush 50, 2) := by decide +kernel
theorem dX7_init_356 : decode cX7_init 356 = .ok (.sipush 643, 3) := by decide +kernel
theorem dX7_init_359 : decode cX7_init 359 = .ok (.iastore, 1) := by decide +kernel
theorem dX7_init_360 : decode cX7_init 360 = .ok (.dup, 1) := by decide +kernel
theorem dX7_init_361 : decode cX7_init 361 = .ok (.bipush 51, 2) := by decide +kernel
theorem dX7_init_363 : decode cX7_init 363 = .ok (.sipush 629, 3) := by decide +kernel
theorem dX7_init_366 : decode cX7_init 366 = .ok (.iastore, 1) := by decide +kernel
theorem dX7_init_367 : decode cX7_init 367 = .ok (.dup, 1) := by decide +kernel
theorem dX7_init_368 : decode cX7_init 368 = .ok (.bipush 52, 2) := by decide +kernel
theorem dX7_init_370 : decode cX7_init 370 = .ok (.sipush 616, 3) := by decide +kernel
theorem dX7_init_373 : decode cX7_init 373 = .ok (.iastore, 1) := by decide +kernel
theorem dX7_init_374 : decode cX7_init 374 = .ok (.dup, 1) := by decide +kernel
theorem dX7_init_375 : decode cX7_init 375 = .ok (.bipush 53, 2) := by decide +kernel
theorem dX7_init_377 : decode cX7_init 377 = .ok (.sipush 602, 3) := by decide +kernel
theorem dX7_init_380 : decode cX7_init 380 = .ok (.iastore, 1) := by decide +kernel
theorem dX7_init_381 : decode cX7_init 381 = .ok (.dup, 1) := by decide +kernel
theorem dX7_init_382 : decode cX7_init 382 = .ok (.bipush 54, 2) := by decide +kernel
theorem dX7_init_384 : decode cX7_init 384 = .ok (.sipush 588, 3) := by decide +kernel
theorem dX7_init_387 : decode cX7_init 387 = .ok (.iastore, 1) := by decide +kernel
theorem dX7_init_388 : decode cX7_init 388 = .ok (.dup, 1) := by decide +kernel
theorem dX7_init_389 : decode cX7_init 389 = .ok (.bipush 55, 2) := by decide +kernel
theorem dX7_init_391 : decode cX7_init 391 = .ok (.sipush 574, 3) := by decide +kernel
theorem dX7_init_394 : decode cX7_init 394 = .ok (.iastore, 1) := by decide +kernel
theorem dX7_init_395 : decode cX7_init 395 = .ok (.dup, 1) := by decide +kernel
theorem dX7_init_396 : decode cX7_init 396 = .ok (.bipush 56, 2) := by decide +kernel
theorem dX7_init_398 : decode cX7_init 398 = .ok (.sipush 559, 3) := by decide +kernel
theorem dX7_init_401 : decode cX7_init 401 = .ok (.iastore, 1) := by decide +kernel
theorem dX7_init_402 : decode cX7_init 402 = .ok (.dup, 1) := by decide +kernel
theorem dX7_init_403 : decode cX7_init 403 = .ok (.bipush 57, 2) := by decide +kernel
theorem dX7_init_405 : decode cX7_init 405 = .ok (.sipush 545, 3) := by decide +kernel
theorem dX7_init_408 : decode cX7_init 408 = .ok (.iastore, 1) := by decide +kernel
theorem dX7_init_409 : decode cX7_init 409 = .ok (.dup, 1) := by decide +kernel
theorem dX7_init_410 : decode cX7_init 410 = .ok (.bipush 58, 2) := by decide +kernel
theorem dX7_init_412 : decode cX7_init 412 = .ok (.sipush 530, 3) := by decide +kernel
theorem dX7_init_415 : decode cX7_init 415 = .ok (.iastore, 1) := by decide +kernel
theorem dX7_init_416 : decode cX7_init 416 = .ok (.dup, 1) := by decide +kernel
theorem dX7_init_417 : decode cX7_init 417 = .ok (.bipush 59, 2) := by decide +kernel
theorem dX7_init_419 : decode cX7_init 419 = .ok (.sipush 515, 3) := by decide +kernel
theorem dX7_init_422 : decode cX7_init 422 = .ok (.iastore, 1) := by decide +kernel
theorem dX7_init_423 : decode cX7_init 423 = .ok (.dup, 1) := by decide +kernel
theorem dX7_init_424 : decode cX7_init 424 = .ok (.bipush 60, 2) := by decide +kernel
theorem dX7_init_426 : decode cX7_init 426 = .ok (.sipush 500, 3) := by decide +kernel
theorem dX7_init_429 : decode cX7_init 429 = .ok (.iastore, 1) := by decide +kernel
theorem dX7_init_430 : decode cX7_init 430 = .ok (.dup, 1) := by decide +kernel
theorem dX7_init_431 : decode cX7_init 431 = .ok (.bipush 61, 2) := by decide +kernel
theorem dX7_init_433 : decode cX7_init 433 = .ok (.sipush 485, 3) := by decide +kernel
theorem dX7_init_436 : decode cX7_init 436 = .ok (.iastore, 1) := by decide +kernel
theorem dX7_init_437 : decode cX7_init 437 = .ok (.dup, 1) := by decide +kernel
theorem dX7_init_438 : decode cX7_init 438 = .ok (.bipush 62, 2) := by decide +kernel
theorem dX7_init_440 : decode cX7_init 440 = .ok (.sipush 469, 3) := by decide +kernel
theorem dX7_init_443 : decode cX7_init 443 = .ok (.iastore, 1) := by decide +kernel
theorem dX7_init_444 : decode cX7_init 444 = .ok (.dup, 1) := by decide +kernel
theorem dX7_init_445 : decode cX7_init 445 = .ok (.bipush 63, 2) := by decide +kernel
theorem dX7_init_447 : decode cX7_init 447 = .ok (.sipush 454, 3) := by decide +kernel
theorem dX7_init_450 : decode cX7_init 450 = .ok (.iastore, 1) := by decide +kernel
theorem dX7_init_451 : decode cX7_init 451 = .ok (.dup, 1) := by decide +kernel
theorem dX7_init_452 : decode cX7_init 452 = .ok (.bipush 64, 2) := by decide +kernel
theorem dX7_init_454 : decode cX7_init 454 = .ok (.sipush 438, 3) := by decide +kernel
theorem dX7_init_457 : decode cX7_init 457 = .ok (.iastore, 1) := by decide +kernel
theorem dX7_init_458 : decode cX7_init 458 = .ok (.dup, 1) := by decide +kernel
theorem dX7_init_459 : decode cX7_init 459 = .ok (.bipush 65, 2) := by decide +kernel
theorem dX7_init_461 : decode cX7_init 461 = .ok (.sipush 423, 3) := by decide +kernel
theorem dX7_init_464 : decode cX7_init 464 = .ok (.iastore, 1) := by decide +kernel
theorem dX7_init_465 : decode cX7_init 465 = .ok (.dup, 1) := by decide +kernel
theorem dX7_init_466 : decode cX7_init 466 = .ok (.bipush 66, 2) := by decide +kernel
theorem dX7_init_468 : decode cX7_init 468 = .ok (.sipush 407, 3) := by decide +kernel
theorem dX7_init_471 : decode cX7_init 471 = .ok (.iastore, 1) := by decide +kernel
theorem dX7_init_472 : decode cX7_init 472 = .ok (.dup, 1) := by decide +kernel
theorem dX7_init_473 : decode cX7_init 473 = .ok (.bipush 67, 2) := by decide +kernel
theorem dX7_init_475 : decode cX7_init 475 = .ok (.sipush 391, 3) := by decide +kernel
theorem dX7_init_478 : decode cX7_init 478 = .ok (.iastore, 1) := by decide +kernel
theorem dX7_init_479 : decode cX7_init 479 = .ok (.dup, 1) := by decide +kernel
theorem dX7_init_480 : decode cX7_init 480 = .ok (.bipush 68, 2) := by decide +kernel
theorem dX7_init_482 : decode cX7_init 482 = .ok (.sipush 375, 3) := by decide +kernel
theorem dX7_init_485 : decode cX7_init 485 = .ok (.iastore, 1) := by decide +kernel
theorem dX7_init_486 : decode cX7_init 486 = .ok (.dup, 1) := by decide +kernel
theorem dX7_init_487 : decode cX7_init 487 = .ok (.bipush 69, 2) := by decide +kernel
theorem dX7_init_489 : decode cX7_init 489 = .ok (.sipush 358, 3) := by decide +kernel
theorem dX7_init_492 : decode cX7_init 492 = .ok (.iastore, 1) := by decide +kernel
theorem dX7_init_493 : decode cX7_init 493 = .ok (.dup, 1) := by decide +kernel
theorem dX7_init_494 : decode cX7_init 494 = .ok (.bipush 70, 2) := by decide +kernel
theorem dX7_init_496 : decode cX7_init 496 = .ok (.sipush 342, 3) := by decide +kernel
theorem dX7_init_499 : decode cX7_init 499 = .ok (.iastore, 1) := by decide +kernel
theorem dX7_init_500 : decode cX7_init 500 = .ok (.dup, 1) := by decide +kernel
theorem dX7_init_501 : decode cX7_init 501 = .ok (.bipush 71, 2) := by decide +kernel
theorem dX7_init_503 : decode cX7_init 503 = .ok (.sipush 326, 3) := by decide +kernel
theorem dX7_init_506 : decode cX7_init 506 = .ok (.iastore, 1) := by decide +kernel
theorem dX7_init_507 : decode cX7_init 507 = .ok (.dup, 1) := by decide +kernel
theorem dX7_init_508 : decode cX7_init 508 = .ok (.bipush 72, 2) := by decide +kernel
theorem dX7_init_510 : decode cX7_init 510 = .ok (.sipush 309, 3) := by decide +kernel
theorem dX7_init_513 : decode cX7_init 513 = .ok (.iastore, 1) := by decide +kernel
theorem dX7_init_514 : decode cX7_init 514 = .ok (.dup, 1) := by decide +kernel
theorem dX7_init_515 : decode cX7_init 515 = .ok (.bipush 73, 2) := by decide +kernel
theorem dX7_init_517 : decode cX7_init 517 = .ok (.sipush 292, 3) := by decide +kernel
theorem dX7_init_520 : decode cX7_init 520 = .ok (.iastore, 1) := by decide +kernel
theorem dX7_init_521 : decode cX7_init 521 = .ok (.dup, 1) := by decide +kernel
theorem dX7_init_522 : decode cX7_init 522 = .ok (.bipush 74, 2) := by decide +kernel
theorem dX7_init_524 : decode cX7_init 524 = .ok (.sipush 276, 3) := by decide +kernel
theorem dX7_init_527 : decode cX7_init 527 = .ok (.iastore, 1) := by decide +kernel
theorem dX7_init_528 : decode cX7_init 528 = .ok (.dup, 1) := by decide +kernel
theorem dX7_init_529 : decode cX7_init 529 = .ok (.bipush 75, 2) := by decide +kernel
theorem dX7_init_531 : decode cX7_init 531 = .ok (.sipush 259, 3) := by decide +kernel
theorem dX7_init_534 : decode cX7_init 534 = .ok (.iastore, 1) := by decide +kernel
theorem dX7_init_535 : decode cX7_init 535 = .ok (.dup, 1) := by decide +kernel
theorem dX7_init_536 : decode cX7_init 536 = .ok (.bipush 76, 2) := by decide +kernel
theorem dX7_init_538 : decode cX7_init 538 = .ok (.sipush 242, 3) := by decide +kernel
theorem dX7_init_541 : decode cX7_init 541 = .ok (.iastore, 1) := by decide +kernel
theorem dX7_init_542 : decode cX7_init 542 = .ok (.dup, 1) := by decide +kernel
theorem dX7_init_543 : decode cX7_init 543 = .ok (.bipush 77, 2) := by decide +kernel
theorem dX7_init_545 : decode cX7_init 545 = .ok (.sipush 225, 3) := by decide +kernel
theorem dX7_init_548 : decode cX7_init 548 = .ok (.iastore, 1) := by decide +kernel
theorem dX7_init_549 : decode cX7_init 549 = .ok (.dup, 1) := by decide +kernel
theorem dX7_init_550 : decode cX7_init 550 = .ok (.bipush 78, 2) := by decide +kernel
theorem dX7_init_552 : decode cX7_init 552 = .ok (.sipush 208, 3) := by decide +kernel
theorem dX7_init_555 : decode cX7_init 555 = .ok (.iastore, 1) := by decide +kernel
theorem dX7_init_556 : decode cX7_init 556 = .ok (.dup, 1) := by decide +kernel
theorem dX7_init_557 : decode cX7_init 557 = .ok (.bipush 79, 2) := by decide +kernel
theorem dX7_init_559 : decode cX7_init 559 = .ok (.sipush 191, 3) := by decide +kernel
theorem dX7_init_562 : decode cX7_init 562 = .ok (.iastore, 1) := by decide +kernel
theorem dX7_init_563 : decode cX7_init 563 = .ok (.dup, 1) := by decide +kernel
theorem dX7_init_564 : decode cX7_init 564 = .ok (.bipush 80, 2) := by decide +kernel
theorem dX7_init_566 : decode cX7_init 566 = .ok (.sipush 174, 3) := by decide +kernel
theorem dX7_init_569 : decode cX7_init 569 = .ok (.iastore, 1) := by decide +kernel
theorem dX7_init_570 : decode cX7_init 570 = .ok (.dup, 1) := by decide +kernel
theorem dX7_init_571 : decode cX7_init 571 = .ok (.bipush 81, 2) := by decide +kernel
theorem dX7_init_573 : decode cX7_init 573 = .ok (.sipush 156, 3) := by decide +kernel
theorem dX7_init_576 : decode cX7_init 576 = .ok (.iastore, 1) := by decide +kernel
theorem dX7_init_577 : decode cX7_init 577 = .ok (.dup, 1) := by decide +kernel
theorem dX7_init_578 : decode cX7_init 578 = .ok (.bipush 82, 2) := by decide +kernel
theorem dX7_init_580 : decode cX7_init 580 = .ok (.sipush 139, 3) := by decide +kernel
theorem dX7_init_583 : decode cX7_init 583 = .ok (.iastore, 1) := by decide +kernel
theorem dX7_init_584 : decode cX7_init 584 = .ok (.dup, 1) := by decide +kernel
theorem dX7_init_585 : decode cX7_init 585 = .ok (.bipush 83, 2) := by decide +kernel
theorem dX7_init_587 : decode cX7_init 587 = .ok (.bipush 122, 2) := by decide +kernel
theorem dX7_init_589 : decode cX7_init 589 = .ok (.iastore, 1) := by decide +kernel
theorem dX7_init_590 : decode cX7_init 590 = .ok (.dup, 1) := by decide +kernel
theorem dX7_init_591 : decode cX7_init 591 = .ok (.bipush 84, 2) := by decide +kernel
theorem dX7_init_593 : decode cX7_init 593 = .ok (.bipush 105, 2) := by decide +kernel
theorem dX7_init_595 : decode cX7_init 595 = .ok (.iastore, 1) := by decide +kernel
theorem dX7_init_596 : decode cX7_init 596 = .ok (.dup, 1) := by decide +kernel
theorem dX7_init_597 : decode cX7_init 597 = .ok (.bipush 85, 2) := by decide +kernel
theorem dX7_init_599 : decode cX7_init 599 = .ok (.bipush 87, 2) := by decide +kernel
theorem dX7_init_601 : decode cX7_init 601 = .ok (.iastore, 1) := by decide +kernel
theorem dX7_init_602 : decode cX7_init 602 = .ok (.dup, 1) := by decide +kernel
theorem dX7_init_603 : decode cX7_init 603 = .ok (.bipush 86, 2) := by decide +kernel
theorem dX7_init_605 : decode cX7_init 605 = .ok (.bipush 70, 2) := by decide +kernel
theorem dX7_init_607 : decode cX7_init 607 = .ok (.iastore, 1) := by decide +kernel
theorem dX7_init_608 : decode cX7_init 608 = .ok (.dup, 1) := by decide +kernel
theorem dX7_init_609 : decode cX7_init 609 = .ok (.bipush 87, 2) := by decide +kernel
theorem dX7_init_611 : decode cX7_init 611 = .ok (.bipush 52, 2) := by decide +kernel
theorem dX7_init_613 : decode cX7_init 613 = .ok (.iastore, 1) := by decide +kernel
theorem dX7_init_614 : decode cX7_init 614 = .ok (.dup, 1) := by decide +kernel
theorem dX7_init_615 : decode cX7_init 615 = .ok (.bipush 88, 2) := by decide +kernel
theorem dX7_init_617 : decode cX7_init 617 = .ok (.bipush 35, 2) := by decide +kernel
theorem dX7_init_619 : decode cX7_init 619 = .ok (.iastore, 1) := by decide +kernel
theorem dX7_init_620 : decode cX7_init 620 = .ok (.dup, 1) := by decide +kernel
theorem dX7_init_621 : decode cX7_init 621 = .ok (.bipush 89, 2) := by decide +kernel
theorem dX7_init_623 : decode cX7_init 623 = .ok (.bipush 17, 2) := by decide +kernel
theorem dX7_init_625 : decode cX7_init 625 = .ok (.iastore, 1) := by decide +kernel
theorem dX7_init_626 : decode cX7_init 626 = .ok (.dup, 1) := by decide +kernel
theorem dX7_init_627 : decode cX7_init 627 = .ok (.bipush 90, 2) := by decide +kernel
theorem dX7_init_629 : decode cX7_init 629 = .ok (.iconst 0, 1) := by decide +kernel
theorem dX7_init_630 : decode cX7_init 630 = .ok (.iastore, 1) := by decide +kernel
theorem dX7_init_631 : decode cX7_init 631 = .ok (.dup, 1) := by decide +kernel
theorem dX7_init_632 : decode cX7_init 632 = .ok (.bipush 91, 2) := by decide +kernel
theorem dX7_init_634 : decode cX7_init 634 = .ok (.iconst 0, 1) := by decide +kernel
theorem dX7_init_635 : decode cX7_init 635 = .ok (.iastore, 1) := by decide +kernel
theorem dX7_init_636 : decode cX7_init 636 = .ok (.putfield 7, 3) := by decide +kernel
theorem dX7_init_639 : decode cX7_init 639 = .ok (.aload_n 0, 1) := by decide +kernel
theorem dX7_init_640 : decode cX7_init 640 = .ok (.bipush 30, 2) := by decide +kernel
theorem dX7_init_642 : decode cX7_init 642 = .ok (.newarray .int, 2) := by decide +kernel
theorem dX7_init_644 : decode cX7_init 644 = .ok (.putfield 13, 3) := by decide +kernel
theorem dX7_init_647 : decode cX7_init 647 = .ok (.aload_n 0, 1) := by decide +kernel
theorem dX7_init_648 : decode cX7_init 648 = .ok (.bipush 30, 2) := by decide +kernel
theorem dX7_init_650 : decode cX7_init 650 = .ok (.newarray .int, 2) := by decide +kernel
theorem dX7_init_652 : decode cX7_init 652 = .ok (.putfield 16, 3) := by decide +kernel
theorem dX7_init_655 : decode cX7_init 655 = .ok (.aload_n 0, 1) := by decide +kernel
theorem dX7_init_656 : decode cX7_init 656 = .ok (.sipush 600, 3) := by decide +kernel
theorem dX7_init_659 : decode cX7_init 659 = .ok (.newarray .int, 2) := by decide +kernel
theorem dX7_init_661 : decode cX7_init 661 = .ok (.putfield 19, 3) := by decide +kernel
theorem dX7_init_664 : decode cX7_init 664 = .ok (.aload_n 0, 1) := by decide +kernel
theorem dX7_init_665 : decode cX7_init 665 = .ok (.sipush 600, 3) := by decide +kernel
theorem dX7_init_668 : decode cX7_init 668 = .ok (.newarray .int, 2) := by decide +kernel
theorem dX7_init_670 : decode cX7_init 670 = .ok (.putfield 22, 3) := by decide +kernel
theorem dX7_init_673 : decode cX7_init 673 = .ok (.aload_n 0, 1) := by decide +kernel
theorem dX7_init_674 : decode cX7_init 674 = .ok (.sipush 2400, 3) := by decide +kernel
theorem dX7_init_677 : decode cX7_init 677 = .ok (.newarray .int, 2) := by decide +kernel
theorem dX7_init_679 : decode cX7_init 679 = .ok (.putfield 25, 3) := by decide +kernel
theorem dX7_init_682 : decode cX7_init 682 = .ok (.aload_n 0, 1) := by decide +kernel
theorem dX7_init_683 : decode cX7_init 683 = .ok (.bipush 60, 2) := by decide +kernel
theorem dX7_init_685 : decode cX7_init 685 = .ok (.newarray .boolean, 2) := by decide +kernel
theorem dX7_init_687 : decode cX7_init 687 = .ok (.putfield 28, 3) := by decide +kernel
theorem dX7_init_690 : decode cX7_init 690 = .ok (.aload_n 0, 1) := by decide +kernel
theorem dX7_init_691 : decode cX7_init 691 = .ok (.bipush 60, 2) := by decide +kernel
theorem dX7_init_693 : decode cX7_init 693 = .ok (.newarray .int, 2) := by decide +kernel
theorem dX7_init_695 : decode cX7_init 695 = .ok (.putfield 32, 3) := by decide +kernel
theorem dX7_init_698 : decode cX7_init 698 = .ok (.aload_n 0, 1) := by decide +kernel
theorem dX7_init_699 : decode cX7_init 699 = .ok (.bipush 60, 2) := by decide +kernel
theorem dX7_init_701 : decode cX7_init 701 = .ok (.newarray .int, 2) := by decide +kernel
theorem dX7_init_703 : decode cX7_init 703 = .ok (.putfield 35, 3) := by decide +kernel
theorem dX7_init_706 : decode cX7_init 706 = .ok (.aload_n 0, 1) := by decide +kernel
theorem dX7_init_707 : decode cX7_init 707 = .ok (.bipush 60, 2) := by decide +kernel
theorem dX7_init_709 : decode cX7_init 709 = .ok (.newarray .int, 2) := by decide +kernel
theorem dX7_init_711 : decode cX7_init 711 = .ok (.putfield 38, 3) := by decide +kernel
theorem dX7_init_714 : decode cX7_init 714 = .ok (.aload_n 0, 1) := by decide +kernel
theorem dX7_init_715 : decode cX7_init 715 = .ok (.bipush 60, 2) := by decide +kernel
theorem dX7_init_717 : decode cX7_init 717 = .ok (.newarray .int, 2) := by decide +kernel
theorem dX7_init_719 : decode cX7_init 719 = .ok (.putfield 41, 3) := by decide +kernel
theorem dX7_init_722 : decode cX7_init 722 = .ok (.aload_n 0, 1) := by decide +kernel
theorem dX7_init_723 : decode cX7_init 723 = .ok (.bipush 60, 2) := by decide +kernel
theorem dX7_init_725 : decode cX7_init 725 = .ok (.newarray .int, 2) := by decide +kernel
theorem dX7_init_727 : decode cX7_init 727 = .ok (.putfield 44, 3) := by decide +kernel
theorem dX7_init_730 : decode cX7_init 730 = .ok (.aload_n 0, 1) := by decide +kernel
theorem dX7_init_731 : decode cX7_init 731 = .ok (.bipush 24, 2) := by decide +kernel
theorem dX7_init_733 : decode cX7_init 733 = .ok (.newarray .boolean, 2) := by decide +kernel
theorem dX7_init_735 : decode cX7_init 735 = .ok (.putfield 47, 3) := by decide +kernel
theorem dX7_init_738 : decode cX7_init 738 = .ok (.aload_n 0, 1) := by decide +kernel
theorem dX7_init_739 : decode cX7_init 739 = .ok (.bipush 24, 2) := by decide +kernel
theorem dX7_init_741 : decode cX7_init 741 = .ok (.newarray .int, 2) := by decide +kernel
theorem dX7_init_743 : decode cX7_init 743 = .ok (.putfield 50, 3) := by decide +kernel
theorem dX7_init_746 : decode cX7_init 746 = .ok (.aload_n 0, 1) := by decide +kernel
theorem dX7_init_747 : decode cX7_init 747 = .ok (.bipush 6, 2) := by decide +kernel
theorem dX7_init_749 : decode cX7_init 749 = .ok (.newarray .int, 2) := by decide +kernel
theorem dX7_init_751 : decode cX7_init 751 = .ok (.putfield 53, 3) := by decide +kernel
theorem dX7_init_754 : decode cX7_init 754 = .ok (.aload_n 0, 1) := by decide +kernel
theorem dX7_init_755 : decode cX7_init 755 = .ok (.bipush 6, 2) := by decide +kernel
theorem dX7_init_757 : decode cX7_init 757 = .ok (.newarray .int, 2) := by decide +kernel
theorem dX7_init_759 : decode cX7_init 759 = .ok (.putfield 56, 3) := by decide +kernel
theorem dX7_init_762 : decode cX7_init 762 = .ok (.aload_n 0, 1) := by decide +kernel
theorem dX7_init_763 : decode cX7_init 763 = .ok (.bipush 6, 2) := by decide +kernel
theorem dX7_init_765 : decode cX7_init 765 = .ok (.newarray .int, 2) := by decide +kernel
theorem dX7_init_767 : decode cX7_init 767 = .ok (.putfield 59, 3) := by decide +kernel
theorem dX7_init_770 : decode cX7_init 770 = .ok (.bipush 6, 2) := by decide +kernel
theorem dX7_init_772 : decode cX7_init 772 = .ok (.istore_n 2, 1) := by decide +kernel
theorem dX7_init_773 : decode cX7_init 773 = .ok (.bipush 6, 2) := by decide +kernel
theorem dX7_init_775 : decode cX7_init 775 = .ok (.istore_n 3, 1) := by decide +kernel
theorem dX7_init_776 : decode cX7_init 776 = .ok (.iload_n 3, 1) := by decide +kernel
theorem dX7_init_777 : decode cX7_init 777 = .ok (.bipush 24, 2) := by decide +kernel
theorem dX7_init_779 : decode cX7_init 779 = .ok (.if_icmp .gt 82, 3) := by decide +kernel
theorem dX7_init_782 : decode cX7_init 782 = .ok (.iload_n 3, 1) := by decide +kernel
theorem dX7_init_783 : decode cX7_init 783 = .ok (.bipush 6, 2) := by decide +kernel
theorem dX7_init_785 : decode cX7_init 785 = .ok (.if_icmp .eq 51, 3) := by decide +kernel
theorem dX7_init_788 : decode cX7_init 788 = .ok (.iload_n 3, 1) := by decide +kernel
theorem dX7_init_789 : decode cX7_init 789 = .ok (.bipush 8, 2) := by decide +kernel
theorem dX7_init_791 : decode cX7_init 791 = .ok (.if_icmp .eq 45, 3) := by decide +kernel
theorem dX7_init_794 : decode cX7_init 794 = .ok (.iload_n 3, 1) := by decide +kernel
theorem dX7_init_795 : decode cX7_init 795 = .ok (.bipush 9, 2) := by decide +kernel
theorem dX7_init_797 : decode cX7_init 797 = .ok (.if_icmp .eq 39, 3) := by decide +kernel
theorem dX7_init_800 : decode cX7_init 800 = .ok (.iload_n 3, 1) := by decide +kernel
theorem dX7_init_801 : decode cX7_init 801 = .ok (.bipush 10, 2) := by decide +kernel
theorem dX7_init_803 : decode cX7_init 803 = .ok (.if_icmp .eq 33, 3) := by decide +kernel
theorem dX7_init_806 : decode cX7_init 806 = .ok (.iload_n 3, 1) := by decide +kernel
theorem dX7_init_807 : decode cX7_init 807 = .ok (.bipush 12, 2) := by decide +kernel
theorem dX7_init_809 : decode cX7_init 809 = .ok (.if_icmp .eq 27, 3) := by decide +kernel
theorem dX7_init_812 : decode cX7_init 812 = .ok (.iload_n 3, 1) := by decide +kernel
theorem dX7_init_813 : decode cX7_init 813 = .ok (.bipush 15, 2) := by decide +kernel
theorem dX7_init_815 : decode cX7_init 815 = .ok (.if_icmp .eq 21, 3) := by decide +kernel
theorem dX7_init_818 : decode cX7_init 818 = .ok (.iload_n 3, 1) := by decide +kernel
theorem dX7_init_819 : decode cX7_init 819 = .ok (.bipush 18, 2) := by decide +kernel
theorem dX7_init_821 : decode cX7_init 821 = .ok (.if_icmp .eq 15, 3) := by decide +kernel
theorem dX7_init_824 : decode cX7_init 824 = .ok (.iload_n 3, 1) := by decide +kernel
theorem dX7_init_825 : decode cX7_init 825 = .ok (.bipush 20, 2) := by decide +kernel
theorem dX7_init_827 : decode cX7_init 827 = .ok (.if_icmp .eq 9, 3) := by decide +kernel
theorem dX7_init_830 : decode cX7_init 830 = .ok (.iload_n 3, 1) := by decide +kernel
theorem dX7_init_831 : decode cX7_init 831 = .ok (.bipush 24, 2) := by decide +kernel
theorem dX7_init_833 : decode cX7_init 833 = .ok (.if_icmp .ne 7, 3) := by decide +kernel
theorem dX7_init_836 : decode cX7_init 836 = .ok (.iconst 1, 1) := by decide +kernel
theorem dX7_init_837 : decode cX7_init 837 = .ok (.goto 4, 3) := by decide +kernel
theorem dX7_init_840 : decode cX7_init 840 = .ok (.iconst 0, 1) := by decide +kernel
theorem dX7_init_841 : decode cX7_init 841 = .ok (.istore 4, 2) := by decide +kernel
theorem dX7_init_843 : decode cX7_init 843 = .ok (.iload 4, 2) := by decide +kernel
theorem dX7_init_845 : decode cX7_init 845 = .ok (.ifCond .eq 10, 3) := by decide +kernel
theorem dX7_init_848 : decode cX7_init 848 = .ok (.iload_n 3, 1) := by decide +kernel
theorem dX7_init_849 : decode cX7_init 849 = .ok (.iload_n 1, 1) := by decide +kernel
theorem dX7_init_850 : decode cX7_init 850 = .ok (.if_icmp .gt 5, 3) := by decide +kernel
theorem dX7_init_853 : decode cX7_init 853 = .ok (.iload_n 3, 1) := by decide +kernel
theorem dX7_init_854 : decode cX7_init 854 = .ok (.istore_n 2, 1) := by decide +kernel
theorem dX7_init_855 : decode cX7_init 855 = .ok (.iinc 3 1, 3) := by decide +kernel
theorem dX7_init_858 : decode cX7_init 858 = .ok (.goto (-82), 3) := by decide +kernel
theorem dX7_init_861 : decode cX7_init 861 = .ok (.aload_n 0, 1) := by decide +kernel
theorem dX7_init_862 : decode cX7_init 862 = .ok (.iload_n 2, 1) := by decide +kernel
theorem dX7_init_863 : decode cX7_init 863 = .ok (.putfield 62, 3) := by decide +kernel
theorem dX7_init_866 : decode cX7_init 866 = .ok (.aload_n 0, 1) := by decide +kernel
theorem dX7_init_867 : decode cX7_init 867 = .ok (.sipush 360, 3) := by decide +kernel
theorem dX7_init_870 : decode cX7_init 870 = .ok (.iload_n 2, 1) := by decide +kernel
theorem dX7_init_871 : decode cX7_init 871 = .ok (.idiv, 1) := by decide +kernel
theorem dX7_init_872 : decode cX7_init 872 = .ok (.putfield 66, 3) := by decide +kernel
theorem dX7_init_875 : decode cX7_init 875 = .ok (.iconst 0, 1) := by decide +kernel
theorem dX7_init_876 : decode cX7_init 876 = .ok (.istore_n 3, 1) := by decide +kernel
theorem dX7_init_877 : decode cX7_init 877 = .ok (.iload_n 3, 1) := by decide +kernel
theorem dX7_init_878 : decode cX7_init 878 = .ok (.aload_n 0, 1) := by decide +kernel
theorem dX7_init_879 : decode cX7_init 879 = .ok (.getfield 62, 3) := by decide +kernel
theorem dX7_init_882 : decode cX7_init 882 = .ok (.if_icmp .ge 16, 3) := by decide +kernel
theorem dX7_init_885 : decode cX7_init 885 = .ok (.aload_n 0, 1) := by decide +kernel
theorem dX7_init_886 : decode cX7_init 886 = .ok (.getfield 47, 3) := by decide +kernel
theorem dX7_init_889 : decode cX7_init 889 = .ok (.iload_n 3, 1) := by decide +kernel
theorem dX7_init_890 : decode cX7_init 890 = .ok (.iconst 1, 1) := by decide +kernel
theorem dX7_init_891 : decode cX7_init 891 = .ok (.bastore, 1) := by decide +kernel
theorem dX7_init_892 : decode cX7_init 892 = .ok (.iinc 3 1, 3) := by decide +kernel
theorem dX7_init_895 : decode cX7_init 895 = .ok (.goto (-18), 3) := by decide +kernel
theorem dX7_init_898 : decode cX7_init 898 = .ok (.return_, 1) := by decide +kernel
theorem dX7_in_0 : decode cX7_in 0 = .ok (.iload_n 0, 1) := by decide +kernel
theorem dX7_in_1 : decode cX7_in 1 = .ok (.iload_n 1, 1) := by decide +kernel
theorem dX7_in_2 : decode cX7_in 2 = .ok (.if_icmp .lt 12, 3) := by decide +kernel
theorem dX7_in_5 : decode cX7_in 5 = .ok (.iload_n 0, 1) := by decide +kernel
theorem dX7_in_6 : decode cX7_in 6 = .ok (.iload_n 2, 1) := by decide +kernel
theorem dX7_in_7 : decode cX7_in 7 = .ok (.if_icmp .gt 7, 3) := by decide +kernel
theorem dX7_in_10 : decode cX7_in 10 = .ok (.iconst 1, 1) := by decide +kernel
theorem dX7_in_11 : decode cX7_in 11 = .ok (.goto 4, 3) := by decide +kernel
theorem dX7_in_14 : decode cX7_in 14 = .ok (.iconst 0, 1) := by decide +kernel
theorem dX7_in_15 : decode cX7_in 15 = .ok (.ireturn, 1) := by decide +kernel
theorem dX7_isGore_0 : decode cX7_isGore 0 = .ok (.iload_n 1, 1) := by decide +kernel
theorem dX7_isGore_1 : decode cX7_isGore 1 = .ok (.iconst 0, 1) := by decide +kernel
theorem dX7_isGore_2 : decode cX7_isGore 2 = .ok (.aload_n 0, 1) := by decide +kernel
theorem dX7_isGore_3 : decode cX7_isGore 3 = .ok (.getfield 62, 3) := by decide +kernel
theorem dX7_isGore_6 : decode cX7_isGore 6 = .ok (.iconst 1, 1) := by decide +kernel
theorem dX7_isGore_7 : decode cX7_isGore 7 = .ok (.isub, 1) := by decide +kernel
theorem dX7_isGore_8 : decode cX7_isGore 8 = .ok (.invokestatic 69, 3) := by decide +kernel
theorem dX7_isGore_11 : decode cX7_isGore 11 = .ok (.ireturn, 1) := by decide +kernel
theorem dX7_round_0 : decode cX7_round 0 = .ok (.iconst 2, 1) := by decide +kernel
theorem dX7_round_1 : decode cX7_round 1 = .ok (.iload_n 0, 1) := by decide +kernel
theorem dX7_round_2 : decode cX7_round 2 = .ok (.imul, 1) := by decide +kernel
theorem dX7_round_3 : decode cX7_round 3 = .ok (.iload_n 1, 1) := by decide +kernel
theorem dX7_round_4 : decode cX7_round 4 = .ok (.iadd, 1) := by decide +kernel
theorem dX7_round_5 : decode cX7_round 5 = .ok (.istore_n 2, 1) := by decide +kernel
theorem dX7_round_6 : decode cX7_round 6 = .ok (.iconst 2, 1) := by decide +kernel
theorem dX7_round_7 : decode cX7_round 7 = .ok (.iload_n 1, 1) := by decide +kernel
theorem dX7_round_8 : decode cX7_round 8 = .ok (.imul, 1) := by decide +kernel
theorem dX7_round_9 : decode cX7_round 9 = .ok (.istore_n 3, 1) := by decide +kernel
theorem dX7_round_10 : decode cX7_round 10 = .ok (.iload_n 2, 1) := by decide +kernel
theorem dX7_round_11 : decode cX7_round 11 = .ok (.iload_n 3, 1) := by decide +kernel
theorem dX7_round_12 : decode cX7_round 12 = .ok (.idiv, 1) := by decide +kernel
theorem dX7_round_13 : decode cX7_round 13 = .ok (.istore 4, 2) := by decide +kernel
theorem dX7_round_15 : decode cX7_round 15 = .ok (.iload_n 2, 1) := by decide +kernel
theorem dX7_round_16 : decode cX7_round 16 = .ok (.iload_n 3, 1) := by decide +kernel
theorem dX7_round_17 : decode cX7_round 17 = .ok (.irem, 1) := by decide +kernel
theorem dX7_round_18 : decode cX7_round 18 = .ok (.ifCond .ge 10, 3) := by decide +kernel
theorem dX7_round_21 : decode cX7_round 21 = .ok (.iload 4, 2) := by decide +kernel
theorem dX7_round_23 : decode cX7_round 23 = .ok (.iconst 1, 1) := by decide +kernel
theorem dX7_round_24 : decode cX7_round 24 = .ok (.isub, 1) := by decide +kernel
theorem dX7_round_25 : decode cX7_round 25 = .ok (.goto 5, 3) := by decide +kernel
theorem dX7_round_28 : decode cX7_round 28 = .ok (.iload 4, 2) := by decide +kernel
theorem dX7_round_30 : decode cX7_round 30 = .ok (.ireturn, 1) := by decide +kernel
theorem dX7_narrowOf_0 : decode cX7_narrowOf 0 = .ok (.iload_n 1, 1) := by decide +kernel
theorem dX7_narrowOf_1 : decode cX7_narrowOf 1 = .ok (.ifCond .ge 8, 3) := by decide +kernel
theorem dX7_narrowOf_4 : decode cX7_narrowOf 4 = .ok (.iload_n 1, 1) := by decide +kernel
theorem dX7_narrowOf_5 : decode cX7_narrowOf 5 = .ok (.ineg, 1) := by decide +kernel
theorem dX7_narrowOf_6 : decode cX7_narrowOf 6 = .ok (.goto 4, 3) := by decide +kernel
theorem dX7_narrowOf_9 : decode cX7_narrowOf 9 = .ok (.iload_n 1, 1) := by decide +kernel
theorem dX7_narrowOf_10 : decode cX7_narrowOf 10 = .ok (.istore_n 2, 1) := by decide +kernel
theorem dX7_narrowOf_11 : decode cX7_narrowOf 11 = .ok (.aload_n 0, 1) := by decide +kernel
theorem dX7_narrowOf_12 : decode cX7_narrowOf 12 = .ok (.getfield 7, 3) := by decide +kernel
theorem dX7_narrowOf_15 : decode cX7_narrowOf 15 = .ok (.iload_n 2, 1) := by decide +kernel
theorem dX7_narrowOf_16 : decode cX7_narrowOf 16 = .ok (.bipush 60, 2) := by decide +kernel
theorem dX7_narrowOf_18 : decode cX7_narrowOf 18 = .ok (.idiv, 1) := by decide +kernel
theorem dX7_narrowOf_19 : decode cX7_narrowOf 19 = .ok (.iaload, 1) := by decide +kernel
theorem dX7_narrowOf_20 : decode cX7_narrowOf 20 = .ok (.bipush 60, 2) := by decide +kernel
theorem dX7_narrowOf_22 : decode cX7_narrowOf 22 = .ok (.iload_n 2, 1) := by decide +kernel
theorem dX7_narrowOf_23 : decode cX7_narrowOf 23 = .ok (.bipush 60, 2) := by decide +kernel
theorem dX7_narrowOf_25 : decode cX7_narrowOf 25 = .ok (.irem, 1) := by decide +kernel
theorem dX7_narrowOf_26 : decode cX7_narrowOf 26 = .ok (.isub, 1) := by decide +kernel
theorem dX7_narrowOf_27 : decode cX7_narrowOf 27 = .ok (.imul, 1) := by decide +kernel
theorem dX7_narrowOf_28 : decode cX7_narrowOf 28 = .ok (.aload_n 0, 1) := by decide +kernel
theorem dX7_narrowOf_29 : decode cX7_narrowOf 29 = .ok (.getfield 7, 3) := by decide +kernel
theorem dX7_narrowOf_32 : decode cX7_narrowOf 32 = .ok (.iload_n 2, 1) := by decide +kernel
theorem dX7_narrowOf_33 : decode cX7_narrowOf 33 = .ok (.bipush 60, 2) := by decide +kernel
theorem dX7_narrowOf_35 : decode cX7_narrowOf 35 = .ok (.idiv, 1) := by decide +kernel
theorem dX7_narrowOf_36 : decode cX7_narrowOf 36 = .ok (.iconst 1, 1) := by decide +kernel
theorem dX7_narrowOf_37 : decode cX7_narrowOf 37 = .ok (.iadd, 1) := by decide +kernel
theorem dX7_narrowOf_38 : decode cX7_narrowOf 38 = .ok (.iaload, 1) := by decide +kernel
theorem dX7_narrowOf_39 : decode cX7_narrowOf 39 = .ok (.iload_n 2, 1) := by decide +kernel
theorem dX7_narrowOf_40 : decode cX7_narrowOf 40 = .ok (.bipush 60, 2) := by decide +kernel
theorem dX7_narrowOf_42 : decode cX7_narrowOf 42 = .ok (.irem, 1) := by decide +kernel
theorem dX7_narrowOf_43 : decode cX7_narrowOf 43 = .ok (.imul, 1) := by decide +kernel
theorem dX7_narrowOf_44 : decode cX7_narrowOf 44 = .ok (.iadd, 1) := by decide +kernel
theorem dX7_narrowOf_45 : decode cX7_narrowOf 45 = .ok (.bipush 60, 2) := by decide +kernel
theorem dX7_narrowOf_47 : decode cX7_narrowOf 47 = .ok (.idiv, 1) := by decide +kernel
theorem dX7_narrowOf_48 : decode cX7_narrowOf 48 = .ok (.ireturn, 1) := by decide +kernel
theorem dX7_acrossOf_0 : decode cX7_acrossOf 0 = .ok (.bipush 30, 2) := by decide +kernel
theorem dX7_acrossOf_2 : decode cX7_acrossOf 2 = .ok (.iload_n 1, 1) := by decide +kernel
theorem dX7_acrossOf_3 : decode cX7_acrossOf 3 = .ok (.imul, 1) := by decide +kernel
theorem dX7_acrossOf_4 : decode cX7_acrossOf 4 = .ok (.aload_n 0, 1) := by decide +kernel
theorem dX7_acrossOf_5 : decode cX7_acrossOf 5 = .ok (.iload_n 2, 1) := by decide +kernel
theorem dX7_acrossOf_6 : decode cX7_acrossOf 6 = .ok (.invokevirtual 73, 3) := by decide +kernel
theorem dX7_acrossOf_9 : decode cX7_acrossOf 9 = .ok (.imul, 1) := by decide +kernel
theorem dX7_acrossOf_10 : decode cX7_acrossOf 10 = .ok (.sipush 1000, 3) := by decide +kernel
theorem dX7_acrossOf_13 : decode cX7_acrossOf 13 = .ok (.idiv, 1) := by decide +kernel
theorem dX7_acrossOf_14 : decode cX7_acrossOf 14 = .ok (.ireturn, 1) := by decide +kernel
theorem dX7_narrow_0 : decode cX7_narrow 0 = .ok (.iload_n 1, 1) := by decide +kernel
theorem dX7_narrow_1 : decode cX7_narrow 1 = .ok (.sipush (-5400), 3) := by decide +kernel
theorem dX7_narrow_4 : decode cX7_narrow 4 = .ok (.sipush 5400, 3) := by decide +kernel
theorem dX7_narrow_7 : decode cX7_narrow 7 = .ok (.invokestatic 69, 3) := by decide +kernel
theorem dX7_narrow_10 : decode cX7_narrow 10 = .ok (.ifCond .eq 11, 3) := by decide +kernel
theorem dX7_narrow_13 : decode cX7_narrow 13 = .ok (.aload_n 0, 1) := by decide +kernel
theorem dX7_narrow_14 : decode cX7_narrow 14 = .ok (.iload_n 1, 1) := by decide +kernel
theorem dX7_narrow_15 : decode cX7_narrow 15 = .ok (.invokevirtual 73, 3) := by decide +kernel
theorem dX7_narrow_18 : decode cX7_narrow 18 = .ok (.goto 4, 3) := by decide +kernel
theorem dX7_narrow_21 : decode cX7_narrow 21 = .ok (.iconst (-1), 1) := by decide +kernel
theorem dX7_narrow_22 : decode cX7_narrow 22 = .ok (.ireturn, 1) := by decide +kernel
theorem dX7_across_0 : decode cX7_across 0 = .ok (.iload_n 1, 1) := by decide +kernel
theorem dX7_across_1 : decode cX7_across 1 = .ok (.aload_n 0, 1) := by decide +kernel
theorem dX7_across_2 : decode cX7_across 2 = .ok (.getfield 66, 3) := by decide +kernel
theorem dX7_across_5 : decode cX7_across 5 = .ok (.ineg, 1) := by decide +kernel
theorem dX7_across_6 : decode cX7_across 6 = .ok (.aload_n 0, 1) := by decide +kernel
theorem dX7_across_7 : decode cX7_across 7 = .ok (.getfield 66, 3) := by decide +kernel
theorem dX7_across_10 : decode cX7_across 10 = .ok (.invokestatic 69, 3) := by decide +kernel
theorem dX7_across_13 : decode cX7_across 13 = .ok (.ifCond .eq 25, 3) := by decide +kernel
theorem dX7_across_16 : decode cX7_across 16 = .ok (.iload_n 2, 1) := by decide +kernel
theorem dX7_across_17 : decode cX7_across 17 = .ok (.sipush (-5400), 3) := by decide +kernel
theorem dX7_across_20 : decode cX7_across 20 = .ok (.sipush 5400, 3) := by decide +kernel
theorem dX7_across_23 : decode cX7_across 23 = .ok (.invokestatic 69, 3) := by decide +kernel
theorem dX7_across_26 : decode cX7_across 26 = .ok (.ifCond .eq 12, 3) := by decide +kernel
theorem dX7_across_29 : decode cX7_across 29 = .ok (.aload_n 0, 1) := by decide +kernel
theorem dX7_across_30 : decode cX7_across 30 = .ok (.iload_n 1, 1) := by decide +kernel
theorem dX7_across_31 : decode cX7_across 31 = .ok (.iload_n 2, 1) := by decide +kernel
theorem dX7_across_32 : decode cX7_across 32 = .ok (.invokevirtual 77, 3) := by decide +kernel
theorem dX7_across_35 : decode cX7_across 35 = .ok (.goto 5, 3) := by decide +kernel
theorem dX7_across_38 : decode cX7_across 38 = .ok (.ldc 81, 2) := by decide +kernel
theorem dX7_across_40 : decode cX7_across 40 = .ok (.ireturn, 1) := by decide +kernel
theorem dX7_isPlace_0 : decode cX7_isPlace 0 = .ok (.iload_n 0, 1) := by decide +kernel
theorem dX7_isPlace_1 : decode cX7_isPlace 1 = .ok (.iconst 0, 1) := by decide +kernel
theorem dX7_isPlace_2 : decode cX7_isPlace 2 = .ok (.sipush 359, 3) := by decide +kernel
theorem dX7_isPlace_5 : decode cX7_isPlace 5 = .ok (.invokestatic 69, 3) := by decide +kernel
theorem dX7_isPlace_8 : decode cX7_isPlace 8 = .ok (.ifCond .eq 18, 3) := by decide +kernel
theorem dX7_isPlace_11 : decode cX7_isPlace 11 = .ok (.iload_n 1, 1) := by decide +kernel
theorem dX7_isPlace_12 : decode cX7_isPlace 12 = .ok (.bipush (-90), 2) := by decide +kernel
theorem dX7_isPlace_14 : decode cX7_isPlace 14 = .ok (.bipush 90, 2) := by decide +kernel
theorem dX7_isPlace_16 : decode cX7_isPlace 16 = .ok (.invokestatic 69, 3) := by decide +kernel
theorem dX7_isPlace_19 : decode cX7_isPlace 19 = .ok (.ifCond .eq 7, 3) := by decide +kernel
theorem dX7_isPlace_22 : decode cX7_isPlace 22 = .ok (.iconst 1, 1) := by decide +kernel
theorem dX7_isPlace_23 : decode cX7_isPlace 23 = .ok (.goto 4, 3) := by decide +kernel
theorem dX7_isPlace_26 : decode cX7_isPlace 26 = .ok (.iconst 0, 1) := by decide +kernel
theorem dX7_isPlace_27 : decode cX7_isPlace 27 = .ok (.ireturn, 1) := by decide +kernel
theorem dX7_coast_0 : decode cX7_coast 0 = .ok (.iload_n 1, 1) := by decide +kernel
theorem dX7_coast_1 : decode cX7_coast 1 = .ok (.iload_n 2, 1) := by decide +kernel
theorem dX7_coast_2 : decode cX7_coast 2 = .ok (.invokestatic 82, 3) := by decide +kernel
theorem dX7_coast_5 : decode cX7_coast 5 = .ok (.ifCond .eq 12, 3) := by decide +kernel
theorem dX7_coast_8 : decode cX7_coast 8 = .ok (.aload_n 0, 1) := by decide +kernel
theorem dX7_coast_9 : decode cX7_coast 9 = .ok (.getfield 86, 3) := by decide +kernel
theorem dX7_coast_12 : decode cX7_coast 12 = .ok (.bipush 30, 2) := by decide +kernel
theorem dX7_coast_14 : decode cX7_coast 14 = .ok (.if_icmp .ne 5, 3) := by decide +kernel
theorem dX7_coast_17 : decode cX7_coast 17 = .ok (.iconst (-1), 1) := by decide +kernel
theorem dX7_coast_18 : decode cX7_coast 18 = .ok (.ireturn, 1) := by decide +kernel
theorem dX7_coast_19 : decode cX7_coast 19 = .ok (.aload_n 0, 1) := by decide +kernel
theorem dX7_coast_20 : decode cX7_coast 20 = .ok (.getfield 13, 3) := by decide +kernel
theorem dX7_coast_23 : decode cX7_coast 23 = .ok (.aload_n 0, 1) := by decide +kernel
theorem dX7_coast_24 : decode cX7_coast 24 = .ok (.getfield 86, 3) := by decide +kernel
theorem dX7_coast_27 : decode cX7_coast 27 = .ok (.iload_n 1, 1) := by decide +kernel
theorem dX7_coast_28 : decode cX7_coast 28 = .ok (.iastore, 1) := by decide +kernel
theorem dX7_coast_29 : decode cX7_coast 29 = .ok (.aload_n 0, 1) := by decide +kernel
theorem dX7_coast_30 : decode cX7_coast 30 = .ok (.getfield 16, 3) := by decide +kernel
theorem dX7_coast_33 : decode cX7_coast 33 = .ok (.aload_n 0, 1) := by decide +kernel
theorem dX7_coast_34 : decode cX7_coast 34 = .ok (.getfield 86, 3) := by decide +kernel
theorem dX7_coast_37 : decode cX7_coast 37 = .ok (.bipush 60, 2) := by decide +kernel
theorem dX7_coast_39 : decode cX7_coast 39 = .ok (.iload_n 2, 1) := by decide +kernel
theorem dX7_coast_40 : decode cX7_coast 40 = .ok (.imul, 1) := by decide +kernel
theorem dX7_coast_41 : decode cX7_coast 41 = .ok (.iastore, 1) := by decide +kernel
theorem dX7_coast_42 : decode cX7_coast 42 = .ok (.aload_n 0, 1) := by decide +kernel
theorem dX7_coast_43 : decode cX7_coast 43 = .ok (.dup, 1) := by decide +kernel
theorem dX7_coast_44 : decode cX7_coast 44 = .ok (.getfield 86, 3) := by decide +kernel
theorem dX7_coast_47 : decode cX7_coast 47 = .ok (.iconst 1, 1) := by decide +kernel
theorem dX7_coast_48 : decode cX7_coast 48 = .ok (.iadd, 1) := by decide +kernel
theorem dX7_coast_49 : decode cX7_coast 49 = .ok (.putfield 86, 3) := by decide +kernel
theorem dX7_coast_52 : decode cX7_coast 52 = .ok (.aload_n 0, 1) := by decide +kernel
theorem dX7_coast_53 : decode cX7_coast 53 = .ok (.getfield 86, 3) := by decide +kernel
theorem dX7_coast_56 : decode cX7_coast 56 = .ok (.iconst 1, 1) := by decide +kernel
theorem dX7_coast_57 : decode cX7_coast 57 = .ok (.isub, 1) := by decide +kernel
theorem dX7_coast_58 : decode cX7_coast 58 = .ok (.ireturn, 1) := by decide +kernel
theorem dX7_heightAt_0 : decode cX7_heightAt 0 = .ok (.iload_n 2, 1) := by decide +kernel
theorem dX7_heightAt_1 : decode cX7_heightAt 1 = .ok (.ifCond .ne 7, 3) := by decide +kernel
theorem dX7_heightAt_4 : decode cX7_heightAt 4 = .ok (.iload_n 0, 1) := by decide +kernel
theorem dX7_heightAt_5 : decode cX7_heightAt 5 = .ok (.goto 14, 3) := by decide +kernel
theorem dX7_heightAt_8 : decode cX7_heightAt 8 = .ok (.iload_n 0, 1) := by decide +kernel
theorem dX7_heightAt_9 : decode cX7_heightAt 9 = .ok (.iload_n 1, 1) := by decide +kernel
theorem dX7_heightAt_10 : decode cX7_heightAt 10 = .ok (.iload_n 0, 1) := by decide +kernel
theorem dX7_heightAt_11 : decode cX7_heightAt 11 = .ok (.isub, 1) := by decide +kernel
theorem dX7_heightAt_12 : decode cX7_heightAt 12 = .ok (.iload_n 2, 1) := by decide +kernel
theorem dX7_heightAt_13 : decode cX7_heightAt 13 = .ok (.imul, 1) := by decide +kernel
theorem dX7_heightAt_14 : decode cX7_heightAt 14 = .ok (.iload_n 3, 1) := by decide +kernel
theorem dX7_heightAt_15 : decode cX7_heightAt 15 = .ok (.invokestatic 89, 3) := by decide +kernel
theorem dX7_heightAt_18 : decode cX7_heightAt 18 = .ok (.iadd, 1) := by decide +kernel
theorem dX7_heightAt_19 : decode cX7_heightAt 19 = .ok (.ireturn, 1) := by decide +kernel
theorem dX7_adds_0 : decode cX7_adds 0 = .ok (.aload_n 0, 1) := by decide +kernel
theorem dX7_adds_1 : decode cX7_adds 1 = .ok (.getfield 19, 3) := by decide +kernel
theorem dX7_adds_4 : decode cX7_adds 4 = .ok (.aload_n 0, 1) := by decide +kernel
theorem dX7_adds_5 : decode cX7_adds 5 = .ok (.getfield 92, 3) := by decide +kernel
theorem dX7_adds_8 : decode cX7_adds 8 = .ok (.iload_n 1, 1) := by decide +kernel
theorem dX7_adds_9 : decode cX7_adds 9 = .ok (.iastore, 1) := by decide +kernel
theorem dX7_adds_10 : decode cX7_adds 10 = .ok (.aload_n 0, 1) := by decide +kernel
theorem dX7_adds_11 : decode cX7_adds 11 = .ok (.getfield 22, 3) := by decide +kernel
theorem dX7_adds_14 : decode cX7_adds 14 = .ok (.aload_n 0, 1) := by decide +kernel
theorem dX7_adds_15 : decode cX7_adds 15 = .ok (.getfield 92, 3) := by decide +kernel
theorem dX7_adds_18 : decode cX7_adds 18 = .ok (.iload_n 2, 1) := by decide +kernel
theorem dX7_adds_19 : decode cX7_adds 19 = .ok (.iastore, 1) := by decide +kernel
theorem dX7_adds_20 : decode cX7_adds 20 = .ok (.aload_n 0, 1) := by decide +kernel
theorem dX7_adds_21 : decode cX7_adds 21 = .ok (.getfield 25, 3) := by decide +kernel
theorem dX7_adds_24 : decode cX7_adds 24 = .ok (.iconst 4, 1) := by decide +kernel
theorem dX7_adds_25 : decode cX7_adds 25 = .ok (.aload_n 0, 1) := by decide +kernel
theorem dX7_adds_26 : decode cX7_adds 26 = .ok (.getfield 92, 3) := by decide +kernel
theorem dX7_adds_29 : decode cX7_adds 29 = .ok (.imul, 1) := by decide +kernel
theorem dX7_adds_30 : decode cX7_adds 30 = .ok (.iload_n 3, 1) := by decide +kernel
theorem dX7_adds_31 : decode cX7_adds 31 = .ok (.iastore, 1) := by decide +kernel
theorem dX7_adds_32 : decode cX7_adds 32 = .ok (.aload_n 0, 1) := by decide +kernel
theorem dX7_adds_33 : decode cX7_adds 33 = .ok (.getfield 25, 3) := by decide +kernel
theorem dX7_adds_36 : decode cX7_adds 36 = .ok (.iconst 4, 1) := by decide +kernel
end
section
theorem dX7_adds_37 : decode cX7_adds 37 = .ok (.aload_n 0, 1) := by decide +kernel
theorem dX7_adds_38 : decode cX7_adds 38 = .ok (.getfield 92, 3) := by decide +kernel
theorem dX7_adds_41 : decode cX7_adds 41 = .ok (.imul, 1) := by decide +kernel
theorem dX7_adds_42 : decode cX7_adds 42 = .ok (.iconst 1, 1) := by decide +kernel
theorem dX7_adds_43 : decode cX7_adds 43 = .ok (.iadd, 1) := by decide +kernel
theorem dX7_adds_44 : decode cX7_adds 44 = .ok (.iload 4, 2) := by decide +kernel
theorem dX7_adds_46 : decode cX7_adds 46 = .ok (.iastore, 1) := by decide +kernel
theorem dX7_adds_47 : decode cX7_adds 47 = .ok (.aload_n 0, 1) := by decide +kernel
theorem dX7_adds_48 : decode cX7_adds 48 = .ok (.getfield 25, 3) := by decide +kernel
theorem dX7_adds_51 : decode cX7_adds 51 = .ok (.iconst 4, 1) := by decide +kernel
theorem dX7_adds_52 : decode cX7_adds 52 = .ok (.aload_n 0, 1) := by decide +kernel
theorem dX7_adds_53 : decode cX7_adds 53 = .ok (.getfield 92, 3) := by decide +kernel
theorem dX7_adds_56 : decode cX7_adds 56 = .ok (.imul, 1) := by decide +kernel
theorem dX7_adds_57 : decode cX7_adds 57 = .ok (.iconst 2, 1) := by decide +kernel
theorem dX7_adds_58 : decode cX7_adds 58 = .ok (.iadd, 1) := by decide +kernel
theorem dX7_adds_59 : decode cX7_adds 59 = .ok (.iload 5, 2) := by decide +kernel
theorem dX7_adds_61 : decode cX7_adds 61 = .ok (.iastore, 1) := by decide +kernel
theorem dX7_adds_62 : decode cX7_adds 62 = .ok (.aload_n 0, 1) := by decide +kernel
theorem dX7_adds_63 : decode cX7_adds 63 = .ok (.getfield 25, 3) := by decide +kernel
theorem dX7_adds_66 : decode cX7_adds 66 = .ok (.iconst 4, 1) := by decide +kernel
theorem dX7_adds_67 : decode cX7_adds 67 = .ok (.aload_n 0, 1) := by decide +kernel
theorem dX7_adds_68 : decode cX7_adds 68 = .ok (.getfield 92, 3) := by decide +kernel
theorem dX7_adds_71 : decode cX7_adds 71 = .ok (.imul, 1) := by decide +kernel
theorem dX7_adds_72 : decode cX7_adds 72 = .ok (.iconst 3, 1) := by decide +kernel
theorem dX7_adds_73 : decode cX7_adds 73 = .ok (.iadd, 1) := by decide +kernel
theorem dX7_adds_74 : decode cX7_adds 74 = .ok (.iload 6, 2) := by decide +kernel
theorem dX7_adds_76 : decode cX7_adds 76 = .ok (.iastore, 1) := by decide +kernel
theorem dX7_adds_77 : decode cX7_adds 77 = .ok (.aload_n 0, 1) := by decide +kernel
theorem dX7_adds_78 : decode cX7_adds 78 = .ok (.dup, 1) := by decide +kernel
theorem dX7_adds_79 : decode cX7_adds 79 = .ok (.getfield 92, 3) := by decide +kernel
theorem dX7_adds_82 : decode cX7_adds 82 = .ok (.iconst 1, 1) := by decide +kernel
theorem dX7_adds_83 : decode cX7_adds 83 = .ok (.iadd, 1) := by decide +kernel
theorem dX7_adds_84 : decode cX7_adds 84 = .ok (.putfield 92, 3) := by decide +kernel
theorem dX7_adds_87 : decode cX7_adds 87 = .ok (.aload_n 0, 1) := by decide +kernel
theorem dX7_adds_88 : decode cX7_adds 88 = .ok (.getfield 47, 3) := by decide +kernel
theorem dX7_adds_91 : decode cX7_adds 91 = .ok (.iload_n 1, 1) := by decide +kernel
theorem dX7_adds_92 : decode cX7_adds 92 = .ok (.iconst 1, 1) := by decide +kernel
theorem dX7_adds_93 : decode cX7_adds 93 = .ok (.bastore, 1) := by decide +kernel
theorem dX7_adds_94 : decode cX7_adds 94 = .ok (.return_, 1) := by decide +kernel
theorem dX7_isEdge_0 : decode cX7_isEdge 0 = .ok (.iload_n 1, 1) := by decide +kernel
theorem dX7_isEdge_1 : decode cX7_isEdge 1 = .ok (.aload_n 0, 1) := by decide +kernel
theorem dX7_isEdge_2 : decode cX7_isEdge 2 = .ok (.getfield 66, 3) := by decide +kernel
theorem dX7_isEdge_5 : decode cX7_isEdge 5 = .ok (.irem, 1) := by decide +kernel
theorem dX7_isEdge_6 : decode cX7_isEdge 6 = .ok (.ifCond .ne 7, 3) := by decide +kernel
theorem dX7_isEdge_9 : decode cX7_isEdge 9 = .ok (.iconst 1, 1) := by decide +kernel
theorem dX7_isEdge_10 : decode cX7_isEdge 10 = .ok (.goto 4, 3) := by decide +kernel
theorem dX7_isEdge_13 : decode cX7_isEdge 13 = .ok (.iconst 0, 1) := by decide +kernel
theorem dX7_isEdge_14 : decode cX7_isEdge 14 = .ok (.ireturn, 1) := by decide +kernel
theorem dX7_parts_0 : decode cX7_parts 0 = .ok (.iload_n 2, 1) := by decide +kernel
theorem dX7_parts_1 : decode cX7_parts 1 = .ok (.ifCond .ne 17, 3) := by decide +kernel
theorem dX7_parts_4 : decode cX7_parts 4 = .ok (.aload_n 0, 1) := by decide +kernel
theorem dX7_parts_5 : decode cX7_parts 5 = .ok (.iload_n 1, 1) := by decide +kernel
theorem dX7_parts_6 : decode cX7_parts 6 = .ok (.invokevirtual 95, 3) := by decide +kernel
theorem dX7_parts_9 : decode cX7_parts 9 = .ok (.ifCond .eq 7, 3) := by decide +kernel
theorem dX7_parts_12 : decode cX7_parts 12 = .ok (.iconst 2, 1) := by decide +kernel
theorem dX7_parts_13 : decode cX7_parts 13 = .ok (.goto 4, 3) := by decide +kernel
theorem dX7_parts_16 : decode cX7_parts 16 = .ok (.iconst 1, 1) := by decide +kernel
theorem dX7_parts_17 : decode cX7_parts 17 = .ok (.ireturn, 1) := by decide +kernel
theorem dX7_parts_18 : decode cX7_parts 18 = .ok (.iconst 1, 1) := by decide +kernel
theorem dX7_parts_19 : decode cX7_parts 19 = .ok (.istore_n 3, 1) := by decide +kernel
theorem dX7_parts_20 : decode cX7_parts 20 = .ok (.iload_n 2, 1) := by decide +kernel
theorem dX7_parts_21 : decode cX7_parts 21 = .ok (.ifCond .ge 8, 3) := by decide +kernel
theorem dX7_parts_24 : decode cX7_parts 24 = .ok (.iload_n 2, 1) := by decide +kernel
theorem dX7_parts_25 : decode cX7_parts 25 = .ok (.ineg, 1) := by decide +kernel
theorem dX7_parts_26 : decode cX7_parts 26 = .ok (.goto 4, 3) := by decide +kernel
theorem dX7_parts_29 : decode cX7_parts 29 = .ok (.iload_n 2, 1) := by decide +kernel
theorem dX7_parts_30 : decode cX7_parts 30 = .ok (.istore 4, 2) := by decide +kernel
theorem dX7_parts_32 : decode cX7_parts 32 = .ok (.iconst 1, 1) := by decide +kernel
theorem dX7_parts_33 : decode cX7_parts 33 = .ok (.istore 5, 2) := by decide +kernel
theorem dX7_parts_35 : decode cX7_parts 35 = .ok (.iload 5, 2) := by decide +kernel
theorem dX7_parts_37 : decode cX7_parts 37 = .ok (.iload 4, 2) := by decide +kernel
theorem dX7_parts_39 : decode cX7_parts 39 = .ok (.if_icmp .ge 46, 3) := by decide +kernel
theorem dX7_parts_42 : decode cX7_parts 42 = .ok (.iload_n 3, 1) := by decide +kernel
theorem dX7_parts_43 : decode cX7_parts 43 = .ok (.aload_n 0, 1) := by decide +kernel
theorem dX7_parts_44 : decode cX7_parts 44 = .ok (.iload_n 1, 1) := by decide +kernel
theorem dX7_parts_45 : decode cX7_parts 45 = .ok (.iload_n 2, 1) := by decide +kernel
theorem dX7_parts_46 : decode cX7_parts 46 = .ok (.ifCond .ge 9, 3) := by decide +kernel
theorem dX7_parts_49 : decode cX7_parts 49 = .ok (.iload 5, 2) := by decide +kernel
theorem dX7_parts_51 : decode cX7_parts 51 = .ok (.ineg, 1) := by decide +kernel
theorem dX7_parts_52 : decode cX7_parts 52 = .ok (.goto 5, 3) := by decide +kernel
theorem dX7_parts_55 : decode cX7_parts 55 = .ok (.iload 5, 2) := by decide +kernel
theorem dX7_parts_57 : decode cX7_parts 57 = .ok (.iadd, 1) := by decide +kernel
theorem dX7_parts_58 : decode cX7_parts 58 = .ok (.sipush 360, 3) := by decide +kernel
theorem dX7_parts_61 : decode cX7_parts 61 = .ok (.iadd, 1) := by decide +kernel
theorem dX7_parts_62 : decode cX7_parts 62 = .ok (.sipush 360, 3) := by decide +kernel
theorem dX7_parts_65 : decode cX7_parts 65 = .ok (.irem, 1) := by decide +kernel
theorem dX7_parts_66 : decode cX7_parts 66 = .ok (.invokevirtual 95, 3) := by decide +kernel
theorem dX7_parts_69 : decode cX7_parts 69 = .ok (.ifCond .eq 7, 3) := by decide +kernel
theorem dX7_parts_72 : decode cX7_parts 72 = .ok (.iconst 1, 1) := by decide +kernel
theorem dX7_parts_73 : decode cX7_parts 73 = .ok (.goto 4, 3) := by decide +kernel
theorem dX7_parts_76 : decode cX7_parts 76 = .ok (.iconst 0, 1) := by decide +kernel
theorem dX7_parts_77 : decode cX7_parts 77 = .ok (.iadd, 1) := by decide +kernel
theorem dX7_parts_78 : decode cX7_parts 78 = .ok (.istore_n 3, 1) := by decide +kernel
theorem dX7_parts_79 : decode cX7_parts 79 = .ok (.iinc 5 1, 3) := by decide +kernel
theorem dX7_parts_82 : decode cX7_parts 82 = .ok (.goto (-47), 3) := by decide +kernel
theorem dX7_parts_85 : decode cX7_parts 85 = .ok (.iload_n 3, 1) := by decide +kernel
theorem dX7_parts_86 : decode cX7_parts 86 = .ok (.ireturn, 1) := by decide +kernel
theorem dX7_to_0 : decode cX7_to 0 = .ok (.iload_n 1, 1) := by decide +kernel
theorem dX7_to_1 : decode cX7_to 1 = .ok (.iconst 0, 1) := by decide +kernel
theorem dX7_to_2 : decode cX7_to 2 = .ok (.aload_n 0, 1) := by decide +kernel
theorem dX7_to_3 : decode cX7_to 3 = .ok (.getfield 86, 3) := by decide +kernel
theorem dX7_to_6 : decode cX7_to 6 = .ok (.iconst 1, 1) := by decide +kernel
theorem dX7_to_7 : decode cX7_to 7 = .ok (.isub, 1) := by decide +kernel
theorem dX7_to_8 : decode cX7_to 8 = .ok (.invokestatic 69, 3) := by decide +kernel
theorem dX7_to_11 : decode cX7_to 11 = .ok (.ifCond .eq 11, 3) := by decide +kernel
theorem dX7_to_14 : decode cX7_to 14 = .ok (.iload_n 2, 1) := by decide +kernel
theorem dX7_to_15 : decode cX7_to 15 = .ok (.iload_n 3, 1) := by decide +kernel
theorem dX7_to_16 : decode cX7_to 16 = .ok (.invokestatic 82, 3) := by decide +kernel
theorem dX7_to_19 : decode cX7_to 19 = .ok (.ifCond .ne 5, 3) := by decide +kernel
theorem dX7_to_22 : decode cX7_to 22 = .ok (.iconst (-1), 1) := by decide +kernel
theorem dX7_to_23 : decode cX7_to 23 = .ok (.ireturn, 1) := by decide +kernel
theorem dX7_to_24 : decode cX7_to 24 = .ok (.aload_n 0, 1) := by decide +kernel
theorem dX7_to_25 : decode cX7_to 25 = .ok (.getfield 13, 3) := by decide +kernel
theorem dX7_to_28 : decode cX7_to 28 = .ok (.iload_n 1, 1) := by decide +kernel
theorem dX7_to_29 : decode cX7_to 29 = .ok (.iaload, 1) := by decide +kernel
theorem dX7_to_30 : decode cX7_to 30 = .ok (.istore 4, 2) := by decide +kernel
theorem dX7_to_32 : decode cX7_to 32 = .ok (.aload_n 0, 1) := by decide +kernel
theorem dX7_to_33 : decode cX7_to 33 = .ok (.getfield 16, 3) := by decide +kernel
theorem dX7_to_36 : decode cX7_to 36 = .ok (.iload_n 1, 1) := by decide +kernel
theorem dX7_to_37 : decode cX7_to 37 = .ok (.iaload, 1) := by decide +kernel
theorem dX7_to_38 : decode cX7_to 38 = .ok (.istore 5, 2) := by decide +kernel
theorem dX7_to_40 : decode cX7_to 40 = .ok (.bipush 60, 2) := by decide +kernel
theorem dX7_to_42 : decode cX7_to 42 = .ok (.iload_n 3, 1) := by decide +kernel
theorem dX7_to_43 : decode cX7_to 43 = .ok (.imul, 1) := by decide +kernel
theorem dX7_to_44 : decode cX7_to 44 = .ok (.istore 6, 2) := by decide +kernel
theorem dX7_to_46 : decode cX7_to 46 = .ok (.iload 4, 2) := by decide +kernel
theorem dX7_to_48 : decode cX7_to 48 = .ok (.iload_n 2, 1) := by decide +kernel
theorem dX7_to_49 : decode cX7_to 49 = .ok (.if_icmp .ne 12, 3) := by decide +kernel
theorem dX7_to_52 : decode cX7_to 52 = .ok (.iload 5, 2) := by decide +kernel
theorem dX7_to_54 : decode cX7_to 54 = .ok (.iload 6, 2) := by decide +kernel
theorem dX7_to_56 : decode cX7_to 56 = .ok (.if_icmp .ne 5, 3) := by decide +kernel
theorem dX7_to_59 : decode cX7_to 59 = .ok (.iconst (-1), 1) := by decide +kernel
theorem dX7_to_60 : decode cX7_to 60 = .ok (.ireturn, 1) := by decide +kernel
theorem dX7_to_61 : decode cX7_to 61 = .ok (.iload_n 2, 1) := by decide +kernel
theorem dX7_to_62 : decode cX7_to 62 = .ok (.iload 4, 2) := by decide +kernel
theorem dX7_to_64 : decode cX7_to 64 = .ok (.isub, 1) := by decide +kernel
theorem dX7_to_65 : decode cX7_to 65 = .ok (.sipush 540, 3) := by decide +kernel
theorem dX7_to_68 : decode cX7_to 68 = .ok (.iadd, 1) := by decide +kernel
theorem dX7_to_69 : decode cX7_to 69 = .ok (.sipush 360, 3) := by decide +kernel
theorem dX7_to_72 : decode cX7_to 72 = .ok (.irem, 1) := by decide +kernel
theorem dX7_to_73 : decode cX7_to 73 = .ok (.sipush 180, 3) := by decide +kernel
theorem dX7_to_76 : decode cX7_to 76 = .ok (.isub, 1) := by decide +kernel
theorem dX7_to_77 : decode cX7_to 77 = .ok (.istore 7, 2) := by decide +kernel
theorem dX7_to_79 : decode cX7_to 79 = .ok (.iload 7, 2) := by decide +kernel
theorem dX7_to_81 : decode cX7_to 81 = .ok (.sipush (-180), 3) := by decide +kernel
theorem dX7_to_84 : decode cX7_to 84 = .ok (.if_icmp .ne 5, 3) := by decide +kernel
theorem dX7_to_87 : decode cX7_to 87 = .ok (.iconst (-1), 1) := by decide +kernel
theorem dX7_to_88 : decode cX7_to 88 = .ok (.ireturn, 1) := by decide +kernel
theorem dX7_to_89 : decode cX7_to 89 = .ok (.aload_n 0, 1) := by decide +kernel
theorem dX7_to_90 : decode cX7_to 90 = .ok (.iload 4, 2) := by decide +kernel
theorem dX7_to_92 : decode cX7_to 92 = .ok (.iload 7, 2) := by decide +kernel
theorem dX7_to_94 : decode cX7_to 94 = .ok (.invokevirtual 99, 3) := by decide +kernel
theorem dX7_to_97 : decode cX7_to 97 = .ok (.istore 8, 2) := by decide +kernel
theorem dX7_to_99 : decode cX7_to 99 = .ok (.aload_n 0, 1) := by decide +kernel
theorem dX7_to_100 : decode cX7_to 100 = .ok (.getfield 92, 3) := by decide +kernel
theorem dX7_to_103 : decode cX7_to 103 = .ok (.iload 8, 2) := by decide +kernel
theorem dX7_to_105 : decode cX7_to 105 = .ok (.iadd, 1) := by decide +kernel
theorem dX7_to_106 : decode cX7_to 106 = .ok (.sipush 600, 3) := by decide +kernel
theorem dX7_to_109 : decode cX7_to 109 = .ok (.if_icmp .le 5, 3) := by decide +kernel
theorem dX7_to_112 : decode cX7_to 112 = .ok (.iconst (-1), 1) := by decide +kernel
theorem dX7_to_113 : decode cX7_to 113 = .ok (.ireturn, 1) := by decide +kernel
theorem dX7_to_114 : decode cX7_to 114 = .ok (.iload 7, 2) := by decide +kernel
theorem dX7_to_116 : decode cX7_to 116 = .ok (.ifCond .ne 17, 3) := by decide +kernel
theorem dX7_to_119 : decode cX7_to 119 = .ok (.aload_n 0, 1) := by decide +kernel
theorem dX7_to_120 : decode cX7_to 120 = .ok (.iload_n 1, 1) := by decide +kernel
theorem dX7_to_121 : decode cX7_to 121 = .ok (.iload 4, 2) := by decide +kernel
theorem dX7_to_123 : decode cX7_to 123 = .ok (.iload 5, 2) := by decide +kernel
theorem dX7_to_125 : decode cX7_to 125 = .ok (.iload 6, 2) := by decide +kernel
theorem dX7_to_127 : decode cX7_to 127 = .ok (.invokevirtual 102, 3) := by decide +kernel
theorem dX7_to_130 : decode cX7_to 130 = .ok (.goto 16, 3) := by decide +kernel
theorem dX7_to_133 : decode cX7_to 133 = .ok (.aload_n 0, 1) := by decide +kernel
theorem dX7_to_134 : decode cX7_to 134 = .ok (.iload_n 1, 1) := by decide +kernel
theorem dX7_to_135 : decode cX7_to 135 = .ok (.iload 4, 2) := by decide +kernel
theorem dX7_to_137 : decode cX7_to 137 = .ok (.iload 5, 2) := by decide +kernel
theorem dX7_to_139 : decode cX7_to 139 = .ok (.iload 6, 2) := by decide +kernel
theorem dX7_to_141 : decode cX7_to 141 = .ok (.iload 7, 2) := by decide +kernel
theorem dX7_to_143 : decode cX7_to 143 = .ok (.invokevirtual 106, 3) := by decide +kernel
theorem dX7_to_146 : decode cX7_to 146 = .ok (.aload_n 0, 1) := by decide +kernel
theorem dX7_to_147 : decode cX7_to 147 = .ok (.getfield 13, 3) := by decide +kernel
theorem dX7_to_150 : decode cX7_to 150 = .ok (.iload_n 1, 1) := by decide +kernel
theorem dX7_to_151 : decode cX7_to 151 = .ok (.iload_n 2, 1) := by decide +kernel
theorem dX7_to_152 : decode cX7_to 152 = .ok (.iastore, 1) := by decide +kernel
theorem dX7_to_153 : decode cX7_to 153 = .ok (.aload_n 0, 1) := by decide +kernel
theorem dX7_to_154 : decode cX7_to 154 = .ok (.getfield 16, 3) := by decide +kernel
theorem dX7_to_157 : decode cX7_to 157 = .ok (.iload_n 1, 1) := by decide +kernel
theorem dX7_to_158 : decode cX7_to 158 = .ok (.iload 6, 2) := by decide +kernel
theorem dX7_to_160 : decode cX7_to 160 = .ok (.iastore, 1) := by decide +kernel
theorem dX7_to_161 : decode cX7_to 161 = .ok (.iload 8, 2) := by decide +kernel
theorem dX7_to_163 : decode cX7_to 163 = .ok (.ireturn, 1) := by decide +kernel
theorem dX7_stays_0 : decode cX7_stays 0 = .ok (.iload_n 2, 1) := by decide +kernel
theorem dX7_stays_1 : decode cX7_stays 1 = .ok (.aload_n 0, 1) := by decide +kernel
theorem dX7_stays_2 : decode cX7_stays 2 = .ok (.getfield 66, 3) := by decide +kernel
theorem dX7_stays_5 : decode cX7_stays 5 = .ok (.idiv, 1) := by decide +kernel
theorem dX7_stays_6 : decode cX7_stays 6 = .ok (.istore 5, 2) := by decide +kernel
theorem dX7_stays_8 : decode cX7_stays 8 = .ok (.iconst 2, 1) := by decide +kernel
theorem dX7_stays_9 : decode cX7_stays 9 = .ok (.iload_n 2, 1) := by decide +kernel
theorem dX7_stays_10 : decode cX7_stays 10 = .ok (.iload 5, 2) := by decide +kernel
theorem dX7_stays_12 : decode cX7_stays 12 = .ok (.aload_n 0, 1) := by decide +kernel
theorem dX7_stays_13 : decode cX7_stays 13 = .ok (.getfield 66, 3) := by decide +kernel
theorem dX7_stays_16 : decode cX7_stays 16 = .ok (.imul, 1) := by decide +kernel
theorem dX7_stays_17 : decode cX7_stays 17 = .ok (.isub, 1) := by decide +kernel
theorem dX7_stays_18 : decode cX7_stays 18 = .ok (.imul, 1) := by decide +kernel
theorem dX7_stays_19 : decode cX7_stays 19 = .ok (.aload_n 0, 1) := by decide +kernel
theorem dX7_stays_20 : decode cX7_stays 20 = .ok (.getfield 66, 3) := by decide +kernel
theorem dX7_stays_23 : decode cX7_stays 23 = .ok (.isub, 1) := by decide +kernel
theorem dX7_stays_24 : decode cX7_stays 24 = .ok (.istore 6, 2) := by decide +kernel
theorem dX7_stays_26 : decode cX7_stays 26 = .ok (.aload_n 0, 1) := by decide +kernel
theorem dX7_stays_27 : decode cX7_stays 27 = .ok (.iload 5, 2) := by decide +kernel
theorem dX7_stays_29 : decode cX7_stays 29 = .ok (.iload_n 1, 1) := by decide +kernel
theorem dX7_stays_30 : decode cX7_stays 30 = .ok (.iload 6, 2) := by decide +kernel
theorem dX7_stays_32 : decode cX7_stays 32 = .ok (.iload_n 3, 1) := by decide +kernel
theorem dX7_stays_33 : decode cX7_stays 33 = .ok (.iload 6, 2) := by decide +kernel
theorem dX7_stays_35 : decode cX7_stays 35 = .ok (.iload 4, 2) := by decide +kernel
theorem dX7_stays_37 : decode cX7_stays 37 = .ok (.invokevirtual 110, 3) := by decide +kernel
theorem dX7_stays_40 : decode cX7_stays 40 = .ok (.aload_n 0, 1) := by decide +kernel
theorem dX7_stays_41 : decode cX7_stays 41 = .ok (.iload_n 2, 1) := by decide +kernel
theorem dX7_stays_42 : decode cX7_stays 42 = .ok (.invokevirtual 95, 3) := by decide +kernel
theorem dX7_stays_45 : decode cX7_stays 45 = .ok (.ifCond .eq 33, 3) := by decide +kernel
theorem dX7_stays_48 : decode cX7_stays 48 = .ok (.aload_n 0, 1) := by decide +kernel
theorem dX7_stays_49 : decode cX7_stays 49 = .ok (.iload 5, 2) := by decide +kernel
theorem dX7_stays_51 : decode cX7_stays 51 = .ok (.aload_n 0, 1) := by decide +kernel
theorem dX7_stays_52 : decode cX7_stays 52 = .ok (.getfield 62, 3) := by decide +kernel
theorem dX7_stays_55 : decode cX7_stays 55 = .ok (.iadd, 1) := by decide +kernel
theorem dX7_stays_56 : decode cX7_stays 56 = .ok (.iconst 1, 1) := by decide +kernel
theorem dX7_stays_57 : decode cX7_stays 57 = .ok (.isub, 1) := by decide +kernel
theorem dX7_stays_58 : decode cX7_stays 58 = .ok (.aload_n 0, 1) := by decide +kernel
theorem dX7_stays_59 : decode cX7_stays 59 = .ok (.getfield 62, 3) := by decide +kernel
theorem dX7_stays_62 : decode cX7_stays 62 = .ok (.irem, 1) := by decide +kernel
theorem dX7_stays_63 : decode cX7_stays 63 = .ok (.iload_n 1, 1) := by decide +kernel
theorem dX7_stays_64 : decode cX7_stays 64 = .ok (.aload_n 0, 1) := by decide +kernel
theorem dX7_stays_65 : decode cX7_stays 65 = .ok (.getfield 66, 3) := by decide +kernel
theorem dX7_stays_68 : decode cX7_stays 68 = .ok (.iload_n 3, 1) := by decide +kernel
theorem dX7_stays_69 : decode cX7_stays 69 = .ok (.aload_n 0, 1) := by decide +kernel
theorem dX7_stays_70 : decode cX7_stays 70 = .ok (.getfield 66, 3) := by decide +kernel
theorem dX7_stays_73 : decode cX7_stays 73 = .ok (.iload 4, 2) := by decide +kernel
theorem dX7_stays_75 : decode cX7_stays 75 = .ok (.invokevirtual 110, 3) := by decide +kernel
theorem dX7_stays_78 : decode cX7_stays 78 = .ok (.return_, 1) := by decide +kernel
theorem dX7_goes_0 : decode cX7_goes 0 = .ok (.iload 5, 2) := by decide +kernel
theorem dX7_goes_2 : decode cX7_goes 2 = .ok (.ifCond .ge 9, 3) := by decide +kernel
theorem dX7_goes_5 : decode cX7_goes 5 = .ok (.iload 5, 2) := by decide +kernel
theorem dX7_goes_7 : decode cX7_goes 7 = .ok (.ineg, 1) := by decide +kernel
theorem dX7_goes_8 : decode cX7_goes 8 = .ok (.goto 5, 3) := by decide +kernel
theorem dX7_goes_11 : decode cX7_goes 11 = .ok (.iload 5, 2) := by decide +kernel
theorem dX7_goes_13 : decode cX7_goes 13 = .ok (.istore 6, 2) := by decide +kernel
theorem dX7_goes_15 : decode cX7_goes 15 = .ok (.iload 5, 2) := by decide +kernel
theorem dX7_goes_17 : decode cX7_goes 17 = .ok (.ifCond .ge 7, 3) := by decide +kernel
theorem dX7_goes_20 : decode cX7_goes 20 = .ok (.iconst (-1), 1) := by decide +kernel
theorem dX7_goes_21 : decode cX7_goes 21 = .ok (.goto 4, 3) := by decide +kernel
theorem dX7_goes_24 : decode cX7_goes 24 = .ok (.iconst 1, 1) := by decide +kernel
theorem dX7_goes_25 : decode cX7_goes 25 = .ok (.istore 7, 2) := by decide +kernel
theorem dX7_goes_27 : decode cX7_goes 27 = .ok (.iconst 0, 1) := by decide +kernel
theorem dX7_goes_28 : decode cX7_goes 28 = .ok (.istore 8, 2) := by decide +kernel
theorem dX7_goes_30 : decode cX7_goes 30 = .ok (.iconst 1, 1) := by decide +kernel
theorem dX7_goes_31 : decode cX7_goes 31 = .ok (.istore 9, 2) := by decide +kernel
theorem dX7_goes_33 : decode cX7_goes 33 = .ok (.iload 9, 2) := by decide +kernel
theorem dX7_goes_35 : decode cX7_goes 35 = .ok (.iload 6, 2) := by decide +kernel
theorem dX7_goes_37 : decode cX7_goes 37 = .ok (.if_icmp .gt 184, 3) := by decide +kernel
theorem dX7_goes_40 : decode cX7_goes 40 = .ok (.iload_n 2, 1) := by decide +kernel
theorem dX7_goes_41 : decode cX7_goes 41 = .ok (.iload 7, 2) := by decide +kernel
theorem dX7_goes_43 : decode cX7_goes 43 = .ok (.iload 9, 2) := by decide +kernel
theorem dX7_goes_45 : decode cX7_goes 45 = .ok (.imul, 1) := by decide +kernel
theorem dX7_goes_46 : decode cX7_goes 46 = .ok (.iadd, 1) := by decide +kernel
theorem dX7_goes_47 : decode cX7_goes 47 = .ok (.sipush 360, 3) := by decide +kernel
theorem dX7_goes_50 : decode cX7_goes 50 = .ok (.iadd, 1) := by decide +kernel
theorem dX7_goes_51 : decode cX7_goes 51 = .ok (.sipush 360, 3) := by decide +kernel
theorem dX7_goes_54 : decode cX7_goes 54 = .ok (.irem, 1) := by decide +kernel
theorem dX7_goes_55 : decode cX7_goes 55 = .ok (.istore 10, 2) := by decide +kernel
theorem dX7_goes_57 : decode cX7_goes 57 = .ok (.iload 9, 2) := by decide +kernel
theorem dX7_goes_59 : decode cX7_goes 59 = .ok (.iload 6, 2) := by decide +kernel
theorem dX7_goes_61 : decode cX7_goes 61 = .ok (.if_icmp .ge 15, 3) := by decide +kernel
theorem dX7_goes_64 : decode cX7_goes 64 = .ok (.aload_n 0, 1) := by decide +kernel
theorem dX7_goes_65 : decode cX7_goes 65 = .ok (.iload 10, 2) := by decide +kernel
theorem dX7_goes_67 : decode cX7_goes 67 = .ok (.invokevirtual 95, 3) := by decide +kernel
theorem dX7_goes_70 : decode cX7_goes 70 = .ok (.ifCond .ne 6, 3) := by decide +kernel
theorem dX7_goes_73 : decode cX7_goes 73 = .ok (.goto 142, 3) := by decide +kernel
theorem dX7_goes_76 : decode cX7_goes 76 = .ok (.iload_n 2, 1) := by decide +kernel
theorem dX7_goes_77 : decode cX7_goes 77 = .ok (.iload 7, 2) := by decide +kernel
theorem dX7_goes_79 : decode cX7_goes 79 = .ok (.iload 8, 2) := by decide +kernel
theorem dX7_goes_81 : decode cX7_goes 81 = .ok (.imul, 1) := by decide +kernel
theorem dX7_goes_82 : decode cX7_goes 82 = .ok (.iadd, 1) := by decide +kernel
theorem dX7_goes_83 : decode cX7_goes 83 = .ok (.sipush 360, 3) := by decide +kernel
theorem dX7_goes_86 : decode cX7_goes 86 = .ok (.iadd, 1) := by decide +kernel
theorem dX7_goes_87 : decode cX7_goes 87 = .ok (.sipush 360, 3) := by decide +kernel
theorem dX7_goes_90 : decode cX7_goes 90 = .ok (.irem, 1) := by decide +kernel
theorem dX7_goes_91 : decode cX7_goes 91 = .ok (.istore 11, 2) := by decide +kernel
theorem dX7_goes_93 : decode cX7_goes 93 = .ok (.iload 7, 2) := by decide +kernel
theorem dX7_goes_95 : decode cX7_goes 95 = .ok (.ifCond .le 13, 3) := by decide +kernel
theorem dX7_goes_98 : decode cX7_goes 98 = .ok (.iload 11, 2) := by decide +kernel
theorem dX7_goes_100 : decode cX7_goes 100 = .ok (.aload_n 0, 1) := by decide +kernel
theorem dX7_goes_101 : decode cX7_goes 101 = .ok (.getfield 66, 3) := by decide +kernel
theorem dX7_goes_104 : decode cX7_goes 104 = .ok (.idiv, 1) := by decide +kernel
theorem dX7_goes_105 : decode cX7_goes 105 = .ok (.goto 18, 3) := by decide +kernel
theorem dX7_goes_108 : decode cX7_goes 108 = .ok (.iload 11, 2) := by decide +kernel
theorem dX7_goes_110 : decode cX7_goes 110 = .ok (.sipush 359, 3) := by decide +kernel
theorem dX7_goes_113 : decode cX7_goes 113 = .ok (.iadd, 1) := by decide +kernel
theorem dX7_goes_114 : decode cX7_goes 114 = .ok (.sipush 360, 3) := by decide +kernel
theorem dX7_goes_117 : decode cX7_goes 117 = .ok (.irem, 1) := by decide +kernel
theorem dX7_goes_118 : decode cX7_goes 118 = .ok (.aload_n 0, 1) := by decide +kernel
theorem dX7_goes_119 : decode cX7_goes 119 = .ok (.getfield 66, 3) := by decide +kernel
theorem dX7_goes_122 : decode cX7_goes 122 = .ok (.idiv, 1) := by decide +kernel
theorem dX7_goes_123 : decode cX7_goes 123 = .ok (.istore 12, 2) := by decide +kernel
theorem dX7_goes_125 : decode cX7_goes 125 = .ok (.iload 7, 2) := by decide +kernel
theorem dX7_goes_127 : decode cX7_goes 127 = .ok (.ifCond .le 16, 3) := by decide +kernel
theorem dX7_goes_130 : decode cX7_goes 130 = .ok (.iload 11, 2) := by decide +kernel
theorem dX7_goes_132 : decode cX7_goes 132 = .ok (.iload 12, 2) := by decide +kernel
theorem dX7_goes_134 : decode cX7_goes 134 = .ok (.aload_n 0, 1) := by decide +kernel
theorem dX7_goes_135 : decode cX7_goes 135 = .ok (.getfield 66, 3) := by decide +kernel
theorem dX7_goes_138 : decode cX7_goes 138 = .ok (.imul, 1) := by decide +kernel
theorem dX7_goes_139 : decode cX7_goes 139 = .ok (.isub, 1) := by decide +kernel
theorem dX7_goes_140 : decode cX7_goes 140 = .ok (.goto 11, 3) := by decide +kernel
theorem dX7_goes_143 : decode cX7_goes 143 = .ok (.aload_n 0, 1) := by decide +kernel
theorem dX7_goes_144 : decode cX7_goes 144 = .ok (.iload 11, 2) := by decide +kernel
theorem dX7_goes_146 : decode cX7_goes 146 = .ok (.iload 12, 2) := by decide +kernel
theorem dX7_goes_148 : decode cX7_goes 148 = .ok (.invokevirtual 114, 3) := by decide +kernel
theorem dX7_goes_151 : decode cX7_goes 151 = .ok (.istore 13, 2) := by decide +kernel
theorem dX7_goes_153 : decode cX7_goes 153 = .ok (.iload 13, 2) := by decide +kernel
theorem dX7_goes_155 : decode cX7_goes 155 = .ok (.iload 7, 2) := by decide +kernel
theorem dX7_goes_157 : decode cX7_goes 157 = .ok (.iload 9, 2) := by decide +kernel
theorem dX7_goes_159 : decode cX7_goes 159 = .ok (.iload 8, 2) := by decide +kernel
theorem dX7_goes_161 : decode cX7_goes 161 = .ok (.isub, 1) := by decide +kernel
theorem dX7_goes_162 : decode cX7_goes 162 = .ok (.imul, 1) := by decide +kernel
theorem dX7_goes_163 : decode cX7_goes 163 = .ok (.iadd, 1) := by decide +kernel
theorem dX7_goes_164 : decode cX7_goes 164 = .ok (.istore 14, 2) := by decide +kernel
theorem dX7_goes_166 : decode cX7_goes 166 = .ok (.aload_n 0, 1) := by decide +kernel
theorem dX7_goes_167 : decode cX7_goes 167 = .ok (.iload 12, 2) := by decide +kernel
theorem dX7_goes_169 : decode cX7_goes 169 = .ok (.iload_n 1, 1) := by decide +kernel
theorem dX7_goes_170 : decode cX7_goes 170 = .ok (.iconst 2, 1) := by decide +kernel
theorem dX7_goes_171 : decode cX7_goes 171 = .ok (.iload 13, 2) := by decide +kernel
theorem dX7_goes_173 : decode cX7_goes 173 = .ok (.imul, 1) := by decide +kernel
theorem dX7_goes_174 : decode cX7_goes 174 = .ok (.aload_n 0, 1) := by decide +kernel
theorem dX7_goes_175 : decode cX7_goes 175 = .ok (.getfield 66, 3) := by decide +kernel
theorem dX7_goes_178 : decode cX7_goes 178 = .ok (.isub, 1) := by decide +kernel
theorem dX7_goes_179 : decode cX7_goes 179 = .ok (.iload_n 3, 1) := by decide +kernel
theorem dX7_goes_180 : decode cX7_goes 180 = .ok (.iload 4, 2) := by decide +kernel
theorem dX7_goes_182 : decode cX7_goes 182 = .ok (.iload 8, 2) := by decide +kernel
theorem dX7_goes_184 : decode cX7_goes 184 = .ok (.iload 6, 2) := by decide +kernel
theorem dX7_goes_186 : decode cX7_goes 186 = .ok (.invokestatic 117, 3) := by decide +kernel
theorem dX7_goes_189 : decode cX7_goes 189 = .ok (.iconst 2, 1) := by decide +kernel
theorem dX7_goes_190 : decode cX7_goes 190 = .ok (.iload 14, 2) := by decide +kernel
theorem dX7_goes_192 : decode cX7_goes 192 = .ok (.imul, 1) := by decide +kernel
theorem dX7_goes_193 : decode cX7_goes 193 = .ok (.aload_n 0, 1) := by decide +kernel
theorem dX7_goes_194 : decode cX7_goes 194 = .ok (.getfield 66, 3) := by decide +kernel
theorem dX7_goes_197 : decode cX7_goes 197 = .ok (.isub, 1) := by decide +kernel
theorem dX7_goes_198 : decode cX7_goes 198 = .ok (.iload_n 3, 1) := by decide +kernel
theorem dX7_goes_199 : decode cX7_goes 199 = .ok (.iload 4, 2) := by decide +kernel
theorem dX7_goes_201 : decode cX7_goes 201 = .ok (.iload 9, 2) := by decide +kernel
theorem dX7_goes_203 : decode cX7_goes 203 = .ok (.iload 6, 2) := by decide +kernel
theorem dX7_goes_205 : decode cX7_goes 205 = .ok (.invokestatic 117, 3) := by decide +kernel
theorem dX7_goes_208 : decode cX7_goes 208 = .ok (.invokevirtual 110, 3) := by decide +kernel
theorem dX7_goes_211 : decode cX7_goes 211 = .ok (.iload 9, 2) := by decide +kernel
theorem dX7_goes_213 : decode cX7_goes 213 = .ok (.istore 8, 2) := by decide +kernel
theorem dX7_goes_215 : decode cX7_goes 215 = .ok (.iinc 9 1, 3) := by decide +kernel
theorem dX7_goes_218 : decode cX7_goes 218 = .ok (.goto (-185), 3) := by decide +kernel
theorem dX7_goes_221 : decode cX7_goes 221 = .ok (.return_, 1) := by decide +kernel
theorem dX7_sideWest_0 : decode cX7_sideWest 0 = .ok (.iload_n 1, 1) := by decide +kernel
theorem dX7_sideWest_1 : decode cX7_sideWest 1 = .ok (.iload_n 2, 1) := by decide +kernel
theorem dX7_sideWest_2 : decode cX7_sideWest 2 = .ok (.aload_n 0, 1) := by decide +kernel
theorem dX7_sideWest_3 : decode cX7_sideWest 3 = .ok (.getfield 66, 3) := by decide +kernel
theorem dX7_sideWest_6 : decode cX7_sideWest 6 = .ok (.imul, 1) := by decide +kernel
theorem dX7_sideWest_7 : decode cX7_sideWest 7 = .ok (.isub, 1) := by decide +kernel
theorem dX7_sideWest_8 : decode cX7_sideWest 8 = .ok (.sipush 360, 3) := by decide +kernel
theorem dX7_sideWest_11 : decode cX7_sideWest 11 = .ok (.iadd, 1) := by decide +kernel
theorem dX7_sideWest_12 : decode cX7_sideWest 12 = .ok (.sipush 360, 3) := by decide +kernel
theorem dX7_sideWest_15 : decode cX7_sideWest 15 = .ok (.irem, 1) := by decide +kernel
theorem dX7_sideWest_16 : decode cX7_sideWest 16 = .ok (.ireturn, 1) := by decide +kernel
theorem dX7_pieces_0 : decode cX7_pieces 0 = .ok (.aload_n 0, 1) := by decide +kernel
theorem dX7_pieces_1 : decode cX7_pieces 1 = .ok (.iload_n 1, 1) := by decide +kernel
theorem dX7_pieces_2 : decode cX7_pieces 2 = .ok (.invokevirtual 121, 3) := by decide +kernel
theorem dX7_pieces_5 : decode cX7_pieces 5 = .ok (.ifCond .ne 5, 3) := by decide +kernel
theorem dX7_pieces_8 : decode cX7_pieces 8 = .ok (.iconst (-1), 1) := by decide +kernel
theorem dX7_pieces_9 : decode cX7_pieces 9 = .ok (.ireturn, 1) := by decide +kernel
theorem dX7_pieces_10 : decode cX7_pieces 10 = .ok (.iconst 0, 1) := by decide +kernel
theorem dX7_pieces_11 : decode cX7_pieces 11 = .ok (.istore_n 2, 1) := by decide +kernel
theorem dX7_pieces_12 : decode cX7_pieces 12 = .ok (.iconst 0, 1) := by decide +kernel
theorem dX7_pieces_13 : decode cX7_pieces 13 = .ok (.istore_n 3, 1) := by decide +kernel
theorem dX7_pieces_14 : decode cX7_pieces 14 = .ok (.iload_n 3, 1) := by decide +kernel
theorem dX7_pieces_15 : decode cX7_pieces 15 = .ok (.aload_n 0, 1) := by decide +kernel
theorem dX7_pieces_16 : decode cX7_pieces 16 = .ok (.getfield 92, 3) := by decide +kernel
theorem dX7_pieces_19 : decode cX7_pieces 19 = .ok (.if_icmp .ge 27, 3) := by decide +kernel
theorem dX7_pieces_22 : decode cX7_pieces 22 = .ok (.iload_n 2, 1) := by decide +kernel
theorem dX7_pieces_23 : decode cX7_pieces 23 = .ok (.aload_n 0, 1) := by decide +kernel
theorem dX7_pieces_24 : decode cX7_pieces 24 = .ok (.getfield 19, 3) := by decide +kernel
theorem dX7_pieces_27 : decode cX7_pieces 27 = .ok (.iload_n 3, 1) := by decide +kernel
theorem dX7_pieces_28 : decode cX7_pieces 28 = .ok (.iaload, 1) := by decide +kernel
theorem dX7_pieces_29 : decode cX7_pieces 29 = .ok (.iload_n 1, 1) := by decide +kernel
theorem dX7_pieces_30 : decode cX7_pieces 30 = .ok (.if_icmp .ne 7, 3) := by decide +kernel
theorem dX7_pieces_33 : decode cX7_pieces 33 = .ok (.iconst 1, 1) := by decide +kernel
theorem dX7_pieces_34 : decode cX7_pieces 34 = .ok (.goto 4, 3) := by decide +kernel
theorem dX7_pieces_37 : decode cX7_pieces 37 = .ok (.iconst 0, 1) := by decide +kernel
theorem dX7_pieces_38 : decode cX7_pieces 38 = .ok (.iadd, 1) := by decide +kernel
theorem dX7_pieces_39 : decode cX7_pieces 39 = .ok (.istore_n 2, 1) := by decide +kernel
theorem dX7_pieces_40 : decode cX7_pieces 40 = .ok (.iinc 3 1, 3) := by decide +kernel
theorem dX7_pieces_43 : decode cX7_pieces 43 = .ok (.goto (-29), 3) := by decide +kernel
theorem dX7_pieces_46 : decode cX7_pieces 46 = .ok (.iload_n 2, 1) := by decide +kernel
theorem dX7_pieces_47 : decode cX7_pieces 47 = .ok (.ireturn, 1) := by decide +kernel
theorem dX7_piece_0 : decode cX7_piece 0 = .ok (.iload_n 3, 1) := by decide +kernel
theorem dX7_piece_1 : decode cX7_piece 1 = .ok (.iconst 0, 1) := by decide +kernel
theorem dX7_piece_2 : decode cX7_piece 2 = .ok (.iconst 4, 1) := by decide +kernel
theorem dX7_piece_3 : decode cX7_piece 3 = .ok (.invokestatic 69, 3) := by decide +kernel
theorem dX7_piece_6 : decode cX7_piece 6 = .ok (.ifCond .ne 5, 3) := by decide +kernel
theorem dX7_piece_9 : decode cX7_piece 9 = .ok (.iconst (-1), 1) := by decide +kernel
theorem dX7_piece_10 : decode cX7_piece 10 = .ok (.ireturn, 1) := by decide +kernel
theorem dX7_piece_11 : decode cX7_piece 11 = .ok (.iload_n 2, 1) := by decide +kernel
theorem dX7_piece_12 : decode cX7_piece 12 = .ok (.istore 4, 2) := by decide +kernel
theorem dX7_piece_14 : decode cX7_piece 14 = .ok (.iconst 0, 1) := by decide +kernel
theorem dX7_piece_15 : decode cX7_piece 15 = .ok (.istore 5, 2) := by decide +kernel
theorem dX7_piece_17 : decode cX7_piece 17 = .ok (.iload 5, 2) := by decide +kernel
theorem dX7_piece_19 : decode cX7_piece 19 = .ok (.aload_n 0, 1) := by decide +kernel
theorem dX7_piece_20 : decode cX7_piece 20 = .ok (.getfield 92, 3) := by decide +kernel
theorem dX7_piece_23 : decode cX7_piece 23 = .ok (.if_icmp .ge 63, 3) := by decide +kernel
theorem dX7_piece_26 : decode cX7_piece 26 = .ok (.iload_n 2, 1) := by decide +kernel
theorem dX7_piece_27 : decode cX7_piece 27 = .ok (.ifCond .lt 59, 3) := by decide +kernel
theorem dX7_piece_30 : decode cX7_piece 30 = .ok (.aload_n 0, 1) := by decide +kernel
theorem dX7_piece_31 : decode cX7_piece 31 = .ok (.getfield 19, 3) := by decide +kernel
theorem dX7_piece_34 : decode cX7_piece 34 = .ok (.iload 5, 2) := by decide +kernel
theorem dX7_piece_36 : decode cX7_piece 36 = .ok (.iaload, 1) := by decide +kernel
theorem dX7_piece_37 : decode cX7_piece 37 = .ok (.iload_n 1, 1) := by decide +kernel
theorem dX7_piece_38 : decode cX7_piece 38 = .ok (.if_icmp .eq 6, 3) := by decide +kernel
theorem dX7_piece_41 : decode cX7_piece 41 = .ok (.goto 39, 3) := by decide +kernel
theorem dX7_piece_44 : decode cX7_piece 44 = .ok (.iload 4, 2) := by decide +kernel
theorem dX7_piece_46 : decode cX7_piece 46 = .ok (.ifCond .ne 31, 3) := by decide +kernel
theorem dX7_piece_49 : decode cX7_piece 49 = .ok (.iload_n 3, 1) := by decide +kernel
theorem dX7_piece_50 : decode cX7_piece 50 = .ok (.ifCond .ne 13, 3) := by decide +kernel
theorem dX7_piece_53 : decode cX7_piece 53 = .ok (.aload_n 0, 1) := by decide +kernel
theorem dX7_piece_54 : decode cX7_piece 54 = .ok (.getfield 22, 3) := by decide +kernel
theorem dX7_piece_57 : decode cX7_piece 57 = .ok (.iload 5, 2) := by decide +kernel
theorem dX7_piece_59 : decode cX7_piece 59 = .ok (.iaload, 1) := by decide +kernel
theorem dX7_piece_60 : decode cX7_piece 60 = .ok (.goto 16, 3) := by decide +kernel
theorem dX7_piece_63 : decode cX7_piece 63 = .ok (.aload_n 0, 1) := by decide +kernel
theorem dX7_piece_64 : decode cX7_piece 64 = .ok (.getfield 25, 3) := by decide +kernel
theorem dX7_piece_67 : decode cX7_piece 67 = .ok (.iconst 4, 1) := by decide +kernel
theorem dX7_piece_68 : decode cX7_piece 68 = .ok (.iload 5, 2) := by decide +kernel
theorem dX7_piece_70 : decode cX7_piece 70 = .ok (.imul, 1) := by decide +kernel
theorem dX7_piece_71 : decode cX7_piece 71 = .ok (.iload_n 3, 1) := by decide +kernel
theorem dX7_piece_72 : decode cX7_piece 72 = .ok (.iadd, 1) := by decide +kernel
theorem dX7_piece_73 : decode cX7_piece 73 = .ok (.iconst 1, 1) := by decide +kernel
theorem dX7_piece_74 : decode cX7_piece 74 = .ok (.isub, 1) := by decide +kernel
theorem dX7_piece_75 : decode cX7_piece 75 = .ok (.iaload, 1) := by decide +kernel
theorem dX7_piece_76 : decode cX7_piece 76 = .ok (.ireturn, 1) := by decide +kernel
theorem dX7_piece_77 : decode cX7_piece 77 = .ok (.iinc 4 (-1), 3) := by decide +kernel
theorem dX7_piece_80 : decode cX7_piece 80 = .ok (.iinc 5 1, 3) := by decide +kernel
theorem dX7_piece_83 : decode cX7_piece 83 = .ok (.goto (-66), 3) := by decide +kernel
theorem dX7_piece_86 : decode cX7_piece 86 = .ok (.iload_n 3, 1) := by decide +kernel
theorem dX7_piece_87 : decode cX7_piece 87 = .ok (.ifCond .ne 7, 3) := by decide +kernel
theorem dX7_piece_90 : decode cX7_piece 90 = .ok (.iconst (-1), 1) := by decide +kernel
theorem dX7_piece_91 : decode cX7_piece 91 = .ok (.goto 5, 3) := by decide +kernel
theorem dX7_piece_94 : decode cX7_piece 94 = .ok (.ldc 81, 2) := by decide +kernel
theorem dX7_piece_96 : decode cX7_piece 96 = .ok (.ireturn, 1) := by decide +kernel
theorem dX7_paper_0 : decode cX7_paper 0 = .ok (.iload_n 1, 1) := by decide +kernel
theorem dX7_paper_1 : decode cX7_paper 1 = .ok (.iconst 0, 1) := by decide +kernel
theorem dX7_paper_2 : decode cX7_paper 2 = .ok (.bipush 50, 2) := by decide +kernel
theorem dX7_paper_4 : decode cX7_paper 4 = .ok (.invokestatic 69, 3) := by decide +kernel
theorem dX7_paper_7 : decode cX7_paper 7 = .ok (.ifCond .eq 29, 3) := by decide +kernel
theorem dX7_paper_10 : decode cX7_paper 10 = .ok (.iload_n 2, 1) := by decide +kernel
theorem dX7_paper_11 : decode cX7_paper 11 = .ok (.iconst 0, 1) := by decide +kernel
theorem dX7_paper_12 : decode cX7_paper 12 = .ok (.bipush 50, 2) := by decide +kernel
theorem dX7_paper_14 : decode cX7_paper 14 = .ok (.invokestatic 69, 3) := by decide +kernel
theorem dX7_paper_17 : decode cX7_paper 17 = .ok (.ifCond .eq 19, 3) := by decide +kernel
theorem dX7_paper_20 : decode cX7_paper 20 = .ok (.iload_n 1, 1) := by decide +kernel
theorem dX7_paper_21 : decode cX7_paper 21 = .ok (.aload_n 0, 1) := by decide +kernel
theorem dX7_paper_22 : decode cX7_paper 22 = .ok (.getfield 124, 3) := by decide +kernel
theorem dX7_paper_25 : decode cX7_paper 25 = .ok (.if_icmp .ne 13, 3) := by decide +kernel
theorem dX7_paper_28 : decode cX7_paper 28 = .ok (.iload_n 2, 1) := by decide +kernel
theorem dX7_paper_29 : decode cX7_paper 29 = .ok (.aload_n 0, 1) := by decide +kernel
theorem dX7_paper_30 : decode cX7_paper 30 = .ok (.getfield 127, 3) := by decide +kernel
theorem dX7_paper_33 : decode cX7_paper 33 = .ok (.if_icmp .ne 5, 3) := by decide +kernel
theorem dX7_paper_36 : decode cX7_paper 36 = .ok (.iconst 0, 1) := by decide +kernel
theorem dX7_paper_37 : decode cX7_paper 37 = .ok (.ireturn, 1) := by decide +kernel
theorem dX7_paper_38 : decode cX7_paper 38 = .ok (.aload_n 0, 1) := by decide +kernel
theorem dX7_paper_39 : decode cX7_paper 39 = .ok (.iload_n 1, 1) := by decide +kernel
theorem dX7_paper_40 : decode cX7_paper 40 = .ok (.putfield 124, 3) := by decide +kernel
theorem dX7_paper_43 : decode cX7_paper 43 = .ok (.aload_n 0, 1) := by decide +kernel
theorem dX7_paper_44 : decode cX7_paper 44 = .ok (.iload_n 2, 1) := by decide +kernel
theorem dX7_paper_45 : decode cX7_paper 45 = .ok (.putfield 127, 3) := by decide +kernel
theorem dX7_paper_48 : decode cX7_paper 48 = .ok (.iconst 0, 1) := by decide +kernel
theorem dX7_paper_49 : decode cX7_paper 49 = .ok (.istore_n 3, 1) := by decide +kernel
theorem dX7_paper_50 : decode cX7_paper 50 = .ok (.iload_n 3, 1) := by decide +kernel
theorem dX7_paper_51 : decode cX7_paper 51 = .ok (.aload_n 0, 1) := by decide +kernel
theorem dX7_paper_52 : decode cX7_paper 52 = .ok (.getfield 62, 3) := by decide +kernel
theorem dX7_paper_55 : decode cX7_paper 55 = .ok (.if_icmp .ge 16, 3) := by decide +kernel
theorem dX7_paper_58 : decode cX7_paper 58 = .ok (.aload_n 0, 1) := by decide +kernel
theorem dX7_paper_59 : decode cX7_paper 59 = .ok (.getfield 47, 3) := by decide +kernel
theorem dX7_paper_62 : decode cX7_paper 62 = .ok (.iload_n 3, 1) := by decide +kernel
theorem dX7_paper_63 : decode cX7_paper 63 = .ok (.iconst 1, 1) := by decide +kernel
theorem dX7_paper_64 : decode cX7_paper 64 = .ok (.bastore, 1) := by decide +kernel
theorem dX7_paper_65 : decode cX7_paper 65 = .ok (.iinc 3 1, 3) := by decide +kernel
theorem dX7_paper_68 : decode cX7_paper 68 = .ok (.goto (-18), 3) := by decide +kernel
theorem dX7_paper_71 : decode cX7_paper 71 = .ok (.iconst 1, 1) := by decide +kernel
theorem dX7_paper_72 : decode cX7_paper 72 = .ok (.ireturn, 1) := by decide +kernel
theorem dX7_grown_0 : decode cX7_grown 0 = .ok (.sipush 1000, 3) := by decide +kernel
theorem dX7_grown_3 : decode cX7_grown 3 = .ok (.iload_n 1, 1) := by decide +kernel
theorem dX7_grown_4 : decode cX7_grown 4 = .ok (.ifCond .ne 10, 3) := by decide +kernel
theorem dX7_grown_7 : decode cX7_grown 7 = .ok (.aload_n 0, 1) := by decide +kernel
theorem dX7_grown_8 : decode cX7_grown 8 = .ok (.getfield 124, 3) := by decide +kernel
theorem dX7_grown_11 : decode cX7_grown 11 = .ok (.goto 7, 3) := by decide +kernel
theorem dX7_grown_14 : decode cX7_grown 14 = .ok (.aload_n 0, 1) := by decide +kernel
theorem dX7_grown_15 : decode cX7_grown 15 = .ok (.getfield 127, 3) := by decide +kernel
theorem dX7_grown_18 : decode cX7_grown 18 = .ok (.iadd, 1) := by decide +kernel
theorem dX7_grown_19 : decode cX7_grown 19 = .ok (.ireturn, 1) := by decide +kernel
theorem dX7_drawn_0 : decode cX7_drawn 0 = .ok (.iload_n 2, 1) := by decide +kernel
theorem dX7_drawn_1 : decode cX7_drawn 1 = .ok (.iconst 0, 1) := by decide +kernel
theorem dX7_drawn_2 : decode cX7_drawn 2 = .ok (.iconst 1, 1) := by decide +kernel
theorem dX7_drawn_3 : decode cX7_drawn 3 = .ok (.invokestatic 69, 3) := by decide +kernel
theorem dX7_drawn_6 : decode cX7_drawn 6 = .ok (.ifCond .eq 32, 3) := by decide +kernel
theorem dX7_drawn_9 : decode cX7_drawn 9 = .ok (.iload_n 1, 1) := by decide +kernel
theorem dX7_drawn_10 : decode cX7_drawn 10 = .ok (.sipush (-10000), 3) := by decide +kernel
theorem dX7_drawn_13 : decode cX7_drawn 13 = .ok (.sipush 10000, 3) := by decide +kernel
theorem dX7_drawn_16 : decode cX7_drawn 16 = .ok (.invokestatic 69, 3) := by decide +kernel
theorem dX7_drawn_19 : decode cX7_drawn 19 = .ok (.ifCond .eq 19, 3) := by decide +kernel
theorem dX7_drawn_22 : decode cX7_drawn 22 = .ok (.sipush 1000, 3) := by decide +kernel
theorem dX7_drawn_25 : decode cX7_drawn 25 = .ok (.iload_n 1, 1) := by decide +kernel
theorem dX7_drawn_26 : decode cX7_drawn 26 = .ok (.imul, 1) := by decide +kernel
theorem dX7_drawn_27 : decode cX7_drawn 27 = .ok (.aload_n 0, 1) := by decide +kernel
theorem dX7_drawn_28 : decode cX7_drawn 28 = .ok (.iload_n 2, 1) := by decide +kernel
theorem dX7_drawn_29 : decode cX7_drawn 29 = .ok (.invokevirtual 130, 3) := by decide +kernel
theorem dX7_drawn_32 : decode cX7_drawn 32 = .ok (.invokestatic 89, 3) := by decide +kernel
theorem dX7_drawn_35 : decode cX7_drawn 35 = .ok (.goto 4, 3) := by decide +kernel
theorem dX7_drawn_38 : decode cX7_drawn 38 = .ok (.iconst (-1), 1) := by decide +kernel
theorem dX7_drawn_39 : decode cX7_drawn 39 = .ok (.ireturn, 1) := by decide +kernel
theorem dX7_wet_0 : decode cX7_wet 0 = .ok (.iload_n 2, 1) := by decide +kernel
theorem dX7_wet_1 : decode cX7_wet 1 = .ok (.iconst 0, 1) := by decide +kernel
theorem dX7_wet_2 : decode cX7_wet 2 = .ok (.iconst 1, 1) := by decide +kernel
theorem dX7_wet_3 : decode cX7_wet 3 = .ok (.invokestatic 69, 3) := by decide +kernel
theorem dX7_wet_6 : decode cX7_wet 6 = .ok (.ifCond .eq 32, 3) := by decide +kernel
theorem dX7_wet_9 : decode cX7_wet 9 = .ok (.iload_n 1, 1) := by decide +kernel
theorem dX7_wet_10 : decode cX7_wet 10 = .ok (.sipush (-10000), 3) := by decide +kernel
theorem dX7_wet_13 : decode cX7_wet 13 = .ok (.sipush 10000, 3) := by decide +kernel
theorem dX7_wet_16 : decode cX7_wet 16 = .ok (.invokestatic 69, 3) := by decide +kernel
theorem dX7_wet_19 : decode cX7_wet 19 = .ok (.ifCond .eq 19, 3) := by decide +kernel
theorem dX7_wet_22 : decode cX7_wet 22 = .ok (.iload_n 1, 1) := by decide +kernel
theorem dX7_wet_23 : decode cX7_wet 23 = .ok (.aload_n 0, 1) := by decide +kernel
theorem dX7_wet_24 : decode cX7_wet 24 = .ok (.iload_n 2, 1) := by decide +kernel
theorem dX7_wet_25 : decode cX7_wet 25 = .ok (.invokevirtual 130, 3) := by decide +kernel
theorem dX7_wet_28 : decode cX7_wet 28 = .ok (.imul, 1) := by decide +kernel
theorem dX7_wet_29 : decode cX7_wet 29 = .ok (.sipush 1000, 3) := by decide +kernel
theorem dX7_wet_32 : decode cX7_wet 32 = .ok (.invokestatic 89, 3) := by decide +kernel
theorem dX7_wet_35 : decode cX7_wet 35 = .ok (.goto 4, 3) := by decide +kernel
theorem dX7_wet_38 : decode cX7_wet 38 = .ok (.iconst (-1), 1) := by decide +kernel
theorem dX7_wet_39 : decode cX7_wet 39 = .ok (.ireturn, 1) := by decide +kernel
theorem dX7_isName_0 : decode cX7_isName 0 = .ok (.iload_n 1, 1) := by decide +kernel
theorem dX7_isName_1 : decode cX7_isName 1 = .ok (.iconst 0, 1) := by decide +kernel
theorem dX7_isName_2 : decode cX7_isName 2 = .ok (.aload_n 0, 1) := by decide +kernel
theorem dX7_isName_3 : decode cX7_isName 3 = .ok (.getfield 133, 3) := by decide +kernel
theorem dX7_isName_6 : decode cX7_isName 6 = .ok (.iconst 1, 1) := by decide +kernel
theorem dX7_isName_7 : decode cX7_isName 7 = .ok (.isub, 1) := by decide +kernel
theorem dX7_isName_8 : decode cX7_isName 8 = .ok (.invokestatic 69, 3) := by decide +kernel
theorem dX7_isName_11 : decode cX7_isName 11 = .ok (.ifCond .eq 16, 3) := by decide +kernel
theorem dX7_isName_14 : decode cX7_isName 14 = .ok (.aload_n 0, 1) := by decide +kernel
theorem dX7_isName_15 : decode cX7_isName 15 = .ok (.getfield 28, 3) := by decide +kernel
theorem dX7_isName_18 : decode cX7_isName 18 = .ok (.iload_n 1, 1) := by decide +kernel
theorem dX7_isName_19 : decode cX7_isName 19 = .ok (.baload, 1) := by decide +kernel
theorem dX7_isName_20 : decode cX7_isName 20 = .ok (.ifCond .eq 7, 3) := by decide +kernel
theorem dX7_isName_23 : decode cX7_isName 23 = .ok (.iconst 1, 1) := by decide +kernel
theorem dX7_isName_24 : decode cX7_isName 24 = .ok (.goto 4, 3) := by decide +kernel
theorem dX7_isName_27 : decode cX7_isName 27 = .ok (.iconst 0, 1) := by decide +kernel
theorem dX7_isName_28 : decode cX7_isName 28 = .ok (.ireturn, 1) := by decide +kernel
theorem dX7_namesIn_0 : decode cX7_namesIn 0 = .ok (.iconst 0, 1) := by decide +kernel
theorem dX7_namesIn_1 : decode cX7_namesIn 1 = .ok (.istore_n 2, 1) := by decide +kernel
theorem dX7_namesIn_2 : decode cX7_namesIn 2 = .ok (.iconst 0, 1) := by decide +kernel
theorem dX7_namesIn_3 : decode cX7_namesIn 3 = .ok (.istore_n 3, 1) := by decide +kernel
theorem dX7_namesIn_4 : decode cX7_namesIn 4 = .ok (.iload_n 3, 1) := by decide +kernel
theorem dX7_namesIn_5 : decode cX7_namesIn 5 = .ok (.aload_n 0, 1) := by decide +kernel
theorem dX7_namesIn_6 : decode cX7_namesIn 6 = .ok (.getfield 133, 3) := by decide +kernel
theorem dX7_namesIn_9 : decode cX7_namesIn 9 = .ok (.if_icmp .ge 36, 3) := by decide +kernel
theorem dX7_namesIn_12 : decode cX7_namesIn 12 = .ok (.iload_n 2, 1) := by decide +kernel
theorem dX7_namesIn_13 : decode cX7_namesIn 13 = .ok (.aload_n 0, 1) := by decide +kernel
theorem dX7_namesIn_14 : decode cX7_namesIn 14 = .ok (.getfield 28, 3) := by decide +kernel
theorem dX7_namesIn_17 : decode cX7_namesIn 17 = .ok (.iload_n 3, 1) := by decide +kernel
theorem dX7_namesIn_18 : decode cX7_namesIn 18 = .ok (.baload, 1) := by decide +kernel
theorem dX7_namesIn_19 : decode cX7_namesIn 19 = .ok (.ifCond .eq 17, 3) := by decide +kernel
theorem dX7_namesIn_22 : decode cX7_namesIn 22 = .ok (.aload_n 0, 1) := by decide +kernel
theorem dX7_namesIn_23 : decode cX7_namesIn 23 = .ok (.getfield 32, 3) := by decide +kernel
theorem dX7_namesIn_26 : decode cX7_namesIn 26 = .ok (.iload_n 3, 1) := by decide +kernel
theorem dX7_namesIn_27 : decode cX7_namesIn 27 = .ok (.iaload, 1) := by decide +kernel
theorem dX7_namesIn_28 : decode cX7_namesIn 28 = .ok (.iload_n 1, 1) := by decide +kernel
theorem dX7_namesIn_29 : decode cX7_namesIn 29 = .ok (.if_icmp .ne 7, 3) := by decide +kernel
theorem dX7_namesIn_32 : decode cX7_namesIn 32 = .ok (.iconst 1, 1) := by decide +kernel
theorem dX7_namesIn_33 : decode cX7_namesIn 33 = .ok (.goto 4, 3) := by decide +kernel
theorem dX7_namesIn_36 : decode cX7_namesIn 36 = .ok (.iconst 0, 1) := by decide +kernel
theorem dX7_namesIn_37 : decode cX7_namesIn 37 = .ok (.iadd, 1) := by decide +kernel
theorem dX7_namesIn_38 : decode cX7_namesIn 38 = .ok (.istore_n 2, 1) := by decide +kernel
theorem dX7_namesIn_39 : decode cX7_namesIn 39 = .ok (.iinc 3 1, 3) := by decide +kernel
theorem dX7_namesIn_42 : decode cX7_namesIn 42 = .ok (.goto (-38), 3) := by decide +kernel
theorem dX7_namesIn_45 : decode cX7_namesIn 45 = .ok (.iload_n 2, 1) := by decide +kernel
theorem dX7_namesIn_46 : decode cX7_namesIn 46 = .ok (.ireturn, 1) := by decide +kernel
theorem dX7_name_0 : decode cX7_name 0 = .ok (.iload_n 1, 1) := by decide +kernel
theorem dX7_name_1 : decode cX7_name 1 = .ok (.iload_n 2, 1) := by decide +kernel
theorem dX7_name_2 : decode cX7_name 2 = .ok (.invokestatic 82, 3) := by decide +kernel
theorem dX7_name_5 : decode cX7_name 5 = .ok (.ifCond .eq 33, 3) := by decide +kernel
theorem dX7_name_8 : decode cX7_name 8 = .ok (.iload_n 3, 1) := by decide +kernel
theorem dX7_name_9 : decode cX7_name 9 = .ok (.iconst 1, 1) := by decide +kernel
theorem dX7_name_10 : decode cX7_name 10 = .ok (.bipush 20, 2) := by decide +kernel
theorem dX7_name_12 : decode cX7_name 12 = .ok (.invokestatic 69, 3) := by decide +kernel
theorem dX7_name_15 : decode cX7_name 15 = .ok (.ifCond .eq 23, 3) := by decide +kernel
theorem dX7_name_18 : decode cX7_name 18 = .ok (.iload 4, 2) := by decide +kernel
theorem dX7_name_20 : decode cX7_name 20 = .ok (.iconst 1, 1) := by decide +kernel
theorem dX7_name_21 : decode cX7_name 21 = .ok (.bipush 99, 2) := by decide +kernel
theorem dX7_name_23 : decode cX7_name 23 = .ok (.invokestatic 69, 3) := by decide +kernel
theorem dX7_name_26 : decode cX7_name 26 = .ok (.ifCond .eq 12, 3) := by decide +kernel
theorem dX7_name_29 : decode cX7_name 29 = .ok (.aload_n 0, 1) := by decide +kernel
theorem dX7_name_30 : decode cX7_name 30 = .ok (.getfield 133, 3) := by decide +kernel
theorem dX7_name_33 : decode cX7_name 33 = .ok (.bipush 60, 2) := by decide +kernel
theorem dX7_name_35 : decode cX7_name 35 = .ok (.if_icmp .ne 5, 3) := by decide +kernel
theorem dX7_name_38 : decode cX7_name 38 = .ok (.iconst (-1), 1) := by decide +kernel
theorem dX7_name_39 : decode cX7_name 39 = .ok (.ireturn, 1) := by decide +kernel
theorem dX7_name_40 : decode cX7_name 40 = .ok (.iload_n 1, 1) := by decide +kernel
theorem dX7_name_41 : decode cX7_name 41 = .ok (.aload_n 0, 1) := by decide +kernel
theorem dX7_name_42 : decode cX7_name 42 = .ok (.getfield 66, 3) := by decide +kernel
theorem dX7_name_45 : decode cX7_name 45 = .ok (.idiv, 1) := by decide +kernel
theorem dX7_name_46 : decode cX7_name 46 = .ok (.istore 5, 2) := by decide +kernel
theorem dX7_name_48 : decode cX7_name 48 = .ok (.aload_n 0, 1) := by decide +kernel
theorem dX7_name_49 : decode cX7_name 49 = .ok (.iload 5, 2) := by decide +kernel
theorem dX7_name_51 : decode cX7_name 51 = .ok (.invokevirtual 136, 3) := by decide +kernel
theorem dX7_name_54 : decode cX7_name 54 = .ok (.bipush 6, 2) := by decide +kernel
theorem dX7_name_56 : decode cX7_name 56 = .ok (.if_icmp .ne 5, 3) := by decide +kernel
theorem dX7_name_59 : decode cX7_name 59 = .ok (.iconst (-1), 1) := by decide +kernel
theorem dX7_name_60 : decode cX7_name 60 = .ok (.ireturn, 1) := by decide +kernel
theorem dX7_name_61 : decode cX7_name 61 = .ok (.aload_n 0, 1) := by decide +kernel
theorem dX7_name_62 : decode cX7_name 62 = .ok (.getfield 28, 3) := by decide +kernel
theorem dX7_name_65 : decode cX7_name 65 = .ok (.aload_n 0, 1) := by decide +kernel
theorem dX7_name_66 : decode cX7_name 66 = .ok (.getfield 133, 3) := by decide +kernel
theorem dX7_name_69 : decode cX7_name 69 = .ok (.iconst 1, 1) := by decide +kernel
theorem dX7_name_70 : decode cX7_name 70 = .ok (.bastore, 1) := by decide +kernel
theorem dX7_name_71 : decode cX7_name 71 = .ok (.aload_n 0, 1) := by decide +kernel
theorem dX7_name_72 : decode cX7_name 72 = .ok (.getfield 32, 3) := by decide +kernel
theorem dX7_name_75 : decode cX7_name 75 = .ok (.aload_n 0, 1) := by decide +kernel
theorem dX7_name_76 : decode cX7_name 76 = .ok (.getfield 133, 3) := by decide +kernel
theorem dX7_name_79 : decode cX7_name 79 = .ok (.iload 5, 2) := by decide +kernel
theorem dX7_name_81 : decode cX7_name 81 = .ok (.iastore, 1) := by decide +kernel
theorem dX7_name_82 : decode cX7_name 82 = .ok (.aload_n 0, 1) := by decide +kernel
theorem dX7_name_83 : decode cX7_name 83 = .ok (.getfield 35, 3) := by decide +kernel
theorem dX7_name_86 : decode cX7_name 86 = .ok (.aload_n 0, 1) := by decide +kernel
theorem dX7_name_87 : decode cX7_name 87 = .ok (.getfield 133, 3) := by decide +kernel
theorem dX7_name_90 : decode cX7_name 90 = .ok (.iconst 2, 1) := by decide +kernel
theorem dX7_name_91 : decode cX7_name 91 = .ok (.iload_n 1, 1) := by decide +kernel
theorem dX7_name_92 : decode cX7_name 92 = .ok (.iload 5, 2) := by decide +kernel
theorem dX7_name_94 : decode cX7_name 94 = .ok (.aload_n 0, 1) := by decide +kernel
theorem dX7_name_95 : decode cX7_name 95 = .ok (.getfield 66, 3) := by decide +kernel
theorem dX7_name_98 : decode cX7_name 98 = .ok (.imul, 1) := by decide +kernel
theorem dX7_name_99 : decode cX7_name 99 = .ok (.isub, 1) := by decide +kernel
theorem dX7_name_100 : decode cX7_name 100 = .ok (.imul, 1) := by decide +kernel
theorem dX7_name_101 : decode cX7_name 101 = .ok (.aload_n 0, 1) := by decide +kernel
theorem dX7_name_102 : decode cX7_name 102 = .ok (.getfield 66, 3) := by decide +kernel
theorem dX7_name_105 : decode cX7_name 105 = .ok (.isub, 1) := by decide +kernel
theorem dX7_name_106 : decode cX7_name 106 = .ok (.iastore, 1) := by decide +kernel
theorem dX7_name_107 : decode cX7_name 107 = .ok (.aload_n 0, 1) := by decide +kernel
theorem dX7_name_108 : decode cX7_name 108 = .ok (.getfield 38, 3) := by decide +kernel
theorem dX7_name_111 : decode cX7_name 111 = .ok (.aload_n 0, 1) := by decide +kernel
theorem dX7_name_112 : decode cX7_name 112 = .ok (.getfield 133, 3) := by decide +kernel
theorem dX7_name_115 : decode cX7_name 115 = .ok (.bipush 60, 2) := by decide +kernel
theorem dX7_name_117 : decode cX7_name 117 = .ok (.iload_n 2, 1) := by decide +kernel
theorem dX7_name_118 : decode cX7_name 118 = .ok (.imul, 1) := by decide +kernel
theorem dX7_name_119 : decode cX7_name 119 = .ok (.iastore, 1) := by decide +kernel
theorem dX7_name_120 : decode cX7_name 120 = .ok (.aload_n 0, 1) := by decide +kernel
theorem dX7_name_121 : decode cX7_name 121 = .ok (.getfield 41, 3) := by decide +kernel
theorem dX7_name_124 : decode cX7_name 124 = .ok (.aload_n 0, 1) := by decide +kernel
theorem dX7_name_125 : decode cX7_name 125 = .ok (.getfield 133, 3) := by decide +kernel
theorem dX7_name_128 : decode cX7_name 128 = .ok (.iload_n 3, 1) := by decide +kernel
theorem dX7_name_129 : decode cX7_name 129 = .ok (.iastore, 1) := by decide +kernel
theorem dX7_name_130 : decode cX7_name 130 = .ok (.aload_n 0, 1) := by decide +kernel
theorem dX7_name_131 : decode cX7_name 131 = .ok (.getfield 44, 3) := by decide +kernel
theorem dX7_name_134 : decode cX7_name 134 = .ok (.aload_n 0, 1) := by decide +kernel
theorem dX7_name_135 : decode cX7_name 135 = .ok (.getfield 133, 3) := by decide +kernel
theorem dX7_name_138 : decode cX7_name 138 = .ok (.iload 4, 2) := by decide +kernel
theorem dX7_name_140 : decode cX7_name 140 = .ok (.iastore, 1) := by decide +kernel
theorem dX7_name_141 : decode cX7_name 141 = .ok (.aload_n 0, 1) := by decide +kernel
theorem dX7_name_142 : decode cX7_name 142 = .ok (.getfield 47, 3) := by decide +kernel
theorem dX7_name_145 : decode cX7_name 145 = .ok (.iload 5, 2) := by decide +kernel
theorem dX7_name_147 : decode cX7_name 147 = .ok (.iconst 1, 1) := by decide +kernel
theorem dX7_name_148 : decode cX7_name 148 = .ok (.bastore, 1) := by decide +kernel
theorem dX7_name_149 : decode cX7_name 149 = .ok (.aload_n 0, 1) := by decide +kernel
theorem dX7_name_150 : decode cX7_name 150 = .ok (.dup, 1) := by decide +kernel
theorem dX7_name_151 : decode cX7_name 151 = .ok (.getfield 133, 3) := by decide +kernel
theorem dX7_name_154 : decode cX7_name 154 = .ok (.iconst 1, 1) := by decide +kernel
theorem dX7_name_155 : decode cX7_name 155 = .ok (.iadd, 1) := by decide +kernel
theorem dX7_name_156 : decode cX7_name 156 = .ok (.putfield 133, 3) := by decide +kernel
theorem dX7_name_159 : decode cX7_name 159 = .ok (.aload_n 0, 1) := by decide +kernel
theorem dX7_name_160 : decode cX7_name 160 = .ok (.getfield 133, 3) := by decide +kernel
theorem dX7_name_163 : decode cX7_name 163 = .ok (.iconst 1, 1) := by decide +kernel
theorem dX7_name_164 : decode cX7_name 164 = .ok (.isub, 1) := by decide +kernel
theorem dX7_name_165 : decode cX7_name 165 = .ok (.ireturn, 1) := by decide +kernel
theorem dX7_strike_0 : decode cX7_strike 0 = .ok (.aload_n 0, 1) := by decide +kernel
theorem dX7_strike_1 : decode cX7_strike 1 = .ok (.iload_n 1, 1) := by decide +kernel
theorem dX7_strike_2 : decode cX7_strike 2 = .ok (.invokevirtual 139, 3) := by decide +kernel
theorem dX7_strike_5 : decode cX7_strike 5 = .ok (.ifCond .ne 5, 3) := by decide +kernel
theorem dX7_strike_8 : decode cX7_strike 8 = .ok (.iconst 0, 1) := by decide +kernel
theorem dX7_strike_9 : decode cX7_strike 9 = .ok (.ireturn, 1) := by decide +kernel
theorem dX7_strike_10 : decode cX7_strike 10 = .ok (.aload_n 0, 1) := by decide +kernel
theorem dX7_strike_11 : decode cX7_strike 11 = .ok (.getfield 28, 3) := by decide +kernel
theorem dX7_strike_14 : decode cX7_strike 14 = .ok (.iload_n 1, 1) := by decide +kernel
theorem dX7_strike_15 : decode cX7_strike 15 = .ok (.iconst 0, 1) := by decide +kernel
theorem dX7_strike_16 : decode cX7_strike 16 = .ok (.bastore, 1) := by decide +kernel
theorem dX7_strike_17 : decode cX7_strike 17 = .ok (.aload_n 0, 1) := by decide +kernel
theorem dX7_strike_18 : decode cX7_strike 18 = .ok (.getfield 47, 3) := by decide +kernel
theorem dX7_strike_21 : decode cX7_strike 21 = .ok (.aload_n 0, 1) := by decide +kernel
theorem dX7_strike_22 : decode cX7_strike 22 = .ok (.getfield 32, 3) := by decide +kernel
theorem dX7_strike_25 : decode cX7_strike 25 = .ok (.iload_n 1, 1) := by decide +kernel
theorem dX7_strike_26 : decode cX7_strike 26 = .ok (.iaload, 1) := by decide +kernel
theorem dX7_strike_27 : decode cX7_strike 27 = .ok (.iconst 1, 1) := by decide +kernel
theorem dX7_strike_28 : decode cX7_strike 28 = .ok (.bastore, 1) := by decide +kernel
theorem dX7_strike_29 : decode cX7_strike 29 = .ok (.iconst 1, 1) := by decide +kernel
theorem dX7_strike_30 : decode cX7_strike 30 = .ok (.ireturn, 1) := by decide +kernel
theorem dX7_left_0 : decode cX7_left 0 = .ok (.aload_n 0, 1) := by decide +kernel
theorem dX7_left_1 : decode cX7_left 1 = .ok (.aload_n 0, 1) := by decide +kernel
theorem dX7_left_2 : decode cX7_left 2 = .ok (.getfield 35, 3) := by decide +kernel
theorem dX7_left_5 : decode cX7_left 5 = .ok (.iload_n 1, 1) := by decide +kernel
theorem dX7_left_6 : decode cX7_left 6 = .ok (.iaload, 1) := by decide +kernel
theorem dX7_left_7 : decode cX7_left 7 = .ok (.aload_n 0, 1) := by decide +kernel
theorem dX7_left_8 : decode cX7_left 8 = .ok (.getfield 38, 3) := by decide +kernel
theorem dX7_left_11 : decode cX7_left 11 = .ok (.iload_n 1, 1) := by decide +kernel
theorem dX7_left_12 : decode cX7_left 12 = .ok (.iaload, 1) := by decide +kernel
theorem dX7_left_13 : decode cX7_left 13 = .ok (.invokevirtual 77, 3) := by decide +kernel
theorem dX7_left_16 : decode cX7_left 16 = .ok (.istore_n 3, 1) := by decide +kernel
theorem dX7_left_17 : decode cX7_left 17 = .ok (.iload_n 2, 1) := by decide +kernel
theorem dX7_left_18 : decode cX7_left 18 = .ok (.iconst 2, 1) := by decide +kernel
theorem dX7_left_19 : decode cX7_left 19 = .ok (.irem, 1) := by decide +kernel
theorem dX7_left_20 : decode cX7_left 20 = .ok (.ifCond .ne 7, 3) := by decide +kernel
theorem dX7_left_23 : decode cX7_left 23 = .ok (.iload_n 3, 1) := by decide +kernel
theorem dX7_left_24 : decode cX7_left 24 = .ok (.goto 14, 3) := by decide +kernel
theorem dX7_left_27 : decode cX7_left 27 = .ok (.iload_n 3, 1) := by decide +kernel
theorem dX7_left_28 : decode cX7_left 28 = .ok (.bipush 40, 2) := by decide +kernel
theorem dX7_left_30 : decode cX7_left 30 = .ok (.aload_n 0, 1) := by decide +kernel
theorem dX7_left_31 : decode cX7_left 31 = .ok (.getfield 41, 3) := by decide +kernel
theorem dX7_left_34 : decode cX7_left 34 = .ok (.iload_n 1, 1) := by decide +kernel
theorem dX7_left_35 : decode cX7_left 35 = .ok (.iaload, 1) := by decide +kernel
theorem dX7_left_36 : decode cX7_left 36 = .ok (.imul, 1) := by decide +kernel
theorem dX7_left_37 : decode cX7_left 37 = .ok (.isub, 1) := by decide +kernel
theorem dX7_left_38 : decode cX7_left 38 = .ok (.ireturn, 1) := by decide +kernel
theorem dX7_low_0 : decode cX7_low 0 = .ok (.iload_n 2, 1) := by decide +kernel
theorem dX7_low_1 : decode cX7_low 1 = .ok (.iconst 2, 1) := by decide +kernel
theorem dX7_low_2 : decode cX7_low 2 = .ok (.if_icmp .ge 12, 3) := by decide +kernel
theorem dX7_low_5 : decode cX7_low 5 = .ok (.aload_n 0, 1) := by decide +kernel
theorem dX7_low_6 : decode cX7_low 6 = .ok (.getfield 38, 3) := by decide +kernel
theorem dX7_low_9 : decode cX7_low 9 = .ok (.iload_n 1, 1) := by decide +kernel
theorem dX7_low_10 : decode cX7_low 10 = .ok (.iaload, 1) := by decide +kernel
theorem dX7_low_11 : decode cX7_low 11 = .ok (.goto 12, 3) := by decide +kernel
theorem dX7_low_14 : decode cX7_low 14 = .ok (.aload_n 0, 1) := by decide +kernel
theorem dX7_low_15 : decode cX7_low 15 = .ok (.getfield 38, 3) := by decide +kernel
theorem dX7_low_18 : decode cX7_low 18 = .ok (.iload_n 1, 1) := by decide +kernel
theorem dX7_low_19 : decode cX7_low 19 = .ok (.iaload, 1) := by decide +kernel
theorem dX7_low_20 : decode cX7_low 20 = .ok (.bipush 80, 2) := by decide +kernel
theorem dX7_low_22 : decode cX7_low 22 = .ok (.isub, 1) := by decide +kernel
theorem dX7_low_23 : decode cX7_low 23 = .ok (.ireturn, 1) := by decide +kernel
theorem dX7_isWithin_0 : decode cX7_isWithin 0 = .ok (.iload_n 2, 1) := by decide +kernel
theorem dX7_isWithin_1 : decode cX7_isWithin 1 = .ok (.sipush (-5400), 3) := by decide +kernel
theorem dX7_isWithin_4 : decode cX7_isWithin 4 = .ok (.sipush 5400, 3) := by decide +kernel
theorem dX7_isWithin_7 : decode cX7_isWithin 7 = .ok (.invokestatic 69, 3) := by decide +kernel
theorem dX7_isWithin_10 : decode cX7_isWithin 10 = .ok (.ifCond .ne 5, 3) := by decide +kernel
theorem dX7_isWithin_13 : decode cX7_isWithin 13 = .ok (.iconst 0, 1) := by decide +kernel
theorem dX7_isWithin_14 : decode cX7_isWithin 14 = .ok (.ireturn, 1) := by decide +kernel
theorem dX7_isWithin_15 : decode cX7_isWithin 15 = .ok (.aload_n 0, 1) := by decide +kernel
theorem dX7_isWithin_16 : decode cX7_isWithin 16 = .ok (.aload_n 0, 1) := by decide +kernel
theorem dX7_isWithin_17 : decode cX7_isWithin 17 = .ok (.getfield 66, 3) := by decide +kernel
theorem dX7_isWithin_20 : decode cX7_isWithin 20 = .ok (.iload_n 2, 1) := by decide +kernel
theorem dX7_isWithin_21 : decode cX7_isWithin 21 = .ok (.invokevirtual 77, 3) := by decide +kernel
theorem dX7_isWithin_24 : decode cX7_isWithin 24 = .ok (.istore_n 3, 1) := by decide +kernel
theorem dX7_isWithin_25 : decode cX7_isWithin 25 = .ok (.iload_n 1, 1) := by decide +kernel
theorem dX7_isWithin_26 : decode cX7_isWithin 26 = .ok (.iload_n 3, 1) := by decide +kernel
theorem dX7_isWithin_27 : decode cX7_isWithin 27 = .ok (.ineg, 1) := by decide +kernel
theorem dX7_isWithin_28 : decode cX7_isWithin 28 = .ok (.iload_n 3, 1) := by decide +kernel
theorem dX7_isWithin_29 : decode cX7_isWithin 29 = .ok (.invokestatic 69, 3) := by decide +kernel
theorem dX7_isWithin_32 : decode cX7_isWithin 32 = .ok (.ireturn, 1) := by decide +kernel
theorem dX7_canBe_0 : decode cX7_canBe 0 = .ok (.iload_n 2, 1) := by decide +kernel
theorem dX7_canBe_1 : decode cX7_canBe 1 = .ok (.iconst 4, 1) := by decide +kernel
theorem dX7_canBe_2 : decode cX7_canBe 2 = .ok (.if_icmp .ne 5, 3) := by decide +kernel
theorem dX7_canBe_5 : decode cX7_canBe 5 = .ok (.iconst 1, 1) := by decide +kernel
theorem dX7_canBe_6 : decode cX7_canBe 6 = .ok (.ireturn, 1) := by decide +kernel
theorem dX7_canBe_7 : decode cX7_canBe 7 = .ok (.aload_n 0, 1) := by decide +kernel
theorem dX7_canBe_8 : decode cX7_canBe 8 = .ok (.iload_n 1, 1) := by decide +kernel
theorem dX7_canBe_9 : decode cX7_canBe 9 = .ok (.iload_n 2, 1) := by decide +kernel
theorem dX7_canBe_10 : decode cX7_canBe 10 = .ok (.invokevirtual 142, 3) := by decide +kernel
theorem dX7_canBe_13 : decode cX7_canBe 13 = .ok (.istore_n 3, 1) := by decide +kernel
theorem dX7_canBe_14 : decode cX7_canBe 14 = .ok (.aload_n 0, 1) := by decide +kernel
theorem dX7_canBe_15 : decode cX7_canBe 15 = .ok (.iload_n 1, 1) := by decide +kernel
theorem dX7_canBe_16 : decode cX7_canBe 16 = .ok (.iload_n 2, 1) := by decide +kernel
theorem dX7_canBe_17 : decode cX7_canBe 17 = .ok (.invokevirtual 145, 3) := by decide +kernel
theorem dX7_canBe_20 : decode cX7_canBe 20 = .ok (.istore 4, 2) := by decide +kernel
theorem dX7_canBe_22 : decode cX7_canBe 22 = .ok (.bipush 40, 2) := by decide +kernel
theorem dX7_canBe_24 : decode cX7_canBe 24 = .ok (.aload_n 0, 1) := by decide +kernel
theorem dX7_canBe_25 : decode cX7_canBe 25 = .ok (.getfield 41, 3) := by decide +kernel
theorem dX7_canBe_28 : decode cX7_canBe 28 = .ok (.iload_n 1, 1) := by decide +kernel
theorem dX7_canBe_29 : decode cX7_canBe 29 = .ok (.iaload, 1) := by decide +kernel
theorem dX7_canBe_30 : decode cX7_canBe 30 = .ok (.imul, 1) := by decide +kernel
theorem dX7_canBe_31 : decode cX7_canBe 31 = .ok (.istore 5, 2) := by decide +kernel
theorem dX7_canBe_33 : decode cX7_canBe 33 = .ok (.aload_n 0, 1) := by decide +kernel
theorem dX7_canBe_34 : decode cX7_canBe 34 = .ok (.iload_n 3, 1) := by decide +kernel
theorem dX7_canBe_35 : decode cX7_canBe 35 = .ok (.iload 4, 2) := by decide +kernel
theorem dX7_canBe_37 : decode cX7_canBe 37 = .ok (.invokevirtual 148, 3) := by decide +kernel
theorem dX7_canBe_40 : decode cX7_canBe 40 = .ok (.ifCond .eq 49, 3) := by decide +kernel
theorem dX7_canBe_43 : decode cX7_canBe 43 = .ok (.aload_n 0, 1) := by decide +kernel
theorem dX7_canBe_44 : decode cX7_canBe 44 = .ok (.iload_n 3, 1) := by decide +kernel
theorem dX7_canBe_45 : decode cX7_canBe 45 = .ok (.iload 5, 2) := by decide +kernel
theorem dX7_canBe_47 : decode cX7_canBe 47 = .ok (.iadd, 1) := by decide +kernel
theorem dX7_canBe_48 : decode cX7_canBe 48 = .ok (.iload 4, 2) := by decide +kernel
theorem dX7_canBe_50 : decode cX7_canBe 50 = .ok (.invokevirtual 148, 3) := by decide +kernel
theorem dX7_canBe_53 : decode cX7_canBe 53 = .ok (.ifCond .eq 36, 3) := by decide +kernel
theorem dX7_canBe_56 : decode cX7_canBe 56 = .ok (.aload_n 0, 1) := by decide +kernel
theorem dX7_canBe_57 : decode cX7_canBe 57 = .ok (.iload_n 3, 1) := by decide +kernel
theorem dX7_canBe_58 : decode cX7_canBe 58 = .ok (.iload 4, 2) := by decide +kernel
theorem dX7_canBe_60 : decode cX7_canBe 60 = .ok (.bipush 80, 2) := by decide +kernel
theorem dX7_canBe_62 : decode cX7_canBe 62 = .ok (.iadd, 1) := by decide +kernel
theorem dX7_canBe_63 : decode cX7_canBe 63 = .ok (.invokevirtual 148, 3) := by decide +kernel
theorem dX7_canBe_66 : decode cX7_canBe 66 = .ok (.ifCond .eq 23, 3) := by decide +kernel
theorem dX7_canBe_69 : decode cX7_canBe 69 = .ok (.aload_n 0, 1) := by decide +kernel
theorem dX7_canBe_70 : decode cX7_canBe 70 = .ok (.iload_n 3, 1) := by decide +kernel
theorem dX7_canBe_71 : decode cX7_canBe 71 = .ok (.iload 5, 2) := by decide +kernel
theorem dX7_canBe_73 : decode cX7_canBe 73 = .ok (.iadd, 1) := by decide +kernel
theorem dX7_canBe_74 : decode cX7_canBe 74 = .ok (.iload 4, 2) := by decide +kernel
theorem dX7_canBe_76 : decode cX7_canBe 76 = .ok (.bipush 80, 2) := by decide +kernel
theorem dX7_canBe_78 : decode cX7_canBe 78 = .ok (.iadd, 1) := by decide +kernel
theorem dX7_canBe_79 : decode cX7_canBe 79 = .ok (.invokevirtual 148, 3) := by decide +kernel
theorem dX7_canBe_82 : decode cX7_canBe 82 = .ok (.ifCond .eq 7, 3) := by decide +kernel
theorem dX7_canBe_85 : decode cX7_canBe 85 = .ok (.iconst 1, 1) := by decide +kernel
theorem dX7_canBe_86 : decode cX7_canBe 86 = .ok (.goto 4, 3) := by decide +kernel
theorem dX7_canBe_89 : decode cX7_canBe 89 = .ok (.iconst 0, 1) := by decide +kernel
theorem dX7_canBe_90 : decode cX7_canBe 90 = .ok (.ireturn, 1) := by decide +kernel
theorem dX7_may_0 : decode cX7_may 0 = .ok (.aload_n 0, 1) := by decide +kernel
theorem dX7_may_1 : decode cX7_may 1 = .ok (.iload_n 1, 1) := by decide +kernel
theorem dX7_may_2 : decode cX7_may 2 = .ok (.invokevirtual 139, 3) := by decide +kernel
theorem dX7_may_5 : decode cX7_may 5 = .ok (.ifCond .eq 25, 3) := by decide +kernel
theorem dX7_may_8 : decode cX7_may 8 = .ok (.iload_n 2, 1) := by decide +kernel
theorem dX7_may_9 : decode cX7_may 9 = .ok (.iconst 0, 1) := by decide +kernel
theorem dX7_may_10 : decode cX7_may 10 = .ok (.iconst 4, 1) := by decide +kernel
theorem dX7_may_11 : decode cX7_may 11 = .ok (.invokestatic 69, 3) := by decide +kernel
theorem dX7_may_14 : decode cX7_may 14 = .ok (.ifCond .eq 16, 3) := by decide +kernel
theorem dX7_may_17 : decode cX7_may 17 = .ok (.aload_n 0, 1) := by decide +kernel
theorem dX7_may_18 : decode cX7_may 18 = .ok (.iload_n 1, 1) := by decide +kernel
theorem dX7_may_19 : decode cX7_may 19 = .ok (.iload_n 2, 1) := by decide +kernel
theorem dX7_may_20 : decode cX7_may 20 = .ok (.invokevirtual 151, 3) := by decide +kernel
theorem dX7_may_23 : decode cX7_may 23 = .ok (.ifCond .eq 7, 3) := by decide +kernel
theorem dX7_may_26 : decode cX7_may 26 = .ok (.iconst 1, 1) := by decide +kernel
theorem dX7_may_27 : decode cX7_may 27 = .ok (.goto 4, 3) := by decide +kernel
theorem dX7_may_30 : decode cX7_may 30 = .ok (.iconst 0, 1) := by decide +kernel
theorem dX7_may_31 : decode cX7_may 31 = .ok (.ireturn, 1) := by decide +kernel
theorem dX7_areApart_0 : decode cX7_areApart 0 = .ok (.iload_n 2, 1) := by decide +kernel
theorem dX7_areApart_1 : decode cX7_areApart 1 = .ok (.iconst 4, 1) := by decide +kernel
theorem dX7_areApart_2 : decode cX7_areApart 2 = .ok (.if_icmp .eq 9, 3) := by decide +kernel
theorem dX7_areApart_5 : decode cX7_areApart 5 = .ok (.iload 4, 2) := by decide +kernel
theorem dX7_areApart_7 : decode cX7_areApart 7 = .ok (.iconst 4, 1) := by decide +kernel
theorem dX7_areApart_8 : decode cX7_areApart 8 = .ok (.if_icmp .ne 5, 3) := by decide +kernel
theorem dX7_areApart_11 : decode cX7_areApart 11 = .ok (.iconst 1, 1) := by decide +kernel
theorem dX7_areApart_12 : decode cX7_areApart 12 = .ok (.ireturn, 1) := by decide +kernel
theorem dX7_areApart_13 : decode cX7_areApart 13 = .ok (.aload_n 0, 1) := by decide +kernel
theorem dX7_areApart_14 : decode cX7_areApart 14 = .ok (.iload_n 1, 1) := by decide +kernel
theorem dX7_areApart_15 : decode cX7_areApart 15 = .ok (.iload_n 2, 1) := by decide +kernel
theorem dX7_areApart_16 : decode cX7_areApart 16 = .ok (.invokevirtual 142, 3) := by decide +kernel
theorem dX7_areApart_19 : decode cX7_areApart 19 = .ok (.aload_n 0, 1) := by decide +kernel
theorem dX7_areApart_20 : decode cX7_areApart 20 = .ok (.iload_n 3, 1) := by decide +kernel
theorem dX7_areApart_21 : decode cX7_areApart 21 = .ok (.iload 4, 2) := by decide +kernel
theorem dX7_areApart_23 : decode cX7_areApart 23 = .ok (.invokevirtual 142, 3) := by decide +kernel
theorem dX7_areApart_26 : decode cX7_areApart 26 = .ok (.isub, 1) := by decide +kernel
theorem dX7_areApart_27 : decode cX7_areApart 27 = .ok (.istore 5, 2) := by decide +kernel
theorem dX7_areApart_29 : decode cX7_areApart 29 = .ok (.aload_n 0, 1) := by decide +kernel
theorem dX7_areApart_30 : decode cX7_areApart 30 = .ok (.iload_n 1, 1) := by decide +kernel
theorem dX7_areApart_31 : decode cX7_areApart 31 = .ok (.iload_n 2, 1) := by decide +kernel
theorem dX7_areApart_32 : decode cX7_areApart 32 = .ok (.invokevirtual 145, 3) := by decide +kernel
theorem dX7_areApart_35 : decode cX7_areApart 35 = .ok (.aload_n 0, 1) := by decide +kernel
theorem dX7_areApart_36 : decode cX7_areApart 36 = .ok (.iload_n 3, 1) := by decide +kernel
theorem dX7_areApart_37 : decode cX7_areApart 37 = .ok (.iload 4, 2) := by decide +kernel
theorem dX7_areApart_39 : decode cX7_areApart 39 = .ok (.invokevirtual 145, 3) := by decide +kernel
theorem dX7_areApart_42 : decode cX7_areApart 42 = .ok (.isub, 1) := by decide +kernel
theorem dX7_areApart_43 : decode cX7_areApart 43 = .ok (.istore 6, 2) := by decide +kernel
theorem dX7_areApart_45 : decode cX7_areApart 45 = .ok (.iload 5, 2) := by decide +kernel
theorem dX7_areApart_47 : decode cX7_areApart 47 = .ok (.bipush 40, 2) := by decide +kernel
theorem dX7_areApart_49 : decode cX7_areApart 49 = .ok (.aload_n 0, 1) := by decide +kernel
theorem dX7_areApart_50 : decode cX7_areApart 50 = .ok (.getfield 41, 3) := by decide +kernel
theorem dX7_areApart_53 : decode cX7_areApart 53 = .ok (.iload_n 3, 1) := by decide +kernel
theorem dX7_areApart_54 : decode cX7_areApart 54 = .ok (.iaload, 1) := by decide +kernel
theorem dX7_areApart_55 : decode cX7_areApart 55 = .ok (.imul, 1) := by decide +kernel
theorem dX7_areApart_56 : decode cX7_areApart 56 = .ok (.if_icmp .ge 32, 3) := by decide +kernel
theorem dX7_areApart_59 : decode cX7_areApart 59 = .ok (.iload 5, 2) := by decide +kernel
theorem dX7_areApart_61 : decode cX7_areApart 61 = .ok (.ineg, 1) := by decide +kernel
theorem dX7_areApart_62 : decode cX7_areApart 62 = .ok (.bipush 40, 2) := by decide +kernel
theorem dX7_areApart_64 : decode cX7_areApart 64 = .ok (.aload_n 0, 1) := by decide +kernel
theorem dX7_areApart_65 : decode cX7_areApart 65 = .ok (.getfield 41, 3) := by decide +kernel
theorem dX7_areApart_68 : decode cX7_areApart 68 = .ok (.iload_n 1, 1) := by decide +kernel
theorem dX7_areApart_69 : decode cX7_areApart 69 = .ok (.iaload, 1) := by decide +kernel
theorem dX7_areApart_70 : decode cX7_areApart 70 = .ok (.imul, 1) := by decide +kernel
theorem dX7_areApart_71 : decode cX7_areApart 71 = .ok (.if_icmp .ge 17, 3) := by decide +kernel
theorem dX7_areApart_74 : decode cX7_areApart 74 = .ok (.iload 6, 2) := by decide +kernel
theorem dX7_areApart_76 : decode cX7_areApart 76 = .ok (.bipush 80, 2) := by decide +kernel
theorem dX7_areApart_78 : decode cX7_areApart 78 = .ok (.if_icmp .ge 10, 3) := by decide +kernel
theorem dX7_areApart_81 : decode cX7_areApart 81 = .ok (.iload 6, 2) := by decide +kernel
theorem dX7_areApart_83 : decode cX7_areApart 83 = .ok (.bipush (-80), 2) := by decide +kernel
theorem dX7_areApart_85 : decode cX7_areApart 85 = .ok (.if_icmp .gt 7, 3) := by decide +kernel
theorem dX7_areApart_88 : decode cX7_areApart 88 = .ok (.iconst 1, 1) := by decide +kernel
theorem dX7_areApart_89 : decode cX7_areApart 89 = .ok (.goto 4, 3) := by decide +kernel
theorem dX7_areApart_92 : decode cX7_areApart 92 = .ok (.iconst 0, 1) := by decide +kernel
theorem dX7_areApart_93 : decode cX7_areApart 93 = .ok (.ireturn, 1) := by decide +kernel
theorem dX7_sets_0 : decode cX7_sets 0 = .ok (.iconst 0, 1) := by decide +kernel
theorem dX7_sets_1 : decode cX7_sets 1 = .ok (.istore_n 2, 1) := by decide +kernel
theorem dX7_sets_2 : decode cX7_sets 2 = .ok (.iconst 0, 1) := by decide +kernel
theorem dX7_sets_3 : decode cX7_sets 3 = .ok (.istore_n 3, 1) := by decide +kernel
theorem dX7_sets_4 : decode cX7_sets 4 = .ok (.iload_n 3, 1) := by decide +kernel
theorem dX7_sets_5 : decode cX7_sets 5 = .ok (.aload_n 0, 1) := by decide +kernel
theorem dX7_sets_6 : decode cX7_sets 6 = .ok (.getfield 133, 3) := by decide +kernel
theorem dX7_sets_9 : decode cX7_sets 9 = .ok (.if_icmp .ge 41, 3) := by decide +kernel
theorem dX7_sets_12 : decode cX7_sets 12 = .ok (.aload_n 0, 1) := by decide +kernel
theorem dX7_sets_13 : decode cX7_sets 13 = .ok (.getfield 28, 3) := by decide +kernel
theorem dX7_sets_16 : decode cX7_sets 16 = .ok (.iload_n 3, 1) := by decide +kernel
theorem dX7_sets_17 : decode cX7_sets 17 = .ok (.baload, 1) := by decide +kernel
theorem dX7_sets_18 : decode cX7_sets 18 = .ok (.ifCond .eq 26, 3) := by decide +kernel
theorem dX7_sets_21 : decode cX7_sets 21 = .ok (.aload_n 0, 1) := by decide +kernel
theorem dX7_sets_22 : decode cX7_sets 22 = .ok (.getfield 32, 3) := by decide +kernel
theorem dX7_sets_25 : decode cX7_sets 25 = .ok (.iload_n 3, 1) := by decide +kernel
theorem dX7_sets_26 : decode cX7_sets 26 = .ok (.iaload, 1) := by decide +kernel
theorem dX7_sets_27 : decode cX7_sets 27 = .ok (.iload_n 1, 1) := by decide +kernel
theorem dX7_sets_28 : decode cX7_sets 28 = .ok (.if_icmp .eq 6, 3) := by decide +kernel
theorem dX7_sets_31 : decode cX7_sets 31 = .ok (.goto 13, 3) := by decide +kernel
theorem dX7_sets_34 : decode cX7_sets 34 = .ok (.aload_n 0, 1) := by decide +kernel
theorem dX7_sets_35 : decode cX7_sets 35 = .ok (.getfield 53, 3) := by decide +kernel
theorem dX7_sets_38 : decode cX7_sets 38 = .ok (.iload_n 2, 1) := by decide +kernel
theorem dX7_sets_39 : decode cX7_sets 39 = .ok (.iload_n 3, 1) := by decide +kernel
theorem dX7_sets_40 : decode cX7_sets 40 = .ok (.iastore, 1) := by decide +kernel
theorem dX7_sets_41 : decode cX7_sets 41 = .ok (.iinc 2 1, 3) := by decide +kernel
theorem dX7_sets_44 : decode cX7_sets 44 = .ok (.iinc 3 1, 3) := by decide +kernel
theorem dX7_sets_47 : decode cX7_sets 47 = .ok (.goto (-43), 3) := by decide +kernel
theorem dX7_sets_50 : decode cX7_sets 50 = .ok (.iconst 1, 1) := by decide +kernel
theorem dX7_sets_51 : decode cX7_sets 51 = .ok (.istore_n 3, 1) := by decide +kernel
theorem dX7_sets_52 : decode cX7_sets 52 = .ok (.iconst 0, 1) := by decide +kernel
theorem dX7_sets_53 : decode cX7_sets 53 = .ok (.istore 4, 2) := by decide +kernel
theorem dX7_sets_55 : decode cX7_sets 55 = .ok (.iload 4, 2) := by decide +kernel
theorem dX7_sets_57 : decode cX7_sets 57 = .ok (.iload_n 2, 1) := by decide +kernel
theorem dX7_sets_58 : decode cX7_sets 58 = .ok (.if_icmp .ge 13, 3) := by decide +kernel
theorem dX7_sets_61 : decode cX7_sets 61 = .ok (.iload_n 3, 1) := by decide +kernel
theorem dX7_sets_62 : decode cX7_sets 62 = .ok (.iconst 5, 1) := by decide +kernel
theorem dX7_sets_63 : decode cX7_sets 63 = .ok (.imul, 1) := by decide +kernel
theorem dX7_sets_64 : decode cX7_sets 64 = .ok (.istore_n 3, 1) := by decide +kernel
theorem dX7_sets_65 : decode cX7_sets 65 = .ok (.iinc 4 1, 3) := by decide +kernel
theorem dX7_sets_68 : decode cX7_sets 68 = .ok (.goto (-13), 3) := by decide +kernel
theorem dX7_sets_71 : decode cX7_sets 71 = .ok (.aload_n 0, 1) := by decide +kernel
theorem dX7_sets_72 : decode cX7_sets 72 = .ok (.iconst (-1), 1) := by decide +kernel
theorem dX7_sets_73 : decode cX7_sets 73 = .ok (.putfield 154, 3) := by decide +kernel
theorem dX7_sets_76 : decode cX7_sets 76 = .ok (.iconst 0, 1) := by decide +kernel
theorem dX7_sets_77 : decode cX7_sets 77 = .ok (.istore 4, 2) := by decide +kernel
theorem dX7_sets_79 : decode cX7_sets 79 = .ok (.iload 4, 2) := by decide +kernel
theorem dX7_sets_81 : decode cX7_sets 81 = .ok (.iload_n 3, 1) := by decide +kernel
theorem dX7_sets_82 : decode cX7_sets 82 = .ok (.if_icmp .ge 150, 3) := by decide +kernel
theorem dX7_sets_85 : decode cX7_sets 85 = .ok (.iload 4, 2) := by decide +kernel
theorem dX7_sets_87 : decode cX7_sets 87 = .ok (.istore 5, 2) := by decide +kernel
theorem dX7_sets_89 : decode cX7_sets 89 = .ok (.iconst 0, 1) := by decide +kernel
theorem dX7_sets_90 : decode cX7_sets 90 = .ok (.istore 6, 2) := by decide +kernel
theorem dX7_sets_92 : decode cX7_sets 92 = .ok (.iload_n 2, 1) := by decide +kernel
theorem dX7_sets_93 : decode cX7_sets 93 = .ok (.iconst 1, 1) := by decide +kernel
theorem dX7_sets_94 : decode cX7_sets 94 = .ok (.isub, 1) := by decide +kernel
theorem dX7_sets_95 : decode cX7_sets 95 = .ok (.istore 7, 2) := by decide +kernel
theorem dX7_sets_97 : decode cX7_sets 97 = .ok (.iload 7, 2) := by decide +kernel
theorem dX7_sets_99 : decode cX7_sets 99 = .ok (.ifCond .lt 64, 3) := by decide +kernel
theorem dX7_sets_102 : decode cX7_sets 102 = .ok (.aload_n 0, 1) := by decide +kernel
theorem dX7_sets_103 : decode cX7_sets 103 = .ok (.getfield 56, 3) := by decide +kernel
theorem dX7_sets_106 : decode cX7_sets 106 = .ok (.iload 7, 2) := by decide +kernel
theorem dX7_sets_108 : decode cX7_sets 108 = .ok (.iload 5, 2) := by decide +kernel
theorem dX7_sets_110 : decode cX7_sets 110 = .ok (.iconst 5, 1) := by decide +kernel
theorem dX7_sets_111 : decode cX7_sets 111 = .ok (.irem, 1) := by decide +kernel
theorem dX7_sets_112 : decode cX7_sets 112 = .ok (.iastore, 1) := by decide +kernel
theorem dX7_sets_113 : decode cX7_sets 113 = .ok (.iload 5, 2) := by decide +kernel
theorem dX7_sets_115 : decode cX7_sets 115 = .ok (.iconst 5, 1) := by decide +kernel
theorem dX7_sets_116 : decode cX7_sets 116 = .ok (.idiv, 1) := by decide +kernel
theorem dX7_sets_117 : decode cX7_sets 117 = .ok (.istore 5, 2) := by decide +kernel
theorem dX7_sets_119 : decode cX7_sets 119 = .ok (.iload 6, 2) := by decide +kernel
theorem dX7_sets_121 : decode cX7_sets 121 = .ok (.aload_n 0, 1) := by decide +kernel
theorem dX7_sets_122 : decode cX7_sets 122 = .ok (.getfield 56, 3) := by decide +kernel
theorem dX7_sets_125 : decode cX7_sets 125 = .ok (.iload 7, 2) := by decide +kernel
theorem dX7_sets_127 : decode cX7_sets 127 = .ok (.iaload, 1) := by decide +kernel
theorem dX7_sets_128 : decode cX7_sets 128 = .ok (.iconst 4, 1) := by decide +kernel
theorem dX7_sets_129 : decode cX7_sets 129 = .ok (.if_icmp .ne 18, 3) := by decide +kernel
theorem dX7_sets_132 : decode cX7_sets 132 = .ok (.aload_n 0, 1) := by decide +kernel
theorem dX7_sets_133 : decode cX7_sets 133 = .ok (.getfield 44, 3) := by decide +kernel
theorem dX7_sets_136 : decode cX7_sets 136 = .ok (.aload_n 0, 1) := by decide +kernel
theorem dX7_sets_137 : decode cX7_sets 137 = .ok (.getfield 53, 3) := by decide +kernel
theorem dX7_sets_140 : decode cX7_sets 140 = .ok (.iload 7, 2) := by decide +kernel
theorem dX7_sets_142 : decode cX7_sets 142 = .ok (.iaload, 1) := by decide +kernel
theorem dX7_sets_143 : decode cX7_sets 143 = .ok (.iaload, 1) := by decide +kernel
theorem dX7_sets_144 : decode cX7_sets 144 = .ok (.goto 10, 3) := by decide +kernel
theorem dX7_sets_147 : decode cX7_sets 147 = .ok (.aload_n 0, 1) := by decide +kernel
theorem dX7_sets_148 : decode cX7_sets 148 = .ok (.getfield 56, 3) := by decide +kernel
theorem dX7_sets_151 : decode cX7_sets 151 = .ok (.iload 7, 2) := by decide +kernel
theorem dX7_sets_153 : decode cX7_sets 153 = .ok (.iaload, 1) := by decide +kernel
theorem dX7_sets_154 : decode cX7_sets 154 = .ok (.iadd, 1) := by decide +kernel
theorem dX7_sets_155 : decode cX7_sets 155 = .ok (.istore 6, 2) := by decide +kernel
theorem dX7_sets_157 : decode cX7_sets 157 = .ok (.iinc 7 (-1), 3) := by decide +kernel
theorem dX7_sets_160 : decode cX7_sets 160 = .ok (.goto (-63), 3) := by decide +kernel
theorem dX7_sets_163 : decode cX7_sets 163 = .ok (.aload_n 0, 1) := by decide +kernel
theorem dX7_sets_164 : decode cX7_sets 164 = .ok (.getfield 154, 3) := by decide +kernel
theorem dX7_sets_167 : decode cX7_sets 167 = .ok (.iconst (-1), 1) := by decide +kernel
theorem dX7_sets_168 : decode cX7_sets 168 = .ok (.if_icmp .eq 12, 3) := by decide +kernel
theorem dX7_sets_171 : decode cX7_sets 171 = .ok (.iload 6, 2) := by decide +kernel
theorem dX7_sets_173 : decode cX7_sets 173 = .ok (.aload_n 0, 1) := by decide +kernel
theorem dX7_sets_174 : decode cX7_sets 174 = .ok (.getfield 154, 3) := by decide +kernel
theorem dX7_sets_177 : decode cX7_sets 177 = .ok (.if_icmp .ge 49, 3) := by decide +kernel
theorem dX7_sets_180 : decode cX7_sets 180 = .ok (.aload_n 0, 1) := by decide +kernel
theorem dX7_sets_181 : decode cX7_sets 181 = .ok (.iload_n 2, 1) := by decide +kernel
theorem dX7_sets_182 : decode cX7_sets 182 = .ok (.invokevirtual 157, 3) := by decide +kernel
theorem dX7_sets_185 : decode cX7_sets 185 = .ok (.ifCond .ne 6, 3) := by decide +kernel
theorem dX7_sets_188 : decode cX7_sets 188 = .ok (.goto 38, 3) := by decide +kernel
theorem dX7_sets_191 : decode cX7_sets 191 = .ok (.aload_n 0, 1) := by decide +kernel
theorem dX7_sets_192 : decode cX7_sets 192 = .ok (.iload 6, 2) := by decide +kernel
theorem dX7_sets_194 : decode cX7_sets 194 = .ok (.putfield 154, 3) := by decide +kernel
theorem dX7_sets_197 : decode cX7_sets 197 = .ok (.iconst 0, 1) := by decide +kernel
theorem dX7_sets_198 : decode cX7_sets 198 = .ok (.istore 7, 2) := by decide +kernel
theorem dX7_sets_200 : decode cX7_sets 200 = .ok (.iload 7, 2) := by decide +kernel
theorem dX7_sets_202 : decode cX7_sets 202 = .ok (.iload_n 2, 1) := by decide +kernel
theorem dX7_sets_203 : decode cX7_sets 203 = .ok (.if_icmp .ge 23, 3) := by decide +kernel
theorem dX7_sets_206 : decode cX7_sets 206 = .ok (.aload_n 0, 1) := by decide +kernel
theorem dX7_sets_207 : decode cX7_sets 207 = .ok (.getfield 59, 3) := by decide +kernel
theorem dX7_sets_210 : decode cX7_sets 210 = .ok (.iload 7, 2) := by decide +kernel
theorem dX7_sets_212 : decode cX7_sets 212 = .ok (.aload_n 0, 1) := by decide +kernel
theorem dX7_sets_213 : decode cX7_sets 213 = .ok (.getfield 56, 3) := by decide +kernel
theorem dX7_sets_216 : decode cX7_sets 216 = .ok (.iload 7, 2) := by decide +kernel
theorem dX7_sets_218 : decode cX7_sets 218 = .ok (.iaload, 1) := by decide +kernel
theorem dX7_sets_219 : decode cX7_sets 219 = .ok (.iastore, 1) := by decide +kernel
theorem dX7_sets_220 : decode cX7_sets 220 = .ok (.iinc 7 1, 3) := by decide +kernel
theorem dX7_sets_223 : decode cX7_sets 223 = .ok (.goto (-23), 3) := by decide +kernel
theorem dX7_sets_226 : decode cX7_sets 226 = .ok (.iinc 4 1, 3) := by decide +kernel
theorem dX7_sets_229 : decode cX7_sets 229 = .ok (.goto (-150), 3) := by decide +kernel
theorem dX7_sets_232 : decode cX7_sets 232 = .ok (.iload_n 2, 1) := by decide +kernel
theorem dX7_sets_233 : decode cX7_sets 233 = .ok (.ireturn, 1) := by decide +kernel
theorem dX7_isGood_0 : decode cX7_isGood 0 = .ok (.iconst 0, 1) := by decide +kernel
theorem dX7_isGood_1 : decode cX7_isGood 1 = .ok (.istore_n 2, 1) := by decide +kernel
theorem dX7_isGood_2 : decode cX7_isGood 2 = .ok (.iload_n 2, 1) := by decide +kernel
theorem dX7_isGood_3 : decode cX7_isGood 3 = .ok (.iload_n 1, 1) := by decide +kernel
theorem dX7_isGood_4 : decode cX7_isGood 4 = .ok (.if_icmp .ge 76, 3) := by decide +kernel
theorem dX7_isGood_7 : decode cX7_isGood 7 = .ok (.aload_n 0, 1) := by decide +kernel
theorem dX7_isGood_8 : decode cX7_isGood 8 = .ok (.aload_n 0, 1) := by decide +kernel
theorem dX7_isGood_9 : decode cX7_isGood 9 = .ok (.getfield 53, 3) := by decide +kernel
theorem dX7_isGood_12 : decode cX7_isGood 12 = .ok (.iload_n 2, 1) := by decide +kernel
theorem dX7_isGood_13 : decode cX7_isGood 13 = .ok (.iaload, 1) := by decide +kernel
theorem dX7_isGood_14 : decode cX7_isGood 14 = .ok (.aload_n 0, 1) := by decide +kernel
theorem dX7_isGood_15 : decode cX7_isGood 15 = .ok (.getfield 56, 3) := by decide +kernel
theorem dX7_isGood_18 : decode cX7_isGood 18 = .ok (.iload_n 2, 1) := by decide +kernel
theorem dX7_isGood_19 : decode cX7_isGood 19 = .ok (.iaload, 1) := by decide +kernel
theorem dX7_isGood_20 : decode cX7_isGood 20 = .ok (.invokevirtual 151, 3) := by decide +kernel
theorem dX7_isGood_23 : decode cX7_isGood 23 = .ok (.ifCond .ne 5, 3) := by decide +kernel
theorem dX7_isGood_26 : decode cX7_isGood 26 = .ok (.iconst 0, 1) := by decide +kernel
theorem dX7_isGood_27 : decode cX7_isGood 27 = .ok (.ireturn, 1) := by decide +kernel
theorem dX7_isGood_28 : decode cX7_isGood 28 = .ok (.iconst 0, 1) := by decide +kernel
theorem dX7_isGood_29 : decode cX7_isGood 29 = .ok (.istore_n 3, 1) := by decide +kernel
theorem dX7_isGood_30 : decode cX7_isGood 30 = .ok (.iload_n 3, 1) := by decide +kernel
theorem dX7_isGood_31 : decode cX7_isGood 31 = .ok (.iload_n 2, 1) := by decide +kernel
theorem dX7_isGood_32 : decode cX7_isGood 32 = .ok (.if_icmp .ge 42, 3) := by decide +kernel
theorem dX7_isGood_35 : decode cX7_isGood 35 = .ok (.aload_n 0, 1) := by decide +kernel
theorem dX7_isGood_36 : decode cX7_isGood 36 = .ok (.aload_n 0, 1) := by decide +kernel
theorem dX7_isGood_37 : decode cX7_isGood 37 = .ok (.getfield 53, 3) := by decide +kernel
theorem dX7_isGood_40 : decode cX7_isGood 40 = .ok (.iload_n 2, 1) := by decide +kernel
theorem dX7_isGood_41 : decode cX7_isGood 41 = .ok (.iaload, 1) := by decide +kernel
theorem dX7_isGood_42 : decode cX7_isGood 42 = .ok (.aload_n 0, 1) := by decide +kernel
theorem dX7_isGood_43 : decode cX7_isGood 43 = .ok (.getfield 56, 3) := by decide +kernel
theorem dX7_isGood_46 : decode cX7_isGood 46 = .ok (.iload_n 2, 1) := by decide +kernel
theorem dX7_isGood_47 : decode cX7_isGood 47 = .ok (.iaload, 1) := by decide +kernel
theorem dX7_isGood_48 : decode cX7_isGood 48 = .ok (.aload_n 0, 1) := by decide +kernel
theorem dX7_isGood_49 : decode cX7_isGood 49 = .ok (.getfield 53, 3) := by decide +kernel
theorem dX7_isGood_52 : decode cX7_isGood 52 = .ok (.iload_n 3, 1) := by decide +kernel
theorem dX7_isGood_53 : decode cX7_isGood 53 = .ok (.iaload, 1) := by decide +kernel
theorem dX7_isGood_54 : decode cX7_isGood 54 = .ok (.aload_n 0, 1) := by decide +kernel
theorem dX7_isGood_55 : decode cX7_isGood 55 = .ok (.getfield 56, 3) := by decide +kernel
theorem dX7_isGood_58 : decode cX7_isGood 58 = .ok (.iload_n 3, 1) := by decide +kernel
theorem dX7_isGood_59 : decode cX7_isGood 59 = .ok (.iaload, 1) := by decide +kernel
theorem dX7_isGood_60 : decode cX7_isGood 60 = .ok (.invokevirtual 160, 3) := by decide +kernel
theorem dX7_isGood_63 : decode cX7_isGood 63 = .ok (.ifCond .ne 5, 3) := by decide +kernel
theorem dX7_isGood_66 : decode cX7_isGood 66 = .ok (.iconst 0, 1) := by decide +kernel
theorem dX7_isGood_67 : decode cX7_isGood 67 = .ok (.ireturn, 1) := by decide +kernel
theorem dX7_isGood_68 : decode cX7_isGood 68 = .ok (.iinc 3 1, 3) := by decide +kernel
theorem dX7_isGood_71 : decode cX7_isGood 71 = .ok (.goto (-41), 3) := by decide +kernel
theorem dX7_isGood_74 : decode cX7_isGood 74 = .ok (.iinc 2 1, 3) := by decide +kernel
theorem dX7_isGood_77 : decode cX7_isGood 77 = .ok (.goto (-75), 3) := by decide +kernel
theorem dX7_isGood_80 : decode cX7_isGood 80 = .ok (.iconst 1, 1) := by decide +kernel
theorem dX7_isGood_81 : decode cX7_isGood 81 = .ok (.ireturn, 1) := by decide +kernel
theorem dX7_set_0 : decode cX7_set 0 = .ok (.aload_n 0, 1) := by decide +kernel
theorem dX7_set_1 : decode cX7_set 1 = .ok (.iload_n 1, 1) := by decide +kernel
theorem dX7_set_2 : decode cX7_set 2 = .ok (.invokevirtual 139, 3) := by decide +kernel
theorem dX7_set_5 : decode cX7_set 5 = .ok (.ifCond .ne 5, 3) := by decide +kernel
theorem dX7_set_8 : decode cX7_set 8 = .ok (.iconst (-1), 1) := by decide +kernel
theorem dX7_set_9 : decode cX7_set 9 = .ok (.ireturn, 1) := by decide +kernel
theorem dX7_set_10 : decode cX7_set 10 = .ok (.aload_n 0, 1) := by decide +kernel
theorem dX7_set_11 : decode cX7_set 11 = .ok (.aload_n 0, 1) := by decide +kernel
theorem dX7_set_12 : decode cX7_set 12 = .ok (.getfield 32, 3) := by decide +kernel
theorem dX7_set_15 : decode cX7_set 15 = .ok (.iload_n 1, 1) := by decide +kernel
theorem dX7_set_16 : decode cX7_set 16 = .ok (.iaload, 1) := by decide +kernel
theorem dX7_set_17 : decode cX7_set 17 = .ok (.invokevirtual 164, 3) := by decide +kernel
theorem dX7_set_20 : decode cX7_set 20 = .ok (.istore_n 2, 1) := by decide +kernel
theorem dX7_set_21 : decode cX7_set 21 = .ok (.iconst 0, 1) := by decide +kernel
theorem dX7_set_22 : decode cX7_set 22 = .ok (.istore_n 3, 1) := by decide +kernel
theorem dX7_set_23 : decode cX7_set 23 = .ok (.iload_n 3, 1) := by decide +kernel
theorem dX7_set_24 : decode cX7_set 24 = .ok (.iload_n 2, 1) := by decide +kernel
theorem dX7_set_25 : decode cX7_set 25 = .ok (.if_icmp .ge 19, 3) := by decide +kernel
theorem dX7_set_28 : decode cX7_set 28 = .ok (.aload_n 0, 1) := by decide +kernel
theorem dX7_set_29 : decode cX7_set 29 = .ok (.getfield 53, 3) := by decide +kernel
theorem dX7_set_32 : decode cX7_set 32 = .ok (.iload_n 3, 1) := by decide +kernel
theorem dX7_set_33 : decode cX7_set 33 = .ok (.iaload, 1) := by decide +kernel
theorem dX7_set_34 : decode cX7_set 34 = .ok (.iload_n 1, 1) := by decide +kernel
theorem dX7_set_35 : decode cX7_set 35 = .ok (.if_icmp .eq 9, 3) := by decide +kernel
theorem dX7_set_38 : decode cX7_set 38 = .ok (.iinc 3 1, 3) := by decide +kernel
theorem dX7_set_41 : decode cX7_set 41 = .ok (.goto (-18), 3) := by decide +kernel
theorem dX7_set_44 : decode cX7_set 44 = .ok (.aload_n 0, 1) := by decide +kernel
theorem dX7_set_45 : decode cX7_set 45 = .ok (.getfield 59, 3) := by decide +kernel
theorem dX7_set_48 : decode cX7_set 48 = .ok (.iload_n 3, 1) := by decide +kernel
theorem dX7_set_49 : decode cX7_set 49 = .ok (.iaload, 1) := by decide +kernel
theorem dX7_set_50 : decode cX7_set 50 = .ok (.ireturn, 1) := by decide +kernel
theorem dX7_cost_0 : decode cX7_cost 0 = .ok (.aload_n 0, 1) := by decide +kernel
theorem dX7_cost_1 : decode cX7_cost 1 = .ok (.iload_n 1, 1) := by decide +kernel
end
section
theorem dX7_cost_2 : decode cX7_cost 2 = .ok (.invokevirtual 121, 3) := by decide +kernel
theorem dX7_cost_5 : decode cX7_cost 5 = .ok (.ifCond .ne 5, 3) := by decide +kernel
theorem dX7_cost_8 : decode cX7_cost 8 = .ok (.iconst (-1), 1) := by decide +kernel
theorem dX7_cost_9 : decode cX7_cost 9 = .ok (.ireturn, 1) := by decide +kernel
theorem dX7_cost_10 : decode cX7_cost 10 = .ok (.aload_n 0, 1) := by decide +kernel
theorem dX7_cost_11 : decode cX7_cost 11 = .ok (.iload_n 1, 1) := by decide +kernel
theorem dX7_cost_12 : decode cX7_cost 12 = .ok (.invokevirtual 164, 3) := by decide +kernel
theorem dX7_cost_15 : decode cX7_cost 15 = .ok (.pop, 1) := by decide +kernel
theorem dX7_cost_16 : decode cX7_cost 16 = .ok (.aload_n 0, 1) := by decide +kernel
theorem dX7_cost_17 : decode cX7_cost 17 = .ok (.getfield 154, 3) := by decide +kernel
theorem dX7_cost_20 : decode cX7_cost 20 = .ok (.ireturn, 1) := by decide +kernel
theorem dX7_told_0 : decode cX7_told 0 = .ok (.aload_n 0, 1) := by decide +kernel
theorem dX7_told_1 : decode cX7_told 1 = .ok (.iload_n 1, 1) := by decide +kernel
theorem dX7_told_2 : decode cX7_told 2 = .ok (.invokevirtual 139, 3) := by decide +kernel
theorem dX7_told_5 : decode cX7_told 5 = .ok (.ifCond .ne 6, 3) := by decide +kernel
theorem dX7_told_8 : decode cX7_told 8 = .ok (.ldc 81, 2) := by decide +kernel
theorem dX7_told_10 : decode cX7_told 10 = .ok (.ireturn, 1) := by decide +kernel
theorem dX7_told_11 : decode cX7_told 11 = .ok (.iload_n 2, 1) := by decide +kernel
theorem dX7_told_12 : decode cX7_told 12 = .ok (.tableswitch 71 0 4 #[36, 43, 50, 57, 64], 36) := by decide +kernel
theorem dX7_told_48 : decode cX7_told 48 = .ok (.aload_n 0, 1) := by decide +kernel
theorem dX7_told_49 : decode cX7_told 49 = .ok (.getfield 32, 3) := by decide +kernel
theorem dX7_told_52 : decode cX7_told 52 = .ok (.iload_n 1, 1) := by decide +kernel
theorem dX7_told_53 : decode cX7_told 53 = .ok (.iaload, 1) := by decide +kernel
theorem dX7_told_54 : decode cX7_told 54 = .ok (.ireturn, 1) := by decide +kernel
theorem dX7_told_55 : decode cX7_told 55 = .ok (.aload_n 0, 1) := by decide +kernel
theorem dX7_told_56 : decode cX7_told 56 = .ok (.getfield 35, 3) := by decide +kernel
theorem dX7_told_59 : decode cX7_told 59 = .ok (.iload_n 1, 1) := by decide +kernel
theorem dX7_told_60 : decode cX7_told 60 = .ok (.iaload, 1) := by decide +kernel
theorem dX7_told_61 : decode cX7_told 61 = .ok (.ireturn, 1) := by decide +kernel
theorem dX7_told_62 : decode cX7_told 62 = .ok (.aload_n 0, 1) := by decide +kernel
theorem dX7_told_63 : decode cX7_told 63 = .ok (.getfield 38, 3) := by decide +kernel
theorem dX7_told_66 : decode cX7_told 66 = .ok (.iload_n 1, 1) := by decide +kernel
theorem dX7_told_67 : decode cX7_told 67 = .ok (.iaload, 1) := by decide +kernel
theorem dX7_told_68 : decode cX7_told 68 = .ok (.ireturn, 1) := by decide +kernel
theorem dX7_told_69 : decode cX7_told 69 = .ok (.aload_n 0, 1) := by decide +kernel
theorem dX7_told_70 : decode cX7_told 70 = .ok (.getfield 41, 3) := by decide +kernel
theorem dX7_told_73 : decode cX7_told 73 = .ok (.iload_n 1, 1) := by decide +kernel
theorem dX7_told_74 : decode cX7_told 74 = .ok (.iaload, 1) := by decide +kernel
theorem dX7_told_75 : decode cX7_told 75 = .ok (.ireturn, 1) := by decide +kernel
theorem dX7_told_76 : decode cX7_told 76 = .ok (.aload_n 0, 1) := by decide +kernel
theorem dX7_told_77 : decode cX7_told 77 = .ok (.getfield 44, 3) := by decide +kernel
theorem dX7_told_80 : decode cX7_told 80 = .ok (.iload_n 1, 1) := by decide +kernel
theorem dX7_told_81 : decode cX7_told 81 = .ok (.iaload, 1) := by decide +kernel
theorem dX7_told_82 : decode cX7_told 82 = .ok (.ireturn, 1) := by decide +kernel
theorem dX7_told_83 : decode cX7_told 83 = .ok (.ldc 81, 2) := by decide +kernel
theorem dX7_told_85 : decode cX7_told 85 = .ok (.ireturn, 1) := by decide +kernel
theorem dX7_fresh_0 : decode cX7_fresh 0 = .ok (.aload_n 0, 1) := by decide +kernel
theorem dX7_fresh_1 : decode cX7_fresh 1 = .ok (.iload_n 1, 1) := by decide +kernel
theorem dX7_fresh_2 : decode cX7_fresh 2 = .ok (.invokevirtual 121, 3) := by decide +kernel
theorem dX7_fresh_5 : decode cX7_fresh 5 = .ok (.ifCond .eq 16, 3) := by decide +kernel
theorem dX7_fresh_8 : decode cX7_fresh 8 = .ok (.aload_n 0, 1) := by decide +kernel
theorem dX7_fresh_9 : decode cX7_fresh 9 = .ok (.getfield 47, 3) := by decide +kernel
theorem dX7_fresh_12 : decode cX7_fresh 12 = .ok (.iload_n 1, 1) := by decide +kernel
theorem dX7_fresh_13 : decode cX7_fresh 13 = .ok (.baload, 1) := by decide +kernel
theorem dX7_fresh_14 : decode cX7_fresh 14 = .ok (.ifCond .eq 7, 3) := by decide +kernel
theorem dX7_fresh_17 : decode cX7_fresh 17 = .ok (.iconst 1, 1) := by decide +kernel
theorem dX7_fresh_18 : decode cX7_fresh 18 = .ok (.goto 4, 3) := by decide +kernel
theorem dX7_fresh_21 : decode cX7_fresh 21 = .ok (.iconst 0, 1) := by decide +kernel
theorem dX7_fresh_22 : decode cX7_fresh 22 = .ok (.ireturn, 1) := by decide +kernel
theorem dX7_edition_0 : decode cX7_edition 0 = .ok (.aload_n 0, 1) := by decide +kernel
theorem dX7_edition_1 : decode cX7_edition 1 = .ok (.dup, 1) := by decide +kernel
theorem dX7_edition_2 : decode cX7_edition 2 = .ok (.getfield 167, 3) := by decide +kernel
theorem dX7_edition_5 : decode cX7_edition 5 = .ok (.iconst 1, 1) := by decide +kernel
theorem dX7_edition_6 : decode cX7_edition 6 = .ok (.iadd, 1) := by decide +kernel
theorem dX7_edition_7 : decode cX7_edition 7 = .ok (.putfield 167, 3) := by decide +kernel
theorem dX7_edition_10 : decode cX7_edition 10 = .ok (.iconst 0, 1) := by decide +kernel
theorem dX7_edition_11 : decode cX7_edition 11 = .ok (.istore_n 1, 1) := by decide +kernel
theorem dX7_edition_12 : decode cX7_edition 12 = .ok (.iconst 0, 1) := by decide +kernel
theorem dX7_edition_13 : decode cX7_edition 13 = .ok (.istore_n 2, 1) := by decide +kernel
theorem dX7_edition_14 : decode cX7_edition 14 = .ok (.iload_n 2, 1) := by decide +kernel
theorem dX7_edition_15 : decode cX7_edition 15 = .ok (.aload_n 0, 1) := by decide +kernel
theorem dX7_edition_16 : decode cX7_edition 16 = .ok (.getfield 62, 3) := by decide +kernel
theorem dX7_edition_19 : decode cX7_edition 19 = .ok (.if_icmp .ge 41, 3) := by decide +kernel
theorem dX7_edition_22 : decode cX7_edition 22 = .ok (.aload_n 0, 1) := by decide +kernel
theorem dX7_edition_23 : decode cX7_edition 23 = .ok (.getfield 47, 3) := by decide +kernel
theorem dX7_edition_26 : decode cX7_edition 26 = .ok (.iload_n 2, 1) := by decide +kernel
theorem dX7_edition_27 : decode cX7_edition 27 = .ok (.baload, 1) := by decide +kernel
theorem dX7_edition_28 : decode cX7_edition 28 = .ok (.ifCond .ne 6, 3) := by decide +kernel
theorem dX7_edition_31 : decode cX7_edition 31 = .ok (.goto 23, 3) := by decide +kernel
theorem dX7_edition_34 : decode cX7_edition 34 = .ok (.aload_n 0, 1) := by decide +kernel
theorem dX7_edition_35 : decode cX7_edition 35 = .ok (.getfield 47, 3) := by decide +kernel
theorem dX7_edition_38 : decode cX7_edition 38 = .ok (.iload_n 2, 1) := by decide +kernel
theorem dX7_edition_39 : decode cX7_edition 39 = .ok (.iconst 0, 1) := by decide +kernel
theorem dX7_edition_40 : decode cX7_edition 40 = .ok (.bastore, 1) := by decide +kernel
theorem dX7_edition_41 : decode cX7_edition 41 = .ok (.aload_n 0, 1) := by decide +kernel
theorem dX7_edition_42 : decode cX7_edition 42 = .ok (.getfield 50, 3) := by decide +kernel
theorem dX7_edition_45 : decode cX7_edition 45 = .ok (.iload_n 2, 1) := by decide +kernel
theorem dX7_edition_46 : decode cX7_edition 46 = .ok (.aload_n 0, 1) := by decide +kernel
theorem dX7_edition_47 : decode cX7_edition 47 = .ok (.getfield 167, 3) := by decide +kernel
theorem dX7_edition_50 : decode cX7_edition 50 = .ok (.iastore, 1) := by decide +kernel
theorem dX7_edition_51 : decode cX7_edition 51 = .ok (.iinc 1 1, 3) := by decide +kernel
theorem dX7_edition_54 : decode cX7_edition 54 = .ok (.iinc 2 1, 3) := by decide +kernel
theorem dX7_edition_57 : decode cX7_edition 57 = .ok (.goto (-43), 3) := by decide +kernel
theorem dX7_edition_60 : decode cX7_edition 60 = .ok (.iload_n 1, 1) := by decide +kernel
theorem dX7_edition_61 : decode cX7_edition 61 = .ok (.ireturn, 1) := by decide +kernel
theorem dX7_printed_0 : decode cX7_printed 0 = .ok (.aload_n 0, 1) := by decide +kernel
theorem dX7_printed_1 : decode cX7_printed 1 = .ok (.iload_n 1, 1) := by decide +kernel
theorem dX7_printed_2 : decode cX7_printed 2 = .ok (.invokevirtual 121, 3) := by decide +kernel
theorem dX7_printed_5 : decode cX7_printed 5 = .ok (.ifCond .eq 12, 3) := by decide +kernel
theorem dX7_printed_8 : decode cX7_printed 8 = .ok (.aload_n 0, 1) := by decide +kernel
theorem dX7_printed_9 : decode cX7_printed 9 = .ok (.getfield 50, 3) := by decide +kernel
theorem dX7_printed_12 : decode cX7_printed 12 = .ok (.iload_n 1, 1) := by decide +kernel
theorem dX7_printed_13 : decode cX7_printed 13 = .ok (.iaload, 1) := by decide +kernel
theorem dX7_printed_14 : decode cX7_printed 14 = .ok (.goto 4, 3) := by decide +kernel
theorem dX7_printed_17 : decode cX7_printed 17 = .ok (.iconst (-1), 1) := by decide +kernel
theorem dX7_printed_18 : decode cX7_printed 18 = .ok (.ireturn, 1) := by decide +kernel
theorem dX7_count_0 : decode cX7_count 0 = .ok (.iconst 0, 1) := by decide +kernel
theorem dX7_count_1 : decode cX7_count 1 = .ok (.istore_n 2, 1) := by decide +kernel
theorem dX7_count_2 : decode cX7_count 2 = .ok (.iload_n 1, 1) := by decide +kernel
theorem dX7_count_3 : decode cX7_count 3 = .ok (.tableswitch 127 0 5 #[37, 42, 47, 52, 87, 92], 37) := by decide +kernel
theorem dX7_count_40 : decode cX7_count 40 = .ok (.aload_n 0, 1) := by decide +kernel
theorem dX7_count_41 : decode cX7_count 41 = .ok (.getfield 62, 3) := by decide +kernel
theorem dX7_count_44 : decode cX7_count 44 = .ok (.ireturn, 1) := by decide +kernel
theorem dX7_count_45 : decode cX7_count 45 = .ok (.aload_n 0, 1) := by decide +kernel
theorem dX7_count_46 : decode cX7_count 46 = .ok (.getfield 86, 3) := by decide +kernel
theorem dX7_count_49 : decode cX7_count 49 = .ok (.ireturn, 1) := by decide +kernel
theorem dX7_count_50 : decode cX7_count 50 = .ok (.aload_n 0, 1) := by decide +kernel
theorem dX7_count_51 : decode cX7_count 51 = .ok (.getfield 92, 3) := by decide +kernel
theorem dX7_count_54 : decode cX7_count 54 = .ok (.ireturn, 1) := by decide +kernel
theorem dX7_count_55 : decode cX7_count 55 = .ok (.iconst 0, 1) := by decide +kernel
theorem dX7_count_56 : decode cX7_count 56 = .ok (.istore_n 3, 1) := by decide +kernel
theorem dX7_count_57 : decode cX7_count 57 = .ok (.iload_n 3, 1) := by decide +kernel
theorem dX7_count_58 : decode cX7_count 58 = .ok (.aload_n 0, 1) := by decide +kernel
theorem dX7_count_59 : decode cX7_count 59 = .ok (.getfield 133, 3) := by decide +kernel
theorem dX7_count_62 : decode cX7_count 62 = .ok (.if_icmp .ge 26, 3) := by decide +kernel
theorem dX7_count_65 : decode cX7_count 65 = .ok (.iload_n 2, 1) := by decide +kernel
theorem dX7_count_66 : decode cX7_count 66 = .ok (.aload_n 0, 1) := by decide +kernel
theorem dX7_count_67 : decode cX7_count 67 = .ok (.getfield 28, 3) := by decide +kernel
theorem dX7_count_70 : decode cX7_count 70 = .ok (.iload_n 3, 1) := by decide +kernel
theorem dX7_count_71 : decode cX7_count 71 = .ok (.baload, 1) := by decide +kernel
theorem dX7_count_72 : decode cX7_count 72 = .ok (.ifCond .eq 7, 3) := by decide +kernel
theorem dX7_count_75 : decode cX7_count 75 = .ok (.iconst 1, 1) := by decide +kernel
theorem dX7_count_76 : decode cX7_count 76 = .ok (.goto 4, 3) := by decide +kernel
theorem dX7_count_79 : decode cX7_count 79 = .ok (.iconst 0, 1) := by decide +kernel
theorem dX7_count_80 : decode cX7_count 80 = .ok (.iadd, 1) := by decide +kernel
theorem dX7_count_81 : decode cX7_count 81 = .ok (.istore_n 2, 1) := by decide +kernel
theorem dX7_count_82 : decode cX7_count 82 = .ok (.iinc 3 1, 3) := by decide +kernel
theorem dX7_count_85 : decode cX7_count 85 = .ok (.goto (-28), 3) := by decide +kernel
theorem dX7_count_88 : decode cX7_count 88 = .ok (.iload_n 2, 1) := by decide +kernel
theorem dX7_count_89 : decode cX7_count 89 = .ok (.ireturn, 1) := by decide +kernel
theorem dX7_count_90 : decode cX7_count 90 = .ok (.aload_n 0, 1) := by decide +kernel
theorem dX7_count_91 : decode cX7_count 91 = .ok (.getfield 167, 3) := by decide +kernel
theorem dX7_count_94 : decode cX7_count 94 = .ok (.ireturn, 1) := by decide +kernel
theorem dX7_count_95 : decode cX7_count 95 = .ok (.iconst 0, 1) := by decide +kernel
theorem dX7_count_96 : decode cX7_count 96 = .ok (.istore_n 3, 1) := by decide +kernel
theorem dX7_count_97 : decode cX7_count 97 = .ok (.iload_n 3, 1) := by decide +kernel
theorem dX7_count_98 : decode cX7_count 98 = .ok (.aload_n 0, 1) := by decide +kernel
theorem dX7_count_99 : decode cX7_count 99 = .ok (.getfield 62, 3) := by decide +kernel
theorem dX7_count_102 : decode cX7_count 102 = .ok (.if_icmp .ge 26, 3) := by decide +kernel
theorem dX7_count_105 : decode cX7_count 105 = .ok (.iload_n 2, 1) := by decide +kernel
theorem dX7_count_106 : decode cX7_count 106 = .ok (.aload_n 0, 1) := by decide +kernel
theorem dX7_count_107 : decode cX7_count 107 = .ok (.getfield 47, 3) := by decide +kernel
theorem dX7_count_110 : decode cX7_count 110 = .ok (.iload_n 3, 1) := by decide +kernel
theorem dX7_count_111 : decode cX7_count 111 = .ok (.baload, 1) := by decide +kernel
theorem dX7_count_112 : decode cX7_count 112 = .ok (.ifCond .eq 7, 3) := by decide +kernel
theorem dX7_count_115 : decode cX7_count 115 = .ok (.iconst 1, 1) := by decide +kernel
theorem dX7_count_116 : decode cX7_count 116 = .ok (.goto 4, 3) := by decide +kernel
theorem dX7_count_119 : decode cX7_count 119 = .ok (.iconst 0, 1) := by decide +kernel
theorem dX7_count_120 : decode cX7_count 120 = .ok (.iadd, 1) := by decide +kernel
theorem dX7_count_121 : decode cX7_count 121 = .ok (.istore_n 2, 1) := by decide +kernel
theorem dX7_count_122 : decode cX7_count 122 = .ok (.iinc 3 1, 3) := by decide +kernel
theorem dX7_count_125 : decode cX7_count 125 = .ok (.goto (-28), 3) := by decide +kernel
theorem dX7_count_128 : decode cX7_count 128 = .ok (.iload_n 2, 1) := by decide +kernel
theorem dX7_count_129 : decode cX7_count 129 = .ok (.ireturn, 1) := by decide +kernel
theorem dX7_count_130 : decode cX7_count 130 = .ok (.iconst (-1), 1) := by decide +kernel
theorem dX7_count_131 : decode cX7_count 131 = .ok (.ireturn, 1) := by decide +kernel
theorem dJ9_floorDiv_7cf53_0 : decode cJ9_floorDiv_7cf53 0 = .ok (.iload_n 0, 1) := by decide +kernel
theorem dJ9_floorDiv_7cf53_1 : decode cJ9_floorDiv_7cf53 1 = .ok (.iload_n 1, 1) := by decide +kernel
theorem dJ9_floorDiv_7cf53_2 : decode cJ9_floorDiv_7cf53 2 = .ok (.idiv, 1) := by decide +kernel
theorem dJ9_floorDiv_7cf53_3 : decode cJ9_floorDiv_7cf53 3 = .ok (.istore_n 2, 1) := by decide +kernel
theorem dJ9_floorDiv_7cf53_4 : decode cJ9_floorDiv_7cf53 4 = .ok (.iload_n 0, 1) := by decide +kernel
theorem dJ9_floorDiv_7cf53_5 : decode cJ9_floorDiv_7cf53 5 = .ok (.iload_n 1, 1) := by decide +kernel
theorem dJ9_floorDiv_7cf53_6 : decode cJ9_floorDiv_7cf53 6 = .ok (.ixor, 1) := by decide +kernel
theorem dJ9_floorDiv_7cf53_7 : decode cJ9_floorDiv_7cf53 7 = .ok (.ifCond .ge 14, 3) := by decide +kernel
theorem dJ9_floorDiv_7cf53_10 : decode cJ9_floorDiv_7cf53 10 = .ok (.iload_n 2, 1) := by decide +kernel
theorem dJ9_floorDiv_7cf53_11 : decode cJ9_floorDiv_7cf53 11 = .ok (.iload_n 1, 1) := by decide +kernel
theorem dJ9_floorDiv_7cf53_12 : decode cJ9_floorDiv_7cf53 12 = .ok (.imul, 1) := by decide +kernel
theorem dJ9_floorDiv_7cf53_13 : decode cJ9_floorDiv_7cf53 13 = .ok (.iload_n 0, 1) := by decide +kernel
theorem dJ9_floorDiv_7cf53_14 : decode cJ9_floorDiv_7cf53 14 = .ok (.if_icmp .eq 7, 3) := by decide +kernel
theorem dJ9_floorDiv_7cf53_17 : decode cJ9_floorDiv_7cf53 17 = .ok (.iload_n 2, 1) := by decide +kernel
theorem dJ9_floorDiv_7cf53_18 : decode cJ9_floorDiv_7cf53 18 = .ok (.iconst 1, 1) := by decide +kernel
theorem dJ9_floorDiv_7cf53_19 : decode cJ9_floorDiv_7cf53 19 = .ok (.isub, 1) := by decide +kernel
theorem dJ9_floorDiv_7cf53_20 : decode cJ9_floorDiv_7cf53 20 = .ok (.ireturn, 1) := by decide +kernel
theorem dJ9_floorDiv_7cf53_21 : decode cJ9_floorDiv_7cf53 21 = .ok (.iload_n 2, 1) := by decide +kernel
theorem dJ9_floorDiv_7cf53_22 : decode cJ9_floorDiv_7cf53 22 = .ok (.ireturn, 1) := by decide +kernel
theorem dJ9_floorMod_7cf53_0 : decode cJ9_floorMod_7cf53 0 = .ok (.iload_n 0, 1) := by decide +kernel
theorem dJ9_floorMod_7cf53_1 : decode cJ9_floorMod_7cf53 1 = .ok (.iload_n 1, 1) := by decide +kernel
theorem dJ9_floorMod_7cf53_2 : decode cJ9_floorMod_7cf53 2 = .ok (.irem, 1) := by decide +kernel
theorem dJ9_floorMod_7cf53_3 : decode cJ9_floorMod_7cf53 3 = .ok (.istore_n 2, 1) := by decide +kernel
theorem dJ9_floorMod_7cf53_4 : decode cJ9_floorMod_7cf53 4 = .ok (.iload_n 0, 1) := by decide +kernel
theorem dJ9_floorMod_7cf53_5 : decode cJ9_floorMod_7cf53 5 = .ok (.iload_n 1, 1) := by decide +kernel
theorem dJ9_floorMod_7cf53_6 : decode cJ9_floorMod_7cf53 6 = .ok (.ixor, 1) := by decide +kernel
theorem dJ9_floorMod_7cf53_7 : decode cJ9_floorMod_7cf53 7 = .ok (.ifCond .ge 11, 3) := by decide +kernel
theorem dJ9_floorMod_7cf53_10 : decode cJ9_floorMod_7cf53 10 = .ok (.iload_n 2, 1) := by decide +kernel
theorem dJ9_floorMod_7cf53_11 : decode cJ9_floorMod_7cf53 11 = .ok (.ifCond .eq 7, 3) := by decide +kernel
theorem dJ9_floorMod_7cf53_14 : decode cJ9_floorMod_7cf53 14 = .ok (.iload_n 2, 1) := by decide +kernel
theorem dJ9_floorMod_7cf53_15 : decode cJ9_floorMod_7cf53 15 = .ok (.iload_n 1, 1) := by decide +kernel
theorem dJ9_floorMod_7cf53_16 : decode cJ9_floorMod_7cf53 16 = .ok (.iadd, 1) := by decide +kernel
theorem dJ9_floorMod_7cf53_17 : decode cJ9_floorMod_7cf53 17 = .ok (.ireturn, 1) := by decide +kernel
theorem dJ9_floorMod_7cf53_18 : decode cJ9_floorMod_7cf53 18 = .ok (.iload_n 2, 1) := by decide +kernel
theorem dJ9_floorMod_7cf53_19 : decode cJ9_floorMod_7cf53 19 = .ok (.ireturn, 1) := by decide +kernel
theorem dJ9_abs_0f7a4_0 : decode cJ9_abs_0f7a4 0 = .ok (.iload_n 0, 1) := by decide +kernel
theorem dJ9_abs_0f7a4_1 : decode cJ9_abs_0f7a4 1 = .ok (.ifCond .ge 8, 3) := by decide +kernel
theorem dJ9_abs_0f7a4_4 : decode cJ9_abs_0f7a4 4 = .ok (.iload_n 0, 1) := by decide +kernel
theorem dJ9_abs_0f7a4_5 : decode cJ9_abs_0f7a4 5 = .ok (.ineg, 1) := by decide +kernel
theorem dJ9_abs_0f7a4_6 : decode cJ9_abs_0f7a4 6 = .ok (.goto 4, 3) := by decide +kernel
theorem dJ9_abs_0f7a4_9 : decode cJ9_abs_0f7a4 9 = .ok (.iload_n 0, 1) := by decide +kernel
theorem dJ9_abs_0f7a4_10 : decode cJ9_abs_0f7a4 10 = .ok (.ireturn, 1) := by decide +kernel
theorem dJ9_max_7cf53_0 : decode cJ9_max_7cf53 0 = .ok (.iload_n 0, 1) := by decide +kernel
theorem dJ9_max_7cf53_1 : decode cJ9_max_7cf53 1 = .ok (.iload_n 1, 1) := by decide +kernel
theorem dJ9_max_7cf53_2 : decode cJ9_max_7cf53 2 = .ok (.if_icmp .lt 7, 3) := by decide +kernel
theorem dJ9_max_7cf53_5 : decode cJ9_max_7cf53 5 = .ok (.iload_n 0, 1) := by decide +kernel
theorem dJ9_max_7cf53_6 : decode cJ9_max_7cf53 6 = .ok (.goto 4, 3) := by decide +kernel
theorem dJ9_max_7cf53_9 : decode cJ9_max_7cf53 9 = .ok (.iload_n 1, 1) := by decide +kernel
theorem dJ9_max_7cf53_10 : decode cJ9_max_7cf53 10 = .ok (.ireturn, 1) := by decide +kernel
theorem dJ9_min_7cf53_0 : decode cJ9_min_7cf53 0 = .ok (.iload_n 0, 1) := by decide +kernel
theorem dJ9_min_7cf53_1 : decode cJ9_min_7cf53 1 = .ok (.iload_n 1, 1) := by decide +kernel
theorem dJ9_min_7cf53_2 : decode cJ9_min_7cf53 2 = .ok (.if_icmp .gt 7, 3) := by decide +kernel
theorem dJ9_min_7cf53_5 : decode cJ9_min_7cf53 5 = .ok (.iload_n 0, 1) := by decide +kernel
theorem dJ9_min_7cf53_6 : decode cJ9_min_7cf53 6 = .ok (.goto 4, 3) := by decide +kernel
theorem dJ9_min_7cf53_9 : decode cJ9_min_7cf53 9 = .ok (.iload_n 1, 1) := by decide +kernel
theorem dJ9_min_7cf53_10 : decode cJ9_min_7cf53 10 = .ok (.ireturn, 1) := by decide +kernel
theorem dJxa1e45_init_da8c8_0 : decode cJxa1e45_init_da8c8 0 = .ok (.aload_n 0, 1) := by decide +kernel
theorem dJxa1e45_init_da8c8_1 : decode cJxa1e45_init_da8c8 1 = .ok (.invokespecial 1, 3) := by decide +kernel
theorem dJxa1e45_init_da8c8_4 : decode cJxa1e45_init_da8c8 4 = .ok (.return_, 1) := by decide +kernel
theorem dJxc12de_init_da8c8_0 : decode cJxc12de_init_da8c8 0 = .ok (.aload_n 0, 1) := by decide +kernel
theorem dJxc12de_init_da8c8_1 : decode cJxc12de_init_da8c8 1 = .ok (.invokespecial 1, 3) := by decide +kernel
theorem dJxc12de_init_da8c8_4 : decode cJxc12de_init_da8c8 4 = .ok (.aload_n 0, 1) := by decide +kernel
theorem dJxc12de_init_da8c8_5 : decode cJxc12de_init_da8c8 5 = .ok (.iconst 0, 1) := by decide +kernel
theorem dJxc12de_init_da8c8_6 : decode cJxc12de_init_da8c8 6 = .ok (.putfield 7, 3) := by decide +kernel
theorem dJxc12de_init_da8c8_9 : decode cJxc12de_init_da8c8 9 = .ok (.return_, 1) := by decide +kernel
theorem dJx4a65c_init_da8c8_0 : decode cJx4a65c_init_da8c8 0 = .ok (.aload_n 0, 1) := by decide +kernel
theorem dJx4a65c_init_da8c8_1 : decode cJx4a65c_init_da8c8 1 = .ok (.invokespecial 1, 3) := by decide +kernel
theorem dJx4a65c_init_da8c8_4 : decode cJx4a65c_init_da8c8 4 = .ok (.aload_n 0, 1) := by decide +kernel
theorem dJx4a65c_init_da8c8_5 : decode cJx4a65c_init_da8c8 5 = .ok (.getstatic 39, 3) := by decide +kernel
theorem dJx4a65c_init_da8c8_8 : decode cJx4a65c_init_da8c8 8 = .ok (.putfield 9, 3) := by decide +kernel
theorem dJx4a65c_init_da8c8_11 : decode cJx4a65c_init_da8c8 11 = .ok (.return_, 1) := by decide +kernel
theorem dJx4a65c_grow_92f84_0 : decode cJx4a65c_grow_92f84 0 = .ok (.aload_n 0, 1) := by decide +kernel
theorem dJx4a65c_grow_92f84_1 : decode cJx4a65c_grow_92f84 1 = .ok (.getfield 9, 3) := by decide +kernel
theorem dJx4a65c_grow_92f84_4 : decode cJx4a65c_grow_92f84 4 = .ok (.arraylength, 1) := by decide +kernel
theorem dJx4a65c_grow_92f84_5 : decode cJx4a65c_grow_92f84 5 = .ok (.istore_n 2, 1) := by decide +kernel
theorem dJx4a65c_grow_92f84_6 : decode cJx4a65c_grow_92f84 6 = .ok (.iload_n 2, 1) := by decide +kernel
theorem dJx4a65c_grow_92f84_7 : decode cJx4a65c_grow_92f84 7 = .ok (.ifCond .gt 13, 3) := by decide +kernel
theorem dJx4a65c_grow_92f84_10 : decode cJx4a65c_grow_92f84 10 = .ok (.aload_n 0, 1) := by decide +kernel
theorem dJx4a65c_grow_92f84_11 : decode cJx4a65c_grow_92f84 11 = .ok (.getfield 9, 3) := by decide +kernel
theorem dJx4a65c_grow_92f84_14 : decode cJx4a65c_grow_92f84 14 = .ok (.getstatic 39, 3) := by decide +kernel
theorem dJx4a65c_grow_92f84_17 : decode cJx4a65c_grow_92f84 17 = .ok (.if_acmp .eq 28, 3) := by decide +kernel
theorem dJx4a65c_grow_92f84_20 : decode cJx4a65c_grow_92f84 20 = .ok (.iload_n 2, 1) := by decide +kernel
theorem dJx4a65c_grow_92f84_21 : decode cJx4a65c_grow_92f84 21 = .ok (.iload_n 1, 1) := by decide +kernel
theorem dJx4a65c_grow_92f84_22 : decode cJx4a65c_grow_92f84 22 = .ok (.iload_n 2, 1) := by decide +kernel
theorem dJx4a65c_grow_92f84_23 : decode cJx4a65c_grow_92f84 23 = .ok (.isub, 1) := by decide +kernel
theorem dJx4a65c_grow_92f84_24 : decode cJx4a65c_grow_92f84 24 = .ok (.iload_n 2, 1) := by decide +kernel
theorem dJx4a65c_grow_92f84_25 : decode cJx4a65c_grow_92f84 25 = .ok (.iconst 1, 1) := by decide +kernel
theorem dJx4a65c_grow_92f84_26 : decode cJx4a65c_grow_92f84 26 = .ok (.ishr, 1) := by decide +kernel
theorem dJx4a65c_grow_92f84_27 : decode cJx4a65c_grow_92f84 27 = .ok (.invokestatic 73, 3) := by decide +kernel
theorem dJx4a65c_grow_92f84_30 : decode cJx4a65c_grow_92f84 30 = .ok (.istore_n 3, 1) := by decide +kernel
theorem dJx4a65c_grow_92f84_31 : decode cJx4a65c_grow_92f84 31 = .ok (.aload_n 0, 1) := by decide +kernel
theorem dJx4a65c_grow_92f84_32 : decode cJx4a65c_grow_92f84 32 = .ok (.aload_n 0, 1) := by decide +kernel
theorem dJx4a65c_grow_92f84_33 : decode cJx4a65c_grow_92f84 33 = .ok (.getfield 9, 3) := by decide +kernel
theorem dJx4a65c_grow_92f84_36 : decode cJx4a65c_grow_92f84 36 = .ok (.iload_n 3, 1) := by decide +kernel
theorem dJx4a65c_grow_92f84_37 : decode cJx4a65c_grow_92f84 37 = .ok (.invokestatic 66, 3) := by decide +kernel
theorem dJx4a65c_grow_92f84_40 : decode cJx4a65c_grow_92f84 40 = .ok (.dup_x1, 1) := by decide +kernel
theorem dJx4a65c_grow_92f84_41 : decode cJx4a65c_grow_92f84 41 = .ok (.putfield 9, 3) := by decide +kernel
theorem dJx4a65c_grow_92f84_44 : decode cJx4a65c_grow_92f84 44 = .ok (.areturn, 1) := by decide +kernel
theorem dJx4a65c_grow_92f84_45 : decode cJx4a65c_grow_92f84 45 = .ok (.aload_n 0, 1) := by decide +kernel
theorem dJx4a65c_grow_92f84_46 : decode cJx4a65c_grow_92f84 46 = .ok (.bipush 10, 2) := by decide +kernel
theorem dJx4a65c_grow_92f84_48 : decode cJx4a65c_grow_92f84 48 = .ok (.iload_n 1, 1) := by decide +kernel
theorem dJx4a65c_grow_92f84_49 : decode cJx4a65c_grow_92f84 49 = .ok (.invokestatic 79, 3) := by decide +kernel
theorem dJx4a65c_grow_92f84_52 : decode cJx4a65c_grow_92f84 52 = .ok (.anewarray 7, 3) := by decide +kernel
theorem dJx4a65c_grow_92f84_55 : decode cJx4a65c_grow_92f84 55 = .ok (.dup_x1, 1) := by decide +kernel
theorem dJx4a65c_grow_92f84_56 : decode cJx4a65c_grow_92f84 56 = .ok (.putfield 9, 3) := by decide +kernel
theorem dJx4a65c_grow_92f84_59 : decode cJx4a65c_grow_92f84 59 = .ok (.areturn, 1) := by decide +kernel
theorem dJx4a65c_grow_d5877_0 : decode cJx4a65c_grow_d5877 0 = .ok (.aload_n 0, 1) := by decide +kernel
theorem dJx4a65c_grow_d5877_1 : decode cJx4a65c_grow_d5877 1 = .ok (.aload_n 0, 1) := by decide +kernel
theorem dJx4a65c_grow_d5877_2 : decode cJx4a65c_grow_d5877 2 = .ok (.getfield 48, 3) := by decide +kernel
theorem dJx4a65c_grow_d5877_5 : decode cJx4a65c_grow_d5877 5 = .ok (.iconst 1, 1) := by decide +kernel
theorem dJx4a65c_grow_d5877_6 : decode cJx4a65c_grow_d5877 6 = .ok (.iadd, 1) := by decide +kernel
theorem dJx4a65c_grow_d5877_7 : decode cJx4a65c_grow_d5877 7 = .ok (.invokevirtual 69, 3) := by decide +kernel
theorem dJx4a65c_grow_d5877_10 : decode cJx4a65c_grow_d5877 10 = .ok (.areturn, 1) := by decide +kernel
theorem dJx4a65c_size_8abf5_0 : decode cJx4a65c_size_8abf5 0 = .ok (.aload_n 0, 1) := by decide +kernel
theorem dJx4a65c_size_8abf5_1 : decode cJx4a65c_size_8abf5 1 = .ok (.getfield 48, 3) := by decide +kernel
theorem dJx4a65c_size_8abf5_4 : decode cJx4a65c_size_8abf5 4 = .ok (.ireturn, 1) := by decide +kernel
theorem dJx4a65c_elementData_915e3_0 : decode cJx4a65c_elementData_915e3 0 = .ok (.aload_n 0, 1) := by decide +kernel
theorem dJx4a65c_elementData_915e3_1 : decode cJx4a65c_elementData_915e3 1 = .ok (.getfield 9, 3) := by decide +kernel
theorem dJx4a65c_elementData_915e3_4 : decode cJx4a65c_elementData_915e3 4 = .ok (.iload_n 1, 1) := by decide +kernel
theorem dJx4a65c_elementData_915e3_5 : decode cJx4a65c_elementData_915e3 5 = .ok (.aaload, 1) := by decide +kernel
theorem dJx4a65c_elementData_915e3_6 : decode cJx4a65c_elementData_915e3 6 = .ok (.areturn, 1) := by decide +kernel
theorem dJx4a65c_get_915e3_0 : decode cJx4a65c_get_915e3 0 = .ok (.iload_n 1, 1) := by decide +kernel
theorem dJx4a65c_get_915e3_1 : decode cJx4a65c_get_915e3 1 = .ok (.aload_n 0, 1) := by decide +kernel
theorem dJx4a65c_get_915e3_2 : decode cJx4a65c_get_915e3 2 = .ok (.getfield 48, 3) := by decide +kernel
theorem dJx4a65c_get_915e3_5 : decode cJx4a65c_get_915e3 5 = .ok (.invokestatic 118, 3) := by decide +kernel
theorem dJx4a65c_get_915e3_8 : decode cJx4a65c_get_915e3 8 = .ok (.pop, 1) := by decide +kernel
theorem dJx4a65c_get_915e3_9 : decode cJx4a65c_get_915e3 9 = .ok (.aload_n 0, 1) := by decide +kernel
theorem dJx4a65c_get_915e3_10 : decode cJx4a65c_get_915e3 10 = .ok (.iload_n 1, 1) := by decide +kernel
theorem dJx4a65c_get_915e3_11 : decode cJx4a65c_get_915e3 11 = .ok (.invokevirtual 123, 3) := by decide +kernel
theorem dJx4a65c_get_915e3_14 : decode cJx4a65c_get_915e3 14 = .ok (.areturn, 1) := by decide +kernel
theorem dJx4a65c_add_72be8_0 : decode cJx4a65c_add_72be8 0 = .ok (.iload_n 3, 1) := by decide +kernel
theorem dJx4a65c_add_72be8_1 : decode cJx4a65c_add_72be8 1 = .ok (.aload_n 2, 1) := by decide +kernel
theorem dJx4a65c_add_72be8_2 : decode cJx4a65c_add_72be8 2 = .ok (.arraylength, 1) := by decide +kernel
theorem dJx4a65c_add_72be8_3 : decode cJx4a65c_add_72be8 3 = .ok (.if_icmp .ne 8, 3) := by decide +kernel
theorem dJx4a65c_add_72be8_6 : decode cJx4a65c_add_72be8 6 = .ok (.aload_n 0, 1) := by decide +kernel
theorem dJx4a65c_add_72be8_7 : decode cJx4a65c_add_72be8 7 = .ok (.invokevirtual 129, 3) := by decide +kernel
theorem dJx4a65c_add_72be8_10 : decode cJx4a65c_add_72be8 10 = .ok (.astore_n 2, 1) := by decide +kernel
theorem dJx4a65c_add_72be8_11 : decode cJx4a65c_add_72be8 11 = .ok (.aload_n 2, 1) := by decide +kernel
theorem dJx4a65c_add_72be8_12 : decode cJx4a65c_add_72be8 12 = .ok (.iload_n 3, 1) := by decide +kernel
theorem dJx4a65c_add_72be8_13 : decode cJx4a65c_add_72be8 13 = .ok (.aload_n 1, 1) := by decide +kernel
theorem dJx4a65c_add_72be8_14 : decode cJx4a65c_add_72be8 14 = .ok (.aastore, 1) := by decide +kernel
theorem dJx4a65c_add_72be8_15 : decode cJx4a65c_add_72be8 15 = .ok (.aload_n 0, 1) := by decide +kernel
theorem dJx4a65c_add_72be8_16 : decode cJx4a65c_add_72be8 16 = .ok (.iload_n 3, 1) := by decide +kernel
theorem dJx4a65c_add_72be8_17 : decode cJx4a65c_add_72be8 17 = .ok (.iconst 1, 1) := by decide +kernel
theorem dJx4a65c_add_72be8_18 : decode cJx4a65c_add_72be8 18 = .ok (.iadd, 1) := by decide +kernel
theorem dJx4a65c_add_72be8_19 : decode cJx4a65c_add_72be8 19 = .ok (.putfield 48, 3) := by decide +kernel
theorem dJx4a65c_add_72be8_22 : decode cJx4a65c_add_72be8 22 = .ok (.return_, 1) := by decide +kernel
theorem dJx4a65c_add_9ea2d_0 : decode cJx4a65c_add_9ea2d 0 = .ok (.aload_n 0, 1) := by decide +kernel
theorem dJx4a65c_add_9ea2d_1 : decode cJx4a65c_add_9ea2d 1 = .ok (.dup, 1) := by decide +kernel
theorem dJx4a65c_add_9ea2d_2 : decode cJx4a65c_add_9ea2d 2 = .ok (.getfield 63, 3) := by decide +kernel
theorem dJx4a65c_add_9ea2d_5 : decode cJx4a65c_add_9ea2d 5 = .ok (.iconst 1, 1) := by decide +kernel
theorem dJx4a65c_add_9ea2d_6 : decode cJx4a65c_add_9ea2d 6 = .ok (.iadd, 1) := by decide +kernel
theorem dJx4a65c_add_9ea2d_7 : decode cJx4a65c_add_9ea2d 7 = .ok (.putfield 63, 3) := by decide +kernel
theorem dJx4a65c_add_9ea2d_10 : decode cJx4a65c_add_9ea2d 10 = .ok (.aload_n 0, 1) := by decide +kernel
theorem dJx4a65c_add_9ea2d_11 : decode cJx4a65c_add_9ea2d 11 = .ok (.aload_n 1, 1) := by decide +kernel
theorem dJx4a65c_add_9ea2d_12 : decode cJx4a65c_add_9ea2d 12 = .ok (.aload_n 0, 1) := by decide +kernel
theorem dJx4a65c_add_9ea2d_13 : decode cJx4a65c_add_9ea2d 13 = .ok (.getfield 9, 3) := by decide +kernel
theorem dJx4a65c_add_9ea2d_16 : decode cJx4a65c_add_9ea2d 16 = .ok (.aload_n 0, 1) := by decide +kernel
theorem dJx4a65c_add_9ea2d_17 : decode cJx4a65c_add_9ea2d 17 = .ok (.getfield 48, 3) := by decide +kernel
theorem dJx4a65c_add_9ea2d_20 : decode cJx4a65c_add_9ea2d 20 = .ok (.invokevirtual 131, 3) := by decide +kernel
theorem dJx4a65c_add_9ea2d_23 : decode cJx4a65c_add_9ea2d 23 = .ok (.iconst 1, 1) := by decide +kernel
theorem dJx4a65c_add_9ea2d_24 : decode cJx4a65c_add_9ea2d 24 = .ok (.ireturn, 1) := by decide +kernel
theorem dJx4a65c_remove_915e3_0 : decode cJx4a65c_remove_915e3 0 = .ok (.iload_n 1, 1) := by decide +kernel
theorem dJx4a65c_remove_915e3_1 : decode cJx4a65c_remove_915e3 1 = .ok (.aload_n 0, 1) := by decide +kernel
theorem dJx4a65c_remove_915e3_2 : decode cJx4a65c_remove_915e3 2 = .ok (.getfield 48, 3) := by decide +kernel
theorem dJx4a65c_remove_915e3_5 : decode cJx4a65c_remove_915e3 5 = .ok (.invokestatic 118, 3) := by decide +kernel
theorem dJx4a65c_remove_915e3_8 : decode cJx4a65c_remove_915e3 8 = .ok (.pop, 1) := by decide +kernel
theorem dJx4a65c_remove_915e3_9 : decode cJx4a65c_remove_915e3 9 = .ok (.aload_n 0, 1) := by decide +kernel
theorem dJx4a65c_remove_915e3_10 : decode cJx4a65c_remove_915e3 10 = .ok (.getfield 9, 3) := by decide +kernel
theorem dJx4a65c_remove_915e3_13 : decode cJx4a65c_remove_915e3 13 = .ok (.astore_n 2, 1) := by decide +kernel
theorem dJx4a65c_remove_915e3_14 : decode cJx4a65c_remove_915e3 14 = .ok (.aload_n 2, 1) := by decide +kernel
theorem dJx4a65c_remove_915e3_15 : decode cJx4a65c_remove_915e3 15 = .ok (.iload_n 1, 1) := by decide +kernel
theorem dJx4a65c_remove_915e3_16 : decode cJx4a65c_remove_915e3 16 = .ok (.aaload, 1) := by decide +kernel
theorem dJx4a65c_remove_915e3_17 : decode cJx4a65c_remove_915e3 17 = .ok (.astore_n 3, 1) := by decide +kernel
theorem dJx4a65c_remove_915e3_18 : decode cJx4a65c_remove_915e3 18 = .ok (.aload_n 0, 1) := by decide +kernel
theorem dJx4a65c_remove_915e3_19 : decode cJx4a65c_remove_915e3 19 = .ok (.aload_n 2, 1) := by decide +kernel
theorem dJx4a65c_remove_915e3_20 : decode cJx4a65c_remove_915e3 20 = .ok (.iload_n 1, 1) := by decide +kernel
theorem dJx4a65c_remove_915e3_21 : decode cJx4a65c_remove_915e3 21 = .ok (.invokevirtual 144, 3) := by decide +kernel
theorem dJx4a65c_remove_915e3_24 : decode cJx4a65c_remove_915e3 24 = .ok (.aload_n 3, 1) := by decide +kernel
theorem dJx4a65c_remove_915e3_25 : decode cJx4a65c_remove_915e3 25 = .ok (.areturn, 1) := by decide +kernel
theorem dJx4a65c_fastRemove_b59b0_0 : decode cJx4a65c_fastRemove_b59b0 0 = .ok (.aload_n 0, 1) := by decide +kernel
theorem dJx4a65c_fastRemove_b59b0_1 : decode cJx4a65c_fastRemove_b59b0 1 = .ok (.dup, 1) := by decide +kernel
theorem dJx4a65c_fastRemove_b59b0_2 : decode cJx4a65c_fastRemove_b59b0 2 = .ok (.getfield 63, 3) := by decide +kernel
theorem dJx4a65c_fastRemove_b59b0_5 : decode cJx4a65c_fastRemove_b59b0 5 = .ok (.iconst 1, 1) := by decide +kernel
theorem dJx4a65c_fastRemove_b59b0_6 : decode cJx4a65c_fastRemove_b59b0 6 = .ok (.iadd, 1) := by decide +kernel
theorem dJx4a65c_fastRemove_b59b0_7 : decode cJx4a65c_fastRemove_b59b0 7 = .ok (.putfield 63, 3) := by decide +kernel
theorem dJx4a65c_fastRemove_b59b0_10 : decode cJx4a65c_fastRemove_b59b0 10 = .ok (.aload_n 0, 1) := by decide +kernel
theorem dJx4a65c_fastRemove_b59b0_11 : decode cJx4a65c_fastRemove_b59b0 11 = .ok (.getfield 48, 3) := by decide +kernel
theorem dJx4a65c_fastRemove_b59b0_14 : decode cJx4a65c_fastRemove_b59b0 14 = .ok (.iconst 1, 1) := by decide +kernel
theorem dJx4a65c_fastRemove_b59b0_15 : decode cJx4a65c_fastRemove_b59b0 15 = .ok (.isub, 1) := by decide +kernel
theorem dJx4a65c_fastRemove_b59b0_16 : decode cJx4a65c_fastRemove_b59b0 16 = .ok (.dup, 1) := by decide +kernel
theorem dJx4a65c_fastRemove_b59b0_17 : decode cJx4a65c_fastRemove_b59b0 17 = .ok (.istore_n 3, 1) := by decide +kernel
theorem dJx4a65c_fastRemove_b59b0_18 : decode cJx4a65c_fastRemove_b59b0 18 = .ok (.iload_n 2, 1) := by decide +kernel
theorem dJx4a65c_fastRemove_b59b0_19 : decode cJx4a65c_fastRemove_b59b0 19 = .ok (.if_icmp .le 15, 3) := by decide +kernel
theorem dJx4a65c_fastRemove_b59b0_22 : decode cJx4a65c_fastRemove_b59b0 22 = .ok (.aload_n 1, 1) := by decide +kernel
theorem dJx4a65c_fastRemove_b59b0_23 : decode cJx4a65c_fastRemove_b59b0 23 = .ok (.iload_n 2, 1) := by decide +kernel
theorem dJx4a65c_fastRemove_b59b0_24 : decode cJx4a65c_fastRemove_b59b0 24 = .ok (.iconst 1, 1) := by decide +kernel
theorem dJx4a65c_fastRemove_b59b0_25 : decode cJx4a65c_fastRemove_b59b0 25 = .ok (.iadd, 1) := by decide +kernel
theorem dJx4a65c_fastRemove_b59b0_26 : decode cJx4a65c_fastRemove_b59b0 26 = .ok (.aload_n 1, 1) := by decide +kernel
theorem dJx4a65c_fastRemove_b59b0_27 : decode cJx4a65c_fastRemove_b59b0 27 = .ok (.iload_n 2, 1) := by decide +kernel
theorem dJx4a65c_fastRemove_b59b0_28 : decode cJx4a65c_fastRemove_b59b0 28 = .ok (.iload_n 3, 1) := by decide +kernel
theorem dJx4a65c_fastRemove_b59b0_29 : decode cJx4a65c_fastRemove_b59b0 29 = .ok (.iload_n 2, 1) := by decide +kernel
theorem dJx4a65c_fastRemove_b59b0_30 : decode cJx4a65c_fastRemove_b59b0 30 = .ok (.isub, 1) := by decide +kernel
theorem dJx4a65c_fastRemove_b59b0_31 : decode cJx4a65c_fastRemove_b59b0 31 = .ok (.invokestatic 112, 3) := by decide +kernel
theorem dJx4a65c_fastRemove_b59b0_34 : decode cJx4a65c_fastRemove_b59b0 34 = .ok (.aload_n 1, 1) := by decide +kernel
theorem dJx4a65c_fastRemove_b59b0_35 : decode cJx4a65c_fastRemove_b59b0 35 = .ok (.aload_n 0, 1) := by decide +kernel
theorem dJx4a65c_fastRemove_b59b0_36 : decode cJx4a65c_fastRemove_b59b0 36 = .ok (.iload_n 3, 1) := by decide +kernel
theorem dJx4a65c_fastRemove_b59b0_37 : decode cJx4a65c_fastRemove_b59b0 37 = .ok (.dup_x1, 1) := by decide +kernel
theorem dJx4a65c_fastRemove_b59b0_38 : decode cJx4a65c_fastRemove_b59b0 38 = .ok (.putfield 48, 3) := by decide +kernel
theorem dJx4a65c_fastRemove_b59b0_41 : decode cJx4a65c_fastRemove_b59b0 41 = .ok (.aconst_null, 1) := by decide +kernel
theorem dJx4a65c_fastRemove_b59b0_42 : decode cJx4a65c_fastRemove_b59b0 42 = .ok (.aastore, 1) := by decide +kernel
theorem dJx4a65c_fastRemove_b59b0_43 : decode cJx4a65c_fastRemove_b59b0 43 = .ok (.return_, 1) := by decide +kernel
theorem dJ7_copyOf_1904c_0 : decode cJ7_copyOf_1904c 0 = .ok (.aload_n 0, 1) := by decide +kernel
theorem dJ7_copyOf_1904c_1 : decode cJ7_copyOf_1904c 1 = .ok (.iload_n 1, 1) := by decide +kernel
theorem dJ7_copyOf_1904c_2 : decode cJ7_copyOf_1904c 2 = .ok (.aload_n 0, 1) := by decide +kernel
theorem dJ7_copyOf_1904c_3 : decode cJ7_copyOf_1904c 3 = .ok (.invokevirtual 86, 3) := by decide +kernel
theorem dJ7_copyOf_1904c_6 : decode cJ7_copyOf_1904c 6 = .ok (.invokestatic 300, 3) := by decide +kernel
theorem dJ7_copyOf_1904c_9 : decode cJ7_copyOf_1904c 9 = .ok (.areturn, 1) := by decide +kernel
theorem dJ7_copyOf_6403c_0 : decode cJ7_copyOf_6403c 0 = .ok (.aload_n 2, 1) := by decide +kernel
theorem dJ7_copyOf_6403c_1 : decode cJ7_copyOf_6403c 1 = .ok (.ldc 110, 2) := by decide +kernel
theorem dJ7_copyOf_6403c_3 : decode cJ7_copyOf_6403c 3 = .ok (.if_acmp .ne 10, 3) := by decide +kernel
theorem dJ7_copyOf_6403c_6 : decode cJ7_copyOf_6403c 6 = .ok (.iload_n 1, 1) := by decide +kernel
theorem dJ7_copyOf_6403c_7 : decode cJ7_copyOf_6403c 7 = .ok (.anewarray 2, 3) := by decide +kernel
theorem dJ7_copyOf_6403c_10 : decode cJ7_copyOf_6403c 10 = .ok (.goto 14, 3) := by decide +kernel
theorem dJ7_copyOf_6403c_13 : decode cJ7_copyOf_6403c 13 = .ok (.aload_n 2, 1) := by decide +kernel
theorem dJ7_copyOf_6403c_14 : decode cJ7_copyOf_6403c 14 = .ok (.invokevirtual 90, 3) := by decide +kernel
theorem dJ7_copyOf_6403c_17 : decode cJ7_copyOf_6403c 17 = .ok (.iload_n 1, 1) := by decide +kernel
theorem dJ7_copyOf_6403c_18 : decode cJ7_copyOf_6403c 18 = .ok (.invokestatic 95, 3) := by decide +kernel
theorem dJ7_copyOf_6403c_21 : decode cJ7_copyOf_6403c 21 = .ok (.checkcast 110, 3) := by decide +kernel
theorem dJ7_copyOf_6403c_24 : decode cJ7_copyOf_6403c 24 = .ok (.astore_n 3, 1) := by decide +kernel
theorem dJ7_copyOf_6403c_25 : decode cJ7_copyOf_6403c 25 = .ok (.aload_n 0, 1) := by decide +kernel
theorem dJ7_copyOf_6403c_26 : decode cJ7_copyOf_6403c 26 = .ok (.iconst 0, 1) := by decide +kernel
theorem dJ7_copyOf_6403c_27 : decode cJ7_copyOf_6403c 27 = .ok (.aload_n 3, 1) := by decide +kernel
theorem dJ7_copyOf_6403c_28 : decode cJ7_copyOf_6403c 28 = .ok (.iconst 0, 1) := by decide +kernel
theorem dJ7_copyOf_6403c_29 : decode cJ7_copyOf_6403c 29 = .ok (.aload_n 0, 1) := by decide +kernel
theorem dJ7_copyOf_6403c_30 : decode cJ7_copyOf_6403c 30 = .ok (.arraylength, 1) := by decide +kernel
theorem dJ7_copyOf_6403c_31 : decode cJ7_copyOf_6403c 31 = .ok (.iload_n 1, 1) := by decide +kernel
theorem dJ7_copyOf_6403c_32 : decode cJ7_copyOf_6403c 32 = .ok (.invokestatic 304, 3) := by decide +kernel
theorem dJ7_copyOf_6403c_35 : decode cJ7_copyOf_6403c 35 = .ok (.invokestatic 150, 3) := by decide +kernel
theorem dJ7_copyOf_6403c_38 : decode cJ7_copyOf_6403c 38 = .ok (.aload_n 3, 1) := by decide +kernel
theorem dJ7_copyOf_6403c_39 : decode cJ7_copyOf_6403c 39 = .ok (.areturn, 1) := by decide +kernel
theorem dJ15_checkIndex_7cf53_0 : decode cJ15_checkIndex_7cf53 0 = .ok (.iload_n 0, 1) := by decide +kernel
theorem dJ15_checkIndex_7cf53_1 : decode cJ15_checkIndex_7cf53 1 = .ok (.iload_n 1, 1) := by decide +kernel
theorem dJ15_checkIndex_7cf53_2 : decode cJ15_checkIndex_7cf53 2 = .ok (.aconst_null, 1) := by decide +kernel
theorem dJ15_checkIndex_7cf53_3 : decode cJ15_checkIndex_7cf53 3 = .ok (.invokestatic 105, 3) := by decide +kernel
theorem dJ15_checkIndex_7cf53_6 : decode cJ15_checkIndex_7cf53 6 = .ok (.ireturn, 1) := by decide +kernel
theorem dJ8_newLength_cabcc_0 : decode cJ8_newLength_cabcc 0 = .ok (.iload_n 0, 1) := by decide +kernel
theorem dJ8_newLength_cabcc_1 : decode cJ8_newLength_cabcc 1 = .ok (.iload_n 1, 1) := by decide +kernel
theorem dJ8_newLength_cabcc_2 : decode cJ8_newLength_cabcc 2 = .ok (.iload_n 2, 1) := by decide +kernel
theorem dJ8_newLength_cabcc_3 : decode cJ8_newLength_cabcc 3 = .ok (.invokestatic 194, 3) := by decide +kernel
theorem dJ8_newLength_cabcc_6 : decode cJ8_newLength_cabcc 6 = .ok (.iadd, 1) := by decide +kernel
theorem dJ8_newLength_cabcc_7 : decode cJ8_newLength_cabcc 7 = .ok (.istore_n 3, 1) := by decide +kernel
theorem dJ8_newLength_cabcc_8 : decode cJ8_newLength_cabcc 8 = .ok (.iconst 0, 1) := by decide +kernel
theorem dJ8_newLength_cabcc_9 : decode cJ8_newLength_cabcc 9 = .ok (.iload_n 3, 1) := by decide +kernel
theorem dJ8_newLength_cabcc_10 : decode cJ8_newLength_cabcc 10 = .ok (.if_icmp .ge 11, 3) := by decide +kernel
theorem dJ8_newLength_cabcc_13 : decode cJ8_newLength_cabcc 13 = .ok (.iload_n 3, 1) := by decide +kernel
theorem dJ8_newLength_cabcc_14 : decode cJ8_newLength_cabcc 14 = .ok (.ldc 200, 2) := by decide +kernel
theorem dJ8_newLength_cabcc_16 : decode cJ8_newLength_cabcc 16 = .ok (.if_icmp .gt 5, 3) := by decide +kernel
theorem dJ8_newLength_cabcc_19 : decode cJ8_newLength_cabcc 19 = .ok (.iload_n 3, 1) := by decide +kernel
theorem dJ8_newLength_cabcc_20 : decode cJ8_newLength_cabcc 20 = .ok (.ireturn, 1) := by decide +kernel
theorem dJ8_newLength_cabcc_21 : decode cJ8_newLength_cabcc 21 = .ok (.iload_n 0, 1) := by decide +kernel
theorem dJ8_newLength_cabcc_22 : decode cJ8_newLength_cabcc 22 = .ok (.iload_n 1, 1) := by decide +kernel
theorem dJ8_newLength_cabcc_23 : decode cJ8_newLength_cabcc 23 = .ok (.invokestatic 201, 3) := by decide +kernel
theorem dJ8_newLength_cabcc_26 : decode cJ8_newLength_cabcc 26 = .ok (.ireturn, 1) := by decide +kernel
theorem dJ8_hugeLength_7cf53_0 : decode cJ8_hugeLength_7cf53 0 = .ok (.iload_n 0, 1) := by decide +kernel
theorem dJ8_hugeLength_7cf53_1 : decode cJ8_hugeLength_7cf53 1 = .ok (.iload_n 1, 1) := by decide +kernel
theorem dJ8_hugeLength_7cf53_2 : decode cJ8_hugeLength_7cf53 2 = .ok (.iadd, 1) := by decide +kernel
theorem dJ8_hugeLength_7cf53_3 : decode cJ8_hugeLength_7cf53 3 = .ok (.istore_n 2, 1) := by decide +kernel
theorem dJ8_hugeLength_7cf53_4 : decode cJ8_hugeLength_7cf53 4 = .ok (.iload_n 2, 1) := by decide +kernel
theorem dJ8_hugeLength_7cf53_5 : decode cJ8_hugeLength_7cf53 5 = .ok (.ifCond .ge 44, 3) := by decide +kernel
theorem dJ8_hugeLength_7cf53_8 : decode cJ8_hugeLength_7cf53 8 = .ok (.new 204, 3) := by decide +kernel
theorem dJ8_hugeLength_7cf53_11 : decode cJ8_hugeLength_7cf53 11 = .ok (.dup, 1) := by decide +kernel
theorem dJ8_hugeLength_7cf53_12 : decode cJ8_hugeLength_7cf53 12 = .ok (.new 89, 3) := by decide +kernel
theorem dJ8_hugeLength_7cf53_15 : decode cJ8_hugeLength_7cf53 15 = .ok (.dup, 1) := by decide +kernel
theorem dJ8_hugeLength_7cf53_16 : decode cJ8_hugeLength_7cf53 16 = .ok (.invokespecial 91, 3) := by decide +kernel
theorem dJ8_hugeLength_7cf53_19 : decode cJ8_hugeLength_7cf53 19 = .ok (.ldc 206, 2) := by decide +kernel
theorem dJ8_hugeLength_7cf53_21 : decode cJ8_hugeLength_7cf53 21 = .ok (.invokevirtual 94, 3) := by decide +kernel
theorem dJ8_hugeLength_7cf53_24 : decode cJ8_hugeLength_7cf53 24 = .ok (.iload_n 0, 1) := by decide +kernel
theorem dJ8_hugeLength_7cf53_25 : decode cJ8_hugeLength_7cf53 25 = .ok (.invokevirtual 98, 3) := by decide +kernel
theorem dJ8_hugeLength_7cf53_28 : decode cJ8_hugeLength_7cf53 28 = .ok (.ldc 208, 2) := by decide +kernel
theorem dJ8_hugeLength_7cf53_30 : decode cJ8_hugeLength_7cf53 30 = .ok (.invokevirtual 94, 3) := by decide +kernel
theorem dJ8_hugeLength_7cf53_33 : decode cJ8_hugeLength_7cf53 33 = .ok (.iload_n 1, 1) := by decide +kernel
theorem dJ8_hugeLength_7cf53_34 : decode cJ8_hugeLength_7cf53 34 = .ok (.invokevirtual 98, 3) := by decide +kernel
theorem dJ8_hugeLength_7cf53_37 : decode cJ8_hugeLength_7cf53 37 = .ok (.ldc 210, 2) := by decide +kernel
theorem dJ8_hugeLength_7cf53_39 : decode cJ8_hugeLength_7cf53 39 = .ok (.invokevirtual 94, 3) := by decide +kernel
theorem dJ8_hugeLength_7cf53_42 : decode cJ8_hugeLength_7cf53 42 = .ok (.invokevirtual 101, 3) := by decide +kernel
theorem dJ8_hugeLength_7cf53_45 : decode cJ8_hugeLength_7cf53 45 = .ok (.invokespecial 212, 3) := by decide +kernel
theorem dJ8_hugeLength_7cf53_48 : decode cJ8_hugeLength_7cf53 48 = .ok (.athrow, 1) := by decide +kernel
theorem dJ8_hugeLength_7cf53_49 : decode cJ8_hugeLength_7cf53 49 = .ok (.iload_n 2, 1) := by decide +kernel
theorem dJ8_hugeLength_7cf53_50 : decode cJ8_hugeLength_7cf53 50 = .ok (.ldc 200, 2) := by decide +kernel
theorem dJ8_hugeLength_7cf53_52 : decode cJ8_hugeLength_7cf53 52 = .ok (.if_icmp .gt 6, 3) := by decide +kernel
theorem dJ8_hugeLength_7cf53_55 : decode cJ8_hugeLength_7cf53 55 = .ok (.ldc 200, 2) := by decide +kernel
theorem dJ8_hugeLength_7cf53_57 : decode cJ8_hugeLength_7cf53 57 = .ok (.ireturn, 1) := by decide +kernel
theorem dJ8_hugeLength_7cf53_58 : decode cJ8_hugeLength_7cf53 58 = .ok (.iload_n 2, 1) := by decide +kernel
theorem dJ8_hugeLength_7cf53_59 : decode cJ8_hugeLength_7cf53 59 = .ok (.ireturn, 1) := by decide +kernel
theorem dJ3_checkIndex_8e157_0 : decode cJ3_checkIndex_8e157 0 = .ok (.iload_n 0, 1) := by decide +kernel
theorem dJ3_checkIndex_8e157_1 : decode cJ3_checkIndex_8e157 1 = .ok (.ifCond .lt 8, 3) := by decide +kernel
theorem dJ3_checkIndex_8e157_4 : decode cJ3_checkIndex_8e157 4 = .ok (.iload_n 0, 1) := by decide +kernel
theorem dJ3_checkIndex_8e157_5 : decode cJ3_checkIndex_8e157 5 = .ok (.iload_n 1, 1) := by decide +kernel
theorem dJ3_checkIndex_8e157_6 : decode cJ3_checkIndex_8e157 6 = .ok (.if_icmp .lt 10, 3) := by decide +kernel
theorem dJ3_checkIndex_8e157_9 : decode cJ3_checkIndex_8e157 9 = .ok (.aload_n 2, 1) := by decide +kernel
theorem dJ3_checkIndex_8e157_10 : decode cJ3_checkIndex_8e157 10 = .ok (.iload_n 0, 1) := by decide +kernel
theorem dJ3_checkIndex_8e157_11 : decode cJ3_checkIndex_8e157 11 = .ok (.iload_n 1, 1) := by decide +kernel
theorem dJ3_checkIndex_8e157_12 : decode cJ3_checkIndex_8e157 12 = .ok (.invokestatic 95, 3) := by decide +kernel
theorem dJ3_checkIndex_8e157_15 : decode cJ3_checkIndex_8e157 15 = .ok (.athrow, 1) := by decide +kernel
theorem dJ3_checkIndex_8e157_16 : decode cJ3_checkIndex_8e157 16 = .ok (.iload_n 0, 1) := by decide +kernel
theorem dJ3_checkIndex_8e157_17 : decode cJ3_checkIndex_8e157 17 = .ok (.ireturn, 1) := by decide +kernel
theorem dL_cell_0 : decode cL_cell 0 = .ok (.iload_n 1, 1) := by decide +kernel
theorem dL_cell_1 : decode cL_cell 1 = .ok (.aload_n 0, 1) := by decide +kernel
theorem dL_cell_2 : decode cL_cell 2 = .ok (.arraylength, 1) := by decide +kernel
theorem dL_cell_3 : decode cL_cell 3 = .ok (.if_icmp .ge 9, 3) := by decide +kernel
theorem dL_cell_6 : decode cL_cell 6 = .ok (.aload_n 0, 1) := by decide +kernel
theorem dL_cell_7 : decode cL_cell 7 = .ok (.iload_n 1, 1) := by decide +kernel
theorem dL_cell_8 : decode cL_cell 8 = .ok (.iaload, 1) := by decide +kernel
theorem dL_cell_9 : decode cL_cell 9 = .ok (.goto 4, 3) := by decide +kernel
theorem dL_cell_12 : decode cL_cell 12 = .ok (.iconst 0, 1) := by decide +kernel
theorem dL_cell_13 : decode cL_cell 13 = .ok (.ireturn, 1) := by decide +kernel
theorem dL_law_0 : decode cL_law 0 = .ok (.new 7, 3) := by decide +kernel
theorem dL_law_3 : decode cL_law 3 = .ok (.dup, 1) := by decide +kernel
theorem dL_law_4 : decode cL_law 4 = .ok (.aload_n 0, 1) := by decide +kernel
theorem dL_law_5 : decode cL_law 5 = .ok (.iconst 0, 1) := by decide +kernel
theorem dL_law_6 : decode cL_law 6 = .ok (.invokestatic 9, 3) := by decide +kernel
theorem dL_law_9 : decode cL_law 9 = .ok (.invokespecial 15, 3) := by decide +kernel
theorem dL_law_12 : decode cL_law 12 = .ok (.astore_n 1, 1) := by decide +kernel
theorem dL_law_13 : decode cL_law 13 = .ok (.new 18, 3) := by decide +kernel
theorem dL_law_16 : decode cL_law 16 = .ok (.dup, 1) := by decide +kernel
theorem dL_law_17 : decode cL_law 17 = .ok (.aload_n 0, 1) := by decide +kernel
theorem dL_law_18 : decode cL_law 18 = .ok (.iconst 0, 1) := by decide +kernel
theorem dL_law_19 : decode cL_law 19 = .ok (.invokestatic 9, 3) := by decide +kernel
theorem dL_law_22 : decode cL_law 22 = .ok (.invokespecial 20, 3) := by decide +kernel
theorem dL_law_25 : decode cL_law 25 = .ok (.astore_n 2, 1) := by decide +kernel
theorem dL_law_26 : decode cL_law 26 = .ok (.iconst 1, 1) := by decide +kernel
theorem dL_law_27 : decode cL_law 27 = .ok (.istore_n 3, 1) := by decide +kernel
theorem dL_law_28 : decode cL_law 28 = .ok (.iload_n 3, 1) := by decide +kernel
theorem dL_law_29 : decode cL_law 29 = .ok (.aload_n 0, 1) := by decide +kernel
theorem dL_law_30 : decode cL_law 30 = .ok (.arraylength, 1) := by decide +kernel
theorem dL_law_31 : decode cL_law 31 = .ok (.iconst 5, 1) := by decide +kernel
theorem dL_law_32 : decode cL_law 32 = .ok (.isub, 1) := by decide +kernel
theorem dL_law_33 : decode cL_law 33 = .ok (.if_icmp .gt 672, 3) := by decide +kernel
theorem dL_law_36 : decode cL_law 36 = .ok (.aload_n 0, 1) := by decide +kernel
theorem dL_law_37 : decode cL_law 37 = .ok (.iload_n 3, 1) := by decide +kernel
theorem dL_law_38 : decode cL_law 38 = .ok (.iaload, 1) := by decide +kernel
theorem dL_law_39 : decode cL_law 39 = .ok (.bipush 31, 2) := by decide +kernel
theorem dL_law_41 : decode cL_law 41 = .ok (.iand, 1) := by decide +kernel
theorem dL_law_42 : decode cL_law 42 = .ok (.tableswitch 657 0 18 #[90, 113, 146, 179, 222, 245, 288, 321, 354, 387, 440, 463, 496, 519, 542, 575, 598, 611, 634], 90) := by decide +kernel
theorem dL_law_132 : decode cL_law 132 = .ok (.aload_n 1, 1) := by decide +kernel
theorem dL_law_133 : decode cL_law 133 = .ok (.aload_n 0, 1) := by decide +kernel
theorem dL_law_134 : decode cL_law 134 = .ok (.iload_n 3, 1) := by decide +kernel
theorem dL_law_135 : decode cL_law 135 = .ok (.iconst 1, 1) := by decide +kernel
theorem dL_law_136 : decode cL_law 136 = .ok (.iadd, 1) := by decide +kernel
theorem dL_law_137 : decode cL_law 137 = .ok (.iaload, 1) := by decide +kernel
theorem dL_law_138 : decode cL_law 138 = .ok (.invokevirtual 21, 3) := by decide +kernel
theorem dL_law_141 : decode cL_law 141 = .ok (.aload_n 2, 1) := by decide +kernel
theorem dL_law_142 : decode cL_law 142 = .ok (.aload_n 0, 1) := by decide +kernel
theorem dL_law_143 : decode cL_law 143 = .ok (.iload_n 3, 1) := by decide +kernel
theorem dL_law_144 : decode cL_law 144 = .ok (.iconst 1, 1) := by decide +kernel
theorem dL_law_145 : decode cL_law 145 = .ok (.iadd, 1) := by decide +kernel
theorem dL_law_146 : decode cL_law 146 = .ok (.iaload, 1) := by decide +kernel
theorem dL_law_147 : decode cL_law 147 = .ok (.invokevirtual 25, 3) := by decide +kernel
theorem dL_law_150 : decode cL_law 150 = .ok (.if_icmp .eq 549, 3) := by decide +kernel
theorem dL_law_153 : decode cL_law 153 = .ok (.iconst 0, 1) := by decide +kernel
theorem dL_law_154 : decode cL_law 154 = .ok (.ireturn, 1) := by decide +kernel
theorem dL_law_155 : decode cL_law 155 = .ok (.aload_n 1, 1) := by decide +kernel
theorem dL_law_156 : decode cL_law 156 = .ok (.aload_n 0, 1) := by decide +kernel
theorem dL_law_157 : decode cL_law 157 = .ok (.iload_n 3, 1) := by decide +kernel
theorem dL_law_158 : decode cL_law 158 = .ok (.iconst 1, 1) := by decide +kernel
theorem dL_law_159 : decode cL_law 159 = .ok (.iadd, 1) := by decide +kernel
theorem dL_law_160 : decode cL_law 160 = .ok (.iaload, 1) := by decide +kernel
theorem dL_law_161 : decode cL_law 161 = .ok (.aload_n 0, 1) := by decide +kernel
theorem dL_law_162 : decode cL_law 162 = .ok (.iload_n 3, 1) := by decide +kernel
theorem dL_law_163 : decode cL_law 163 = .ok (.iconst 2, 1) := by decide +kernel
theorem dL_law_164 : decode cL_law 164 = .ok (.iadd, 1) := by decide +kernel
theorem dL_law_165 : decode cL_law 165 = .ok (.iaload, 1) := by decide +kernel
theorem dL_law_166 : decode cL_law 166 = .ok (.invokevirtual 26, 3) := by decide +kernel
theorem dL_law_169 : decode cL_law 169 = .ok (.aload_n 2, 1) := by decide +kernel
theorem dL_law_170 : decode cL_law 170 = .ok (.aload_n 0, 1) := by decide +kernel
theorem dL_law_171 : decode cL_law 171 = .ok (.iload_n 3, 1) := by decide +kernel
theorem dL_law_172 : decode cL_law 172 = .ok (.iconst 1, 1) := by decide +kernel
theorem dL_law_173 : decode cL_law 173 = .ok (.iadd, 1) := by decide +kernel
theorem dL_law_174 : decode cL_law 174 = .ok (.iaload, 1) := by decide +kernel
theorem dL_law_175 : decode cL_law 175 = .ok (.aload_n 0, 1) := by decide +kernel
theorem dL_law_176 : decode cL_law 176 = .ok (.iload_n 3, 1) := by decide +kernel
theorem dL_law_177 : decode cL_law 177 = .ok (.iconst 2, 1) := by decide +kernel
theorem dL_law_178 : decode cL_law 178 = .ok (.iadd, 1) := by decide +kernel
theorem dL_law_179 : decode cL_law 179 = .ok (.iaload, 1) := by decide +kernel
theorem dL_law_180 : decode cL_law 180 = .ok (.invokevirtual 30, 3) := by decide +kernel
theorem dL_law_183 : decode cL_law 183 = .ok (.if_icmp .eq 516, 3) := by decide +kernel
theorem dL_law_186 : decode cL_law 186 = .ok (.iconst 0, 1) := by decide +kernel
theorem dL_law_187 : decode cL_law 187 = .ok (.ireturn, 1) := by decide +kernel
theorem dL_law_188 : decode cL_law 188 = .ok (.aload_n 1, 1) := by decide +kernel
theorem dL_law_189 : decode cL_law 189 = .ok (.aload_n 0, 1) := by decide +kernel
theorem dL_law_190 : decode cL_law 190 = .ok (.iload_n 3, 1) := by decide +kernel
theorem dL_law_191 : decode cL_law 191 = .ok (.iconst 1, 1) := by decide +kernel
theorem dL_law_192 : decode cL_law 192 = .ok (.iadd, 1) := by decide +kernel
theorem dL_law_193 : decode cL_law 193 = .ok (.iaload, 1) := by decide +kernel
theorem dL_law_194 : decode cL_law 194 = .ok (.aload_n 0, 1) := by decide +kernel
theorem dL_law_195 : decode cL_law 195 = .ok (.iload_n 3, 1) := by decide +kernel
theorem dL_law_196 : decode cL_law 196 = .ok (.iconst 2, 1) := by decide +kernel
theorem dL_law_197 : decode cL_law 197 = .ok (.iadd, 1) := by decide +kernel
theorem dL_law_198 : decode cL_law 198 = .ok (.iaload, 1) := by decide +kernel
theorem dL_law_199 : decode cL_law 199 = .ok (.invokevirtual 31, 3) := by decide +kernel
theorem dL_law_202 : decode cL_law 202 = .ok (.aload_n 2, 1) := by decide +kernel
theorem dL_law_203 : decode cL_law 203 = .ok (.aload_n 0, 1) := by decide +kernel
theorem dL_law_204 : decode cL_law 204 = .ok (.iload_n 3, 1) := by decide +kernel
theorem dL_law_205 : decode cL_law 205 = .ok (.iconst 1, 1) := by decide +kernel
theorem dL_law_206 : decode cL_law 206 = .ok (.iadd, 1) := by decide +kernel
theorem dL_law_207 : decode cL_law 207 = .ok (.iaload, 1) := by decide +kernel
theorem dL_law_208 : decode cL_law 208 = .ok (.aload_n 0, 1) := by decide +kernel
theorem dL_law_209 : decode cL_law 209 = .ok (.iload_n 3, 1) := by decide +kernel
theorem dL_law_210 : decode cL_law 210 = .ok (.iconst 2, 1) := by decide +kernel
theorem dL_law_211 : decode cL_law 211 = .ok (.iadd, 1) := by decide +kernel
theorem dL_law_212 : decode cL_law 212 = .ok (.iaload, 1) := by decide +kernel
theorem dL_law_213 : decode cL_law 213 = .ok (.invokevirtual 34, 3) := by decide +kernel
theorem dL_law_216 : decode cL_law 216 = .ok (.if_icmp .eq 483, 3) := by decide +kernel
theorem dL_law_219 : decode cL_law 219 = .ok (.iconst 0, 1) := by decide +kernel
theorem dL_law_220 : decode cL_law 220 = .ok (.ireturn, 1) := by decide +kernel
theorem dL_law_221 : decode cL_law 221 = .ok (.aload_n 1, 1) := by decide +kernel
theorem dL_law_222 : decode cL_law 222 = .ok (.aload_n 0, 1) := by decide +kernel
theorem dL_law_223 : decode cL_law 223 = .ok (.iload_n 3, 1) := by decide +kernel
theorem dL_law_224 : decode cL_law 224 = .ok (.iconst 1, 1) := by decide +kernel
theorem dL_law_225 : decode cL_law 225 = .ok (.iadd, 1) := by decide +kernel
theorem dL_law_226 : decode cL_law 226 = .ok (.iaload, 1) := by decide +kernel
theorem dL_law_227 : decode cL_law 227 = .ok (.aload_n 0, 1) := by decide +kernel
theorem dL_law_228 : decode cL_law 228 = .ok (.iload_n 3, 1) := by decide +kernel
theorem dL_law_229 : decode cL_law 229 = .ok (.iconst 2, 1) := by decide +kernel
theorem dL_law_230 : decode cL_law 230 = .ok (.iadd, 1) := by decide +kernel
theorem dL_law_231 : decode cL_law 231 = .ok (.iaload, 1) := by decide +kernel
theorem dL_law_232 : decode cL_law 232 = .ok (.aload_n 0, 1) := by decide +kernel
theorem dL_law_233 : decode cL_law 233 = .ok (.iload_n 3, 1) := by decide +kernel
theorem dL_law_234 : decode cL_law 234 = .ok (.iconst 3, 1) := by decide +kernel
theorem dL_law_235 : decode cL_law 235 = .ok (.iadd, 1) := by decide +kernel
theorem dL_law_236 : decode cL_law 236 = .ok (.iaload, 1) := by decide +kernel
theorem dL_law_237 : decode cL_law 237 = .ok (.invokevirtual 35, 3) := by decide +kernel
theorem dL_law_240 : decode cL_law 240 = .ok (.aload_n 2, 1) := by decide +kernel
theorem dL_law_241 : decode cL_law 241 = .ok (.aload_n 0, 1) := by decide +kernel
theorem dL_law_242 : decode cL_law 242 = .ok (.iload_n 3, 1) := by decide +kernel
theorem dL_law_243 : decode cL_law 243 = .ok (.iconst 1, 1) := by decide +kernel
theorem dL_law_244 : decode cL_law 244 = .ok (.iadd, 1) := by decide +kernel
theorem dL_law_245 : decode cL_law 245 = .ok (.iaload, 1) := by decide +kernel
theorem dL_law_246 : decode cL_law 246 = .ok (.aload_n 0, 1) := by decide +kernel
theorem dL_law_247 : decode cL_law 247 = .ok (.iload_n 3, 1) := by decide +kernel
theorem dL_law_248 : decode cL_law 248 = .ok (.iconst 2, 1) := by decide +kernel
theorem dL_law_249 : decode cL_law 249 = .ok (.iadd, 1) := by decide +kernel
theorem dL_law_250 : decode cL_law 250 = .ok (.iaload, 1) := by decide +kernel
theorem dL_law_251 : decode cL_law 251 = .ok (.aload_n 0, 1) := by decide +kernel
theorem dL_law_252 : decode cL_law 252 = .ok (.iload_n 3, 1) := by decide +kernel
theorem dL_law_253 : decode cL_law 253 = .ok (.iconst 3, 1) := by decide +kernel
theorem dL_law_254 : decode cL_law 254 = .ok (.iadd, 1) := by decide +kernel
theorem dL_law_255 : decode cL_law 255 = .ok (.iaload, 1) := by decide +kernel
theorem dL_law_256 : decode cL_law 256 = .ok (.invokevirtual 39, 3) := by decide +kernel
theorem dL_law_259 : decode cL_law 259 = .ok (.if_icmp .eq 440, 3) := by decide +kernel
theorem dL_law_262 : decode cL_law 262 = .ok (.iconst 0, 1) := by decide +kernel
theorem dL_law_263 : decode cL_law 263 = .ok (.ireturn, 1) := by decide +kernel
theorem dL_law_264 : decode cL_law 264 = .ok (.aload_n 1, 1) := by decide +kernel
theorem dL_law_265 : decode cL_law 265 = .ok (.aload_n 0, 1) := by decide +kernel
theorem dL_law_266 : decode cL_law 266 = .ok (.iload_n 3, 1) := by decide +kernel
theorem dL_law_267 : decode cL_law 267 = .ok (.iconst 1, 1) := by decide +kernel
theorem dL_law_268 : decode cL_law 268 = .ok (.iadd, 1) := by decide +kernel
theorem dL_law_269 : decode cL_law 269 = .ok (.iaload, 1) := by decide +kernel
theorem dL_law_270 : decode cL_law 270 = .ok (.invokevirtual 40, 3) := by decide +kernel
theorem dL_law_273 : decode cL_law 273 = .ok (.aload_n 2, 1) := by decide +kernel
theorem dL_law_274 : decode cL_law 274 = .ok (.aload_n 0, 1) := by decide +kernel
theorem dL_law_275 : decode cL_law 275 = .ok (.iload_n 3, 1) := by decide +kernel
theorem dL_law_276 : decode cL_law 276 = .ok (.iconst 1, 1) := by decide +kernel
theorem dL_law_277 : decode cL_law 277 = .ok (.iadd, 1) := by decide +kernel
theorem dL_law_278 : decode cL_law 278 = .ok (.iaload, 1) := by decide +kernel
theorem dL_law_279 : decode cL_law 279 = .ok (.invokevirtual 43, 3) := by decide +kernel
theorem dL_law_282 : decode cL_law 282 = .ok (.if_icmp .eq 417, 3) := by decide +kernel
theorem dL_law_285 : decode cL_law 285 = .ok (.iconst 0, 1) := by decide +kernel
theorem dL_law_286 : decode cL_law 286 = .ok (.ireturn, 1) := by decide +kernel
theorem dL_law_287 : decode cL_law 287 = .ok (.aload_n 1, 1) := by decide +kernel
theorem dL_law_288 : decode cL_law 288 = .ok (.aload_n 0, 1) := by decide +kernel
theorem dL_law_289 : decode cL_law 289 = .ok (.iload_n 3, 1) := by decide +kernel
theorem dL_law_290 : decode cL_law 290 = .ok (.iconst 1, 1) := by decide +kernel
theorem dL_law_291 : decode cL_law 291 = .ok (.iadd, 1) := by decide +kernel
theorem dL_law_292 : decode cL_law 292 = .ok (.iaload, 1) := by decide +kernel
theorem dL_law_293 : decode cL_law 293 = .ok (.aload_n 0, 1) := by decide +kernel
theorem dL_law_294 : decode cL_law 294 = .ok (.iload_n 3, 1) := by decide +kernel
theorem dL_law_295 : decode cL_law 295 = .ok (.iconst 2, 1) := by decide +kernel
theorem dL_law_296 : decode cL_law 296 = .ok (.iadd, 1) := by decide +kernel
theorem dL_law_297 : decode cL_law 297 = .ok (.iaload, 1) := by decide +kernel
theorem dL_law_298 : decode cL_law 298 = .ok (.aload_n 0, 1) := by decide +kernel
theorem dL_law_299 : decode cL_law 299 = .ok (.iload_n 3, 1) := by decide +kernel
theorem dL_law_300 : decode cL_law 300 = .ok (.iconst 3, 1) := by decide +kernel
theorem dL_law_301 : decode cL_law 301 = .ok (.iadd, 1) := by decide +kernel
theorem dL_law_302 : decode cL_law 302 = .ok (.iaload, 1) := by decide +kernel
theorem dL_law_303 : decode cL_law 303 = .ok (.invokevirtual 44, 3) := by decide +kernel
theorem dL_law_306 : decode cL_law 306 = .ok (.aload_n 2, 1) := by decide +kernel
theorem dL_law_307 : decode cL_law 307 = .ok (.aload_n 0, 1) := by decide +kernel
theorem dL_law_308 : decode cL_law 308 = .ok (.iload_n 3, 1) := by decide +kernel
theorem dL_law_309 : decode cL_law 309 = .ok (.iconst 1, 1) := by decide +kernel
theorem dL_law_310 : decode cL_law 310 = .ok (.iadd, 1) := by decide +kernel
theorem dL_law_311 : decode cL_law 311 = .ok (.iaload, 1) := by decide +kernel
theorem dL_law_312 : decode cL_law 312 = .ok (.aload_n 0, 1) := by decide +kernel
theorem dL_law_313 : decode cL_law 313 = .ok (.iload_n 3, 1) := by decide +kernel
theorem dL_law_314 : decode cL_law 314 = .ok (.iconst 2, 1) := by decide +kernel
theorem dL_law_315 : decode cL_law 315 = .ok (.iadd, 1) := by decide +kernel
theorem dL_law_316 : decode cL_law 316 = .ok (.iaload, 1) := by decide +kernel
theorem dL_law_317 : decode cL_law 317 = .ok (.aload_n 0, 1) := by decide +kernel
theorem dL_law_318 : decode cL_law 318 = .ok (.iload_n 3, 1) := by decide +kernel
theorem dL_law_319 : decode cL_law 319 = .ok (.iconst 3, 1) := by decide +kernel
theorem dL_law_320 : decode cL_law 320 = .ok (.iadd, 1) := by decide +kernel
theorem dL_law_321 : decode cL_law 321 = .ok (.iaload, 1) := by decide +kernel
theorem dL_law_322 : decode cL_law 322 = .ok (.invokevirtual 47, 3) := by decide +kernel
theorem dL_law_325 : decode cL_law 325 = .ok (.if_icmp .eq 374, 3) := by decide +kernel
theorem dL_law_328 : decode cL_law 328 = .ok (.iconst 0, 1) := by decide +kernel
theorem dL_law_329 : decode cL_law 329 = .ok (.ireturn, 1) := by decide +kernel
theorem dL_law_330 : decode cL_law 330 = .ok (.aload_n 1, 1) := by decide +kernel
theorem dL_law_331 : decode cL_law 331 = .ok (.aload_n 0, 1) := by decide +kernel
theorem dL_law_332 : decode cL_law 332 = .ok (.iload_n 3, 1) := by decide +kernel
theorem dL_law_333 : decode cL_law 333 = .ok (.iconst 1, 1) := by decide +kernel
theorem dL_law_334 : decode cL_law 334 = .ok (.iadd, 1) := by decide +kernel
theorem dL_law_335 : decode cL_law 335 = .ok (.iaload, 1) := by decide +kernel
theorem dL_law_336 : decode cL_law 336 = .ok (.aload_n 0, 1) := by decide +kernel
theorem dL_law_337 : decode cL_law 337 = .ok (.iload_n 3, 1) := by decide +kernel
theorem dL_law_338 : decode cL_law 338 = .ok (.iconst 2, 1) := by decide +kernel
theorem dL_law_339 : decode cL_law 339 = .ok (.iadd, 1) := by decide +kernel
theorem dL_law_340 : decode cL_law 340 = .ok (.iaload, 1) := by decide +kernel
theorem dL_law_341 : decode cL_law 341 = .ok (.invokevirtual 48, 3) := by decide +kernel
theorem dL_law_344 : decode cL_law 344 = .ok (.aload_n 2, 1) := by decide +kernel
theorem dL_law_345 : decode cL_law 345 = .ok (.aload_n 0, 1) := by decide +kernel
theorem dL_law_346 : decode cL_law 346 = .ok (.iload_n 3, 1) := by decide +kernel
theorem dL_law_347 : decode cL_law 347 = .ok (.iconst 1, 1) := by decide +kernel
theorem dL_law_348 : decode cL_law 348 = .ok (.iadd, 1) := by decide +kernel
theorem dL_law_349 : decode cL_law 349 = .ok (.iaload, 1) := by decide +kernel
theorem dL_law_350 : decode cL_law 350 = .ok (.aload_n 0, 1) := by decide +kernel
theorem dL_law_351 : decode cL_law 351 = .ok (.iload_n 3, 1) := by decide +kernel
theorem dL_law_352 : decode cL_law 352 = .ok (.iconst 2, 1) := by decide +kernel
theorem dL_law_353 : decode cL_law 353 = .ok (.iadd, 1) := by decide +kernel
theorem dL_law_354 : decode cL_law 354 = .ok (.iaload, 1) := by decide +kernel
theorem dL_law_355 : decode cL_law 355 = .ok (.invokevirtual 52, 3) := by decide +kernel
theorem dL_law_358 : decode cL_law 358 = .ok (.if_icmp .eq 341, 3) := by decide +kernel
theorem dL_law_361 : decode cL_law 361 = .ok (.iconst 0, 1) := by decide +kernel
theorem dL_law_362 : decode cL_law 362 = .ok (.ireturn, 1) := by decide +kernel
theorem dL_law_363 : decode cL_law 363 = .ok (.aload_n 1, 1) := by decide +kernel
theorem dL_law_364 : decode cL_law 364 = .ok (.aload_n 0, 1) := by decide +kernel
theorem dL_law_365 : decode cL_law 365 = .ok (.iload_n 3, 1) := by decide +kernel
theorem dL_law_366 : decode cL_law 366 = .ok (.iconst 1, 1) := by decide +kernel
theorem dL_law_367 : decode cL_law 367 = .ok (.iadd, 1) := by decide +kernel
theorem dL_law_368 : decode cL_law 368 = .ok (.iaload, 1) := by decide +kernel
theorem dL_law_369 : decode cL_law 369 = .ok (.aload_n 0, 1) := by decide +kernel
theorem dL_law_370 : decode cL_law 370 = .ok (.iload_n 3, 1) := by decide +kernel
theorem dL_law_371 : decode cL_law 371 = .ok (.iconst 2, 1) := by decide +kernel
theorem dL_law_372 : decode cL_law 372 = .ok (.iadd, 1) := by decide +kernel
theorem dL_law_373 : decode cL_law 373 = .ok (.iaload, 1) := by decide +kernel
theorem dL_law_374 : decode cL_law 374 = .ok (.invokevirtual 53, 3) := by decide +kernel
theorem dL_law_377 : decode cL_law 377 = .ok (.aload_n 2, 1) := by decide +kernel
theorem dL_law_378 : decode cL_law 378 = .ok (.aload_n 0, 1) := by decide +kernel
theorem dL_law_379 : decode cL_law 379 = .ok (.iload_n 3, 1) := by decide +kernel
theorem dL_law_380 : decode cL_law 380 = .ok (.iconst 1, 1) := by decide +kernel
theorem dL_law_381 : decode cL_law 381 = .ok (.iadd, 1) := by decide +kernel
theorem dL_law_382 : decode cL_law 382 = .ok (.iaload, 1) := by decide +kernel
theorem dL_law_383 : decode cL_law 383 = .ok (.aload_n 0, 1) := by decide +kernel
theorem dL_law_384 : decode cL_law 384 = .ok (.iload_n 3, 1) := by decide +kernel
theorem dL_law_385 : decode cL_law 385 = .ok (.iconst 2, 1) := by decide +kernel
theorem dL_law_386 : decode cL_law 386 = .ok (.iadd, 1) := by decide +kernel
theorem dL_law_387 : decode cL_law 387 = .ok (.iaload, 1) := by decide +kernel
theorem dL_law_388 : decode cL_law 388 = .ok (.invokevirtual 56, 3) := by decide +kernel
theorem dL_law_391 : decode cL_law 391 = .ok (.if_icmp .eq 308, 3) := by decide +kernel
theorem dL_law_394 : decode cL_law 394 = .ok (.iconst 0, 1) := by decide +kernel
theorem dL_law_395 : decode cL_law 395 = .ok (.ireturn, 1) := by decide +kernel
theorem dL_law_396 : decode cL_law 396 = .ok (.aload_n 1, 1) := by decide +kernel
theorem dL_law_397 : decode cL_law 397 = .ok (.aload_n 0, 1) := by decide +kernel
theorem dL_law_398 : decode cL_law 398 = .ok (.iload_n 3, 1) := by decide +kernel
theorem dL_law_399 : decode cL_law 399 = .ok (.iconst 1, 1) := by decide +kernel
theorem dL_law_400 : decode cL_law 400 = .ok (.iadd, 1) := by decide +kernel
theorem dL_law_401 : decode cL_law 401 = .ok (.iaload, 1) := by decide +kernel
theorem dL_law_402 : decode cL_law 402 = .ok (.aload_n 0, 1) := by decide +kernel
theorem dL_law_403 : decode cL_law 403 = .ok (.iload_n 3, 1) := by decide +kernel
theorem dL_law_404 : decode cL_law 404 = .ok (.iconst 2, 1) := by decide +kernel
theorem dL_law_405 : decode cL_law 405 = .ok (.iadd, 1) := by decide +kernel
theorem dL_law_406 : decode cL_law 406 = .ok (.iaload, 1) := by decide +kernel
theorem dL_law_407 : decode cL_law 407 = .ok (.invokevirtual 57, 3) := by decide +kernel
theorem dL_law_410 : decode cL_law 410 = .ok (.aload_n 2, 1) := by decide +kernel
theorem dL_law_411 : decode cL_law 411 = .ok (.aload_n 0, 1) := by decide +kernel
theorem dL_law_412 : decode cL_law 412 = .ok (.iload_n 3, 1) := by decide +kernel
theorem dL_law_413 : decode cL_law 413 = .ok (.iconst 1, 1) := by decide +kernel
theorem dL_law_414 : decode cL_law 414 = .ok (.iadd, 1) := by decide +kernel
theorem dL_law_415 : decode cL_law 415 = .ok (.iaload, 1) := by decide +kernel
theorem dL_law_416 : decode cL_law 416 = .ok (.aload_n 0, 1) := by decide +kernel
theorem dL_law_417 : decode cL_law 417 = .ok (.iload_n 3, 1) := by decide +kernel
theorem dL_law_418 : decode cL_law 418 = .ok (.iconst 2, 1) := by decide +kernel
theorem dL_law_419 : decode cL_law 419 = .ok (.iadd, 1) := by decide +kernel
theorem dL_law_420 : decode cL_law 420 = .ok (.iaload, 1) := by decide +kernel
theorem dL_law_421 : decode cL_law 421 = .ok (.invokevirtual 60, 3) := by decide +kernel
theorem dL_law_424 : decode cL_law 424 = .ok (.if_icmp .eq 275, 3) := by decide +kernel
theorem dL_law_427 : decode cL_law 427 = .ok (.iconst 0, 1) := by decide +kernel
theorem dL_law_428 : decode cL_law 428 = .ok (.ireturn, 1) := by decide +kernel
theorem dL_law_429 : decode cL_law 429 = .ok (.aload_n 1, 1) := by decide +kernel
theorem dL_law_430 : decode cL_law 430 = .ok (.aload_n 0, 1) := by decide +kernel
theorem dL_law_431 : decode cL_law 431 = .ok (.iload_n 3, 1) := by decide +kernel
theorem dL_law_432 : decode cL_law 432 = .ok (.iconst 1, 1) := by decide +kernel
theorem dL_law_433 : decode cL_law 433 = .ok (.iadd, 1) := by decide +kernel
theorem dL_law_434 : decode cL_law 434 = .ok (.iaload, 1) := by decide +kernel
theorem dL_law_435 : decode cL_law 435 = .ok (.aload_n 0, 1) := by decide +kernel
theorem dL_law_436 : decode cL_law 436 = .ok (.iload_n 3, 1) := by decide +kernel
theorem dL_law_437 : decode cL_law 437 = .ok (.iconst 2, 1) := by decide +kernel
theorem dL_law_438 : decode cL_law 438 = .ok (.iadd, 1) := by decide +kernel
theorem dL_law_439 : decode cL_law 439 = .ok (.iaload, 1) := by decide +kernel
theorem dL_law_440 : decode cL_law 440 = .ok (.aload_n 0, 1) := by decide +kernel
theorem dL_law_441 : decode cL_law 441 = .ok (.iload_n 3, 1) := by decide +kernel
theorem dL_law_442 : decode cL_law 442 = .ok (.iconst 3, 1) := by decide +kernel
theorem dL_law_443 : decode cL_law 443 = .ok (.iadd, 1) := by decide +kernel
theorem dL_law_444 : decode cL_law 444 = .ok (.iaload, 1) := by decide +kernel
theorem dL_law_445 : decode cL_law 445 = .ok (.aload_n 0, 1) := by decide +kernel
theorem dL_law_446 : decode cL_law 446 = .ok (.iload_n 3, 1) := by decide +kernel
theorem dL_law_447 : decode cL_law 447 = .ok (.iconst 4, 1) := by decide +kernel
theorem dL_law_448 : decode cL_law 448 = .ok (.iadd, 1) := by decide +kernel
theorem dL_law_449 : decode cL_law 449 = .ok (.iaload, 1) := by decide +kernel
theorem dL_law_450 : decode cL_law 450 = .ok (.invokevirtual 61, 3) := by decide +kernel
theorem dL_law_453 : decode cL_law 453 = .ok (.aload_n 2, 1) := by decide +kernel
theorem dL_law_454 : decode cL_law 454 = .ok (.aload_n 0, 1) := by decide +kernel
theorem dL_law_455 : decode cL_law 455 = .ok (.iload_n 3, 1) := by decide +kernel
theorem dL_law_456 : decode cL_law 456 = .ok (.iconst 1, 1) := by decide +kernel
theorem dL_law_457 : decode cL_law 457 = .ok (.iadd, 1) := by decide +kernel
theorem dL_law_458 : decode cL_law 458 = .ok (.iaload, 1) := by decide +kernel
theorem dL_law_459 : decode cL_law 459 = .ok (.aload_n 0, 1) := by decide +kernel
theorem dL_law_460 : decode cL_law 460 = .ok (.iload_n 3, 1) := by decide +kernel
theorem dL_law_461 : decode cL_law 461 = .ok (.iconst 2, 1) := by decide +kernel
theorem dL_law_462 : decode cL_law 462 = .ok (.iadd, 1) := by decide +kernel
theorem dL_law_463 : decode cL_law 463 = .ok (.iaload, 1) := by decide +kernel
theorem dL_law_464 : decode cL_law 464 = .ok (.aload_n 0, 1) := by decide +kernel
theorem dL_law_465 : decode cL_law 465 = .ok (.iload_n 3, 1) := by decide +kernel
theorem dL_law_466 : decode cL_law 466 = .ok (.iconst 3, 1) := by decide +kernel
theorem dL_law_467 : decode cL_law 467 = .ok (.iadd, 1) := by decide +kernel
theorem dL_law_468 : decode cL_law 468 = .ok (.iaload, 1) := by decide +kernel
theorem dL_law_469 : decode cL_law 469 = .ok (.aload_n 0, 1) := by decide +kernel
theorem dL_law_470 : decode cL_law 470 = .ok (.iload_n 3, 1) := by decide +kernel
theorem dL_law_471 : decode cL_law 471 = .ok (.iconst 4, 1) := by decide +kernel
theorem dL_law_472 : decode cL_law 472 = .ok (.iadd, 1) := by decide +kernel
theorem dL_law_473 : decode cL_law 473 = .ok (.iaload, 1) := by decide +kernel
theorem dL_law_474 : decode cL_law 474 = .ok (.invokevirtual 65, 3) := by decide +kernel
theorem dL_law_477 : decode cL_law 477 = .ok (.if_icmp .eq 222, 3) := by decide +kernel
theorem dL_law_480 : decode cL_law 480 = .ok (.iconst 0, 1) := by decide +kernel
theorem dL_law_481 : decode cL_law 481 = .ok (.ireturn, 1) := by decide +kernel
theorem dL_law_482 : decode cL_law 482 = .ok (.aload_n 1, 1) := by decide +kernel
theorem dL_law_483 : decode cL_law 483 = .ok (.aload_n 0, 1) := by decide +kernel
theorem dL_law_484 : decode cL_law 484 = .ok (.iload_n 3, 1) := by decide +kernel
theorem dL_law_485 : decode cL_law 485 = .ok (.iconst 1, 1) := by decide +kernel
theorem dL_law_486 : decode cL_law 486 = .ok (.iadd, 1) := by decide +kernel
theorem dL_law_487 : decode cL_law 487 = .ok (.iaload, 1) := by decide +kernel
theorem dL_law_488 : decode cL_law 488 = .ok (.invokevirtual 66, 3) := by decide +kernel
theorem dL_law_491 : decode cL_law 491 = .ok (.aload_n 2, 1) := by decide +kernel
theorem dL_law_492 : decode cL_law 492 = .ok (.aload_n 0, 1) := by decide +kernel
theorem dL_law_493 : decode cL_law 493 = .ok (.iload_n 3, 1) := by decide +kernel
theorem dL_law_494 : decode cL_law 494 = .ok (.iconst 1, 1) := by decide +kernel
theorem dL_law_495 : decode cL_law 495 = .ok (.iadd, 1) := by decide +kernel
theorem dL_law_496 : decode cL_law 496 = .ok (.iaload, 1) := by decide +kernel
theorem dL_law_497 : decode cL_law 497 = .ok (.invokevirtual 70, 3) := by decide +kernel
theorem dL_law_500 : decode cL_law 500 = .ok (.if_icmp .eq 199, 3) := by decide +kernel
theorem dL_law_503 : decode cL_law 503 = .ok (.iconst 0, 1) := by decide +kernel
theorem dL_law_504 : decode cL_law 504 = .ok (.ireturn, 1) := by decide +kernel
theorem dL_law_505 : decode cL_law 505 = .ok (.aload_n 1, 1) := by decide +kernel
theorem dL_law_506 : decode cL_law 506 = .ok (.aload_n 0, 1) := by decide +kernel
theorem dL_law_507 : decode cL_law 507 = .ok (.iload_n 3, 1) := by decide +kernel
theorem dL_law_508 : decode cL_law 508 = .ok (.iconst 1, 1) := by decide +kernel
theorem dL_law_509 : decode cL_law 509 = .ok (.iadd, 1) := by decide +kernel
theorem dL_law_510 : decode cL_law 510 = .ok (.iaload, 1) := by decide +kernel
theorem dL_law_511 : decode cL_law 511 = .ok (.aload_n 0, 1) := by decide +kernel
theorem dL_law_512 : decode cL_law 512 = .ok (.iload_n 3, 1) := by decide +kernel
theorem dL_law_513 : decode cL_law 513 = .ok (.iconst 2, 1) := by decide +kernel
theorem dL_law_514 : decode cL_law 514 = .ok (.iadd, 1) := by decide +kernel
theorem dL_law_515 : decode cL_law 515 = .ok (.iaload, 1) := by decide +kernel
theorem dL_law_516 : decode cL_law 516 = .ok (.invokevirtual 71, 3) := by decide +kernel
theorem dL_law_519 : decode cL_law 519 = .ok (.aload_n 2, 1) := by decide +kernel
theorem dL_law_520 : decode cL_law 520 = .ok (.aload_n 0, 1) := by decide +kernel
theorem dL_law_521 : decode cL_law 521 = .ok (.iload_n 3, 1) := by decide +kernel
theorem dL_law_522 : decode cL_law 522 = .ok (.iconst 1, 1) := by decide +kernel
theorem dL_law_523 : decode cL_law 523 = .ok (.iadd, 1) := by decide +kernel
theorem dL_law_524 : decode cL_law 524 = .ok (.iaload, 1) := by decide +kernel
theorem dL_law_525 : decode cL_law 525 = .ok (.aload_n 0, 1) := by decide +kernel
theorem dL_law_526 : decode cL_law 526 = .ok (.iload_n 3, 1) := by decide +kernel
theorem dL_law_527 : decode cL_law 527 = .ok (.iconst 2, 1) := by decide +kernel
theorem dL_law_528 : decode cL_law 528 = .ok (.iadd, 1) := by decide +kernel
theorem dL_law_529 : decode cL_law 529 = .ok (.iaload, 1) := by decide +kernel
theorem dL_law_530 : decode cL_law 530 = .ok (.invokevirtual 74, 3) := by decide +kernel
theorem dL_law_533 : decode cL_law 533 = .ok (.if_icmp .eq 166, 3) := by decide +kernel
theorem dL_law_536 : decode cL_law 536 = .ok (.iconst 0, 1) := by decide +kernel
theorem dL_law_537 : decode cL_law 537 = .ok (.ireturn, 1) := by decide +kernel
theorem dL_law_538 : decode cL_law 538 = .ok (.aload_n 1, 1) := by decide +kernel
theorem dL_law_539 : decode cL_law 539 = .ok (.aload_n 0, 1) := by decide +kernel
theorem dL_law_540 : decode cL_law 540 = .ok (.iload_n 3, 1) := by decide +kernel
theorem dL_law_541 : decode cL_law 541 = .ok (.iconst 1, 1) := by decide +kernel
theorem dL_law_542 : decode cL_law 542 = .ok (.iadd, 1) := by decide +kernel
theorem dL_law_543 : decode cL_law 543 = .ok (.iaload, 1) := by decide +kernel
theorem dL_law_544 : decode cL_law 544 = .ok (.invokevirtual 75, 3) := by decide +kernel
theorem dL_law_547 : decode cL_law 547 = .ok (.aload_n 2, 1) := by decide +kernel
theorem dL_law_548 : decode cL_law 548 = .ok (.aload_n 0, 1) := by decide +kernel
theorem dL_law_549 : decode cL_law 549 = .ok (.iload_n 3, 1) := by decide +kernel
theorem dL_law_550 : decode cL_law 550 = .ok (.iconst 1, 1) := by decide +kernel
theorem dL_law_551 : decode cL_law 551 = .ok (.iadd, 1) := by decide +kernel
theorem dL_law_552 : decode cL_law 552 = .ok (.iaload, 1) := by decide +kernel
theorem dL_law_553 : decode cL_law 553 = .ok (.invokevirtual 78, 3) := by decide +kernel
theorem dL_law_556 : decode cL_law 556 = .ok (.if_icmp .eq 143, 3) := by decide +kernel
theorem dL_law_559 : decode cL_law 559 = .ok (.iconst 0, 1) := by decide +kernel
theorem dL_law_560 : decode cL_law 560 = .ok (.ireturn, 1) := by decide +kernel
theorem dL_law_561 : decode cL_law 561 = .ok (.aload_n 1, 1) := by decide +kernel
theorem dL_law_562 : decode cL_law 562 = .ok (.aload_n 0, 1) := by decide +kernel
theorem dL_law_563 : decode cL_law 563 = .ok (.iload_n 3, 1) := by decide +kernel
theorem dL_law_564 : decode cL_law 564 = .ok (.iconst 1, 1) := by decide +kernel
theorem dL_law_565 : decode cL_law 565 = .ok (.iadd, 1) := by decide +kernel
theorem dL_law_566 : decode cL_law 566 = .ok (.iaload, 1) := by decide +kernel
theorem dL_law_567 : decode cL_law 567 = .ok (.invokevirtual 79, 3) := by decide +kernel
theorem dL_law_570 : decode cL_law 570 = .ok (.aload_n 2, 1) := by decide +kernel
theorem dL_law_571 : decode cL_law 571 = .ok (.aload_n 0, 1) := by decide +kernel
theorem dL_law_572 : decode cL_law 572 = .ok (.iload_n 3, 1) := by decide +kernel
theorem dL_law_573 : decode cL_law 573 = .ok (.iconst 1, 1) := by decide +kernel
theorem dL_law_574 : decode cL_law 574 = .ok (.iadd, 1) := by decide +kernel
theorem dL_law_575 : decode cL_law 575 = .ok (.iaload, 1) := by decide +kernel
theorem dL_law_576 : decode cL_law 576 = .ok (.invokevirtual 82, 3) := by decide +kernel
theorem dL_law_579 : decode cL_law 579 = .ok (.if_icmp .eq 120, 3) := by decide +kernel
theorem dL_law_582 : decode cL_law 582 = .ok (.iconst 0, 1) := by decide +kernel
theorem dL_law_583 : decode cL_law 583 = .ok (.ireturn, 1) := by decide +kernel
theorem dL_law_584 : decode cL_law 584 = .ok (.aload_n 1, 1) := by decide +kernel
theorem dL_law_585 : decode cL_law 585 = .ok (.aload_n 0, 1) := by decide +kernel
theorem dL_law_586 : decode cL_law 586 = .ok (.iload_n 3, 1) := by decide +kernel
theorem dL_law_587 : decode cL_law 587 = .ok (.iconst 1, 1) := by decide +kernel
theorem dL_law_588 : decode cL_law 588 = .ok (.iadd, 1) := by decide +kernel
theorem dL_law_589 : decode cL_law 589 = .ok (.iaload, 1) := by decide +kernel
theorem dL_law_590 : decode cL_law 590 = .ok (.aload_n 0, 1) := by decide +kernel
theorem dL_law_591 : decode cL_law 591 = .ok (.iload_n 3, 1) := by decide +kernel
theorem dL_law_592 : decode cL_law 592 = .ok (.iconst 2, 1) := by decide +kernel
theorem dL_law_593 : decode cL_law 593 = .ok (.iadd, 1) := by decide +kernel
theorem dL_law_594 : decode cL_law 594 = .ok (.iaload, 1) := by decide +kernel
theorem dL_law_595 : decode cL_law 595 = .ok (.invokevirtual 83, 3) := by decide +kernel
theorem dL_law_598 : decode cL_law 598 = .ok (.aload_n 2, 1) := by decide +kernel
theorem dL_law_599 : decode cL_law 599 = .ok (.aload_n 0, 1) := by decide +kernel
theorem dL_law_600 : decode cL_law 600 = .ok (.iload_n 3, 1) := by decide +kernel
theorem dL_law_601 : decode cL_law 601 = .ok (.iconst 1, 1) := by decide +kernel
theorem dL_law_602 : decode cL_law 602 = .ok (.iadd, 1) := by decide +kernel
theorem dL_law_603 : decode cL_law 603 = .ok (.iaload, 1) := by decide +kernel
theorem dL_law_604 : decode cL_law 604 = .ok (.aload_n 0, 1) := by decide +kernel
theorem dL_law_605 : decode cL_law 605 = .ok (.iload_n 3, 1) := by decide +kernel
theorem dL_law_606 : decode cL_law 606 = .ok (.iconst 2, 1) := by decide +kernel
theorem dL_law_607 : decode cL_law 607 = .ok (.iadd, 1) := by decide +kernel
theorem dL_law_608 : decode cL_law 608 = .ok (.iaload, 1) := by decide +kernel
theorem dL_law_609 : decode cL_law 609 = .ok (.invokevirtual 86, 3) := by decide +kernel
theorem dL_law_612 : decode cL_law 612 = .ok (.if_icmp .eq 87, 3) := by decide +kernel
theorem dL_law_615 : decode cL_law 615 = .ok (.iconst 0, 1) := by decide +kernel
theorem dL_law_616 : decode cL_law 616 = .ok (.ireturn, 1) := by decide +kernel
theorem dL_law_617 : decode cL_law 617 = .ok (.aload_n 1, 1) := by decide +kernel
theorem dL_law_618 : decode cL_law 618 = .ok (.aload_n 0, 1) := by decide +kernel
theorem dL_law_619 : decode cL_law 619 = .ok (.iload_n 3, 1) := by decide +kernel
theorem dL_law_620 : decode cL_law 620 = .ok (.iconst 1, 1) := by decide +kernel
theorem dL_law_621 : decode cL_law 621 = .ok (.iadd, 1) := by decide +kernel
theorem dL_law_622 : decode cL_law 622 = .ok (.iaload, 1) := by decide +kernel
theorem dL_law_623 : decode cL_law 623 = .ok (.invokevirtual 87, 3) := by decide +kernel
theorem dL_law_626 : decode cL_law 626 = .ok (.aload_n 2, 1) := by decide +kernel
theorem dL_law_627 : decode cL_law 627 = .ok (.aload_n 0, 1) := by decide +kernel
theorem dL_law_628 : decode cL_law 628 = .ok (.iload_n 3, 1) := by decide +kernel
theorem dL_law_629 : decode cL_law 629 = .ok (.iconst 1, 1) := by decide +kernel
theorem dL_law_630 : decode cL_law 630 = .ok (.iadd, 1) := by decide +kernel
theorem dL_law_631 : decode cL_law 631 = .ok (.iaload, 1) := by decide +kernel
theorem dL_law_632 : decode cL_law 632 = .ok (.invokevirtual 90, 3) := by decide +kernel
theorem dL_law_635 : decode cL_law 635 = .ok (.if_icmp .eq 64, 3) := by decide +kernel
theorem dL_law_638 : decode cL_law 638 = .ok (.iconst 0, 1) := by decide +kernel
theorem dL_law_639 : decode cL_law 639 = .ok (.ireturn, 1) := by decide +kernel
theorem dL_law_640 : decode cL_law 640 = .ok (.aload_n 1, 1) := by decide +kernel
theorem dL_law_641 : decode cL_law 641 = .ok (.invokevirtual 91, 3) := by decide +kernel
theorem dL_law_644 : decode cL_law 644 = .ok (.aload_n 2, 1) := by decide +kernel
theorem dL_law_645 : decode cL_law 645 = .ok (.invokevirtual 95, 3) := by decide +kernel
theorem dL_law_648 : decode cL_law 648 = .ok (.if_icmp .eq 51, 3) := by decide +kernel
theorem dL_law_651 : decode cL_law 651 = .ok (.iconst 0, 1) := by decide +kernel
theorem dL_law_652 : decode cL_law 652 = .ok (.ireturn, 1) := by decide +kernel
theorem dL_law_653 : decode cL_law 653 = .ok (.aload_n 1, 1) := by decide +kernel
theorem dL_law_654 : decode cL_law 654 = .ok (.aload_n 0, 1) := by decide +kernel
theorem dL_law_655 : decode cL_law 655 = .ok (.iload_n 3, 1) := by decide +kernel
theorem dL_law_656 : decode cL_law 656 = .ok (.iconst 1, 1) := by decide +kernel
theorem dL_law_657 : decode cL_law 657 = .ok (.iadd, 1) := by decide +kernel
theorem dL_law_658 : decode cL_law 658 = .ok (.iaload, 1) := by decide +kernel
theorem dL_law_659 : decode cL_law 659 = .ok (.invokevirtual 96, 3) := by decide +kernel
theorem dL_law_662 : decode cL_law 662 = .ok (.aload_n 2, 1) := by decide +kernel
theorem dL_law_663 : decode cL_law 663 = .ok (.aload_n 0, 1) := by decide +kernel
theorem dL_law_664 : decode cL_law 664 = .ok (.iload_n 3, 1) := by decide +kernel
theorem dL_law_665 : decode cL_law 665 = .ok (.iconst 1, 1) := by decide +kernel
theorem dL_law_666 : decode cL_law 666 = .ok (.iadd, 1) := by decide +kernel
theorem dL_law_667 : decode cL_law 667 = .ok (.iaload, 1) := by decide +kernel
theorem dL_law_668 : decode cL_law 668 = .ok (.invokevirtual 99, 3) := by decide +kernel
theorem dL_law_671 : decode cL_law 671 = .ok (.if_icmp .eq 28, 3) := by decide +kernel
theorem dL_law_674 : decode cL_law 674 = .ok (.iconst 0, 1) := by decide +kernel
theorem dL_law_675 : decode cL_law 675 = .ok (.ireturn, 1) := by decide +kernel
theorem dL_law_676 : decode cL_law 676 = .ok (.aload_n 1, 1) := by decide +kernel
theorem dL_law_677 : decode cL_law 677 = .ok (.aload_n 0, 1) := by decide +kernel
theorem dL_law_678 : decode cL_law 678 = .ok (.iload_n 3, 1) := by decide +kernel
theorem dL_law_679 : decode cL_law 679 = .ok (.iconst 1, 1) := by decide +kernel
theorem dL_law_680 : decode cL_law 680 = .ok (.iadd, 1) := by decide +kernel
theorem dL_law_681 : decode cL_law 681 = .ok (.iaload, 1) := by decide +kernel
theorem dL_law_682 : decode cL_law 682 = .ok (.invokevirtual 100, 3) := by decide +kernel
theorem dL_law_685 : decode cL_law 685 = .ok (.aload_n 2, 1) := by decide +kernel
theorem dL_law_686 : decode cL_law 686 = .ok (.aload_n 0, 1) := by decide +kernel
theorem dL_law_687 : decode cL_law 687 = .ok (.iload_n 3, 1) := by decide +kernel
theorem dL_law_688 : decode cL_law 688 = .ok (.iconst 1, 1) := by decide +kernel
theorem dL_law_689 : decode cL_law 689 = .ok (.iadd, 1) := by decide +kernel
theorem dL_law_690 : decode cL_law 690 = .ok (.iaload, 1) := by decide +kernel
theorem dL_law_691 : decode cL_law 691 = .ok (.invokevirtual 103, 3) := by decide +kernel
theorem dL_law_694 : decode cL_law 694 = .ok (.if_icmp .eq 5, 3) := by decide +kernel
theorem dL_law_697 : decode cL_law 697 = .ok (.iconst 0, 1) := by decide +kernel
theorem dL_law_698 : decode cL_law 698 = .ok (.ireturn, 1) := by decide +kernel
theorem dL_law_699 : decode cL_law 699 = .ok (.iinc 3 5, 3) := by decide +kernel
theorem dL_law_702 : decode cL_law 702 = .ok (.goto (-674), 3) := by decide +kernel
theorem dL_law_705 : decode cL_law 705 = .ok (.iconst 1, 1) := by decide +kernel
theorem dL_law_706 : decode cL_law 706 = .ok (.ireturn, 1) := by decide +kernel
end
section
/-! ROWS OF THE HEAP over the judgement X -/
theorem vP1 {D : va_G} {cl : List vw_C} {a : Nat} {e : va_E} {H : Heap} (h : va_at D cl (a, e) H) : va_P D cl [(a, e)] H := by
  intro i q hq
  match i, hq with
  | 0, hq => cases hq; exact h
  | i + 1, hq => simp at hq
theorem Rl.at {k : KT} {S : HS} {H : Heap} (h : Rl k S H) {a c : Nat} (hK : gK S a = c + 1) (h9 : c < 9) : va_at k.2.1 vwCl (a, .inr (c, fv S c a)) H := by
  have h1 := (h.2 a (by omega)).2
  rw [ce_o hK h9] at h1
  exact h1
theorem Rl.lo {k : KT} {S : HS} {H : Heap} (h : Rl k S H) {a : Nat} (hK : gK S a ≠ 0) : kA k a := (h.2 a hK).1
theorem Cx.exec {k : KT} {μ : MT} {p : Program} {s : State} {m : MethodId} {args : Array Value} {meth : Method} {c : Code} (C : Cx k μ p s m args meth c) : p.tables.exec = Jvm.exec := C.1
theorem Cx.bytes {k : KT} {μ : MT} {p : Program} {s : State} {m : MethodId} {args : Array Value} {meth : Method} {c : Code} (C : Cx k μ p s m args meth c) : c.code = μ.2.2.1 := C.2.1
theorem Cx.maxL {k : KT} {μ : MT} {p : Program} {s : State} {m : MethodId} {args : Array Value} {meth : Method} {c : Code} (C : Cx k μ p s m args meth c) : c.maxLocals = μ.2.2.2.1 := C.2.2.1
theorem Cx.words {k : KT} {μ : MT} {p : Program} {s : State} {m : MethodId} {args : Array Value} {meth : Method} {c : Code} (C : Cx k μ p s m args meth c) : ∀ w ∈ wsL_law, w.before args s = true := C.2.2.2.2.1
theorem Cx.own {k : KT} {μ : MT} {p : Program} {s : State} {m : MethodId} {args : Array Value} {meth : Method} {c : Code} (C : Cx k μ p s m args meth c) : s.vm.findClass μ.2.1.cls = some m.cls := C.2.2.2.2.2.1
theorem Cx.name {k : KT} {μ : MT} {p : Program} {s : State} {m : MethodId} {args : Array Value} {meth : Method} {c : Code} (C : Cx k μ p s m args meth c) : meth.name = μ.2.1.name := C.2.2.2.2.2.2.2.1
theorem Cx.gd {k : KT} {μ : MT} {p : Program} {s : State} {m : MethodId} {args : Array Value} {meth : Method} {c : Code} (C : Cx k μ p s m args meth c) : Gd k s := C.2.2.2.2.2.2.2.2
theorem Cx.cls {k : KT} {μ : MT} {p : Program} {s : State} {m : MethodId} {args : Array Value} {meth : Method} {c : Code} (C : Cx k μ p s m args meth c) : va_K k.2.1 vwCl (kT k) s := C.gd.1
theorem x_get {k : KT} {μ : MT} {Z : ZT} {pc : Nat} {lv : List (Nat × Value)} {rest : List Value} {S : HS} {cells slots a idx : Nat} {Cn ref : String} {T : u_T} {N : Nat} {b : Bool} (c j : Nat) (hd : decode μ.2.2.1 pc = .ok (.getfield idx, 3)) (hc : vwCl[c]? = some (Cn, T, N)) (h9 : c < 9) (hj : j < N) (hr : (rfT c)[j]? = some b) (hin : ∀ w ∈ u_ws Cn T N, w ∈ wsL_law) (hw : Cond.fieldLink μ.2.1.cls idx ref (T j).2.1 (T j).2.2.1 ∈ wsL_law) (hsm : (T j).1 = ref ∨ Cond.sameField ref (T j).1 (T j).2.1 (T j).2.2.1 ∈ wsL_law) (hK : gK S a = c + 1) (kk : X k μ Z (pc + 3) lv ((if b then va_rf (gP S (32 * c + j) a) else .int (gI S (32 * c + j) a)) :: rest) S cells slots) : X k μ Z pc lv (.ref a :: rest) S cells slots := by
  intro p e s m args below meth cd H locs ls C hl hR hS
  refine va_get (D := k.2.1) (cl := vwCl) (ci := c) C.exec C.bytes C.words hin C.own C.cls (vP1 (hR.at hK h9)) 0 rfl hc j hj (C.words _ hw) (fun x hx => ?_) (fv_get S a hr) hd (kk p e s m args below meth cd H locs ls C hl hR hS)
  rcases hsm with h | h
  · rw [← h]; exact hx
  · exact u_same (C.words _ h) x hx
theorem x_put {k : KT} {μ : MT} {Z : ZT} {pc : Nat} {lv : List (Nat × Value)} {rest : List Value} {S S' : HS} {cells slots a idx : Nat} {Cn ref : String} {T : u_T} {N : Nat} {ty : FieldType} {v : Value} (c j : Nat) (ty0 : Nat → FieldType) (hd : decode μ.2.2.1 pc = .ok (.putfield idx, 3)) (hc : vwCl[c]? = some (Cn, T, N)) (h9 : c < 9) (hj : j < N) (hin : ∀ w ∈ u_ws Cn T N, w ∈ wsL_law) (hty : ∀ k, k < N → parseFieldDescriptor (T k).2.2.1 = some (ty0 k)) (hnm : ∀ a, a < N → ∀ b, b < N → a ≠ b → (T a).2.1 ≠ (T b).2.1) (hw : Cond.fieldLink μ.2.1.cls idx ref (T j).2.1 (T j).2.2.1 ∈ wsL_law) (hsm : (T j).1 = ref ∨ Cond.sameField ref (T j).1 (T j).2.1 (T j).2.2.1 ∈ wsL_law) (hfin : (T j).2.2.2 = false ∨ ((T j).2.2.2 = true ∧ μ.2.1.name = "<init>" ∧ (T j).1 = μ.2.1.cls)) (hds : parseFieldDescriptor (T j).2.2.1 = some ty) (hn : narrow ty v = v) (hfit : fits ty v = true) (hK : gK S a = c + 1)
    (hKs : ∀ b, gK S' b = gK S b) (hNs : gN S' = gN S) (hce : ∀ b, b ≠ a → ce k S' b = ce k S b) (hlen : j < (fv S c a).length) (hfv : fv S' c a = (fv S c a).set j v) (kk : X k μ Z (pc + 3) lv rest S' cells slots) : X k μ Z pc lv (v :: .ref a :: rest) S cells slots := by
  intro p e s m args below meth cd H locs ls C hl hR hS
  have hsame : ∀ x, s.fieldFound? (T j).1 (T j).2.1 (T j).2.2.1 = some x → s.fieldFound? ref (T j).2.1 (T j).2.2.1 = some x := fun x hx => by
    rcases hsm with h | h
    · rw [← h]; exact hx
    · exact u_same (C.words _ h) x hx
  have hap := va_apart (own := μ.2.1.cls) C.words hin ty0 hty hnm C.cls hc
  obtain ⟨r, h1, cell, q1, q2, q3, q4⟩ := hR.at hK h9
  have hr : r = (Cn, T, N) := Option.some.inj (h1.symm.trans hc)
  subst hr
  obtain ⟨hS1, hfc, kC, hkC, hkind⟩ := C.cls.1 c _ hc
  obtain ⟨cf, kf, fi, f, hi, hsl⟩ := hS1 j hj
  have hlay := C.words _ (hin _ (u_in_lay hj))
  have hst := (u_facts hfc hkC (u_lays C.words hin hj) hi).1
  have fin : ∀ (H' : Heap), H'[a]? = some (cell.setSlot f.slot v) → H'.size = H.size → (∀ q, q ≠ a → H'[q]? = H[q]?) → Rl k S' H' := by
    intro H' e1 e2 e3
    rw [hsl] at e1
    refine hR.set e2 e3 hKs hNs hce ?_
    rw [ce_o (show gK S' a = c + 1 by rw [hKs]; exact hK) h9, hfv]
    exact ⟨_, hc, t_OB.to (V := updV (vp_V (fv S c a)) j v) ⟨_, e1, q2, q3, t_set q4 hap hj v⟩ (fun i _ => vp_updV_set hlen v i)⟩
  have hA : kA k a := hR.lo (by omega)
  rcases hfin with hfin | ⟨hfin, hin2, hdecl⟩
  · unfold u_lay at hlay
    rw [if_neg (by rw [hfin]; decide)] at hlay
    have h6 := u_store hfc hkC hkind hlay hi hds hn hfit
    exact W.putK C.exec C.bytes (f := f) ⟨C.own, C.words _ hw, ⟨_, _, _, hsame _ hi⟩, hst⟩ (by rw [q2]; exact h6) q1 q3 (by rw [hsl]; exact k2_hasslot (q4 j hj)) rfl rfl hd fun H' e1 e2 e3 => kk p e s m args below meth cd H' _ ls C hl (fin H' e1 e2 e3) (hS.put e2 e3 hA)
  · unfold u_lay at hlay
    rw [if_pos hfin] at hlay
    have hcf : m.cls = cf := by
      obtain ⟨_, _, c', _, _, _, -, -, hf', -, -, -, hown2, -⟩ := Cond.laysFinal_spec hlay
      have e1 : c' = cf := by have := hi.symm.trans hf'; simp at this; exact this.1.symm
      rw [hdecl] at hown2
      rw [← e1]; exact Option.some.inj (C.own.symm.trans hown2)
    have h6 := u_fits hfc hkC hkind (Or.inr hlay) hi hds hn hfit
    exact W.putFinK C.exec C.bytes C.own (C.words _ hw) (hsame _ hi) hst hcf (C.name.trans hin2) (by rw [q2]; exact h6) q1 q3 (by rw [hsl]; exact k2_hasslot (q4 j hj)) rfl rfl hd fun H' e1 e2 e3 => kk p e s m args below meth cd H' _ ls C hl (fin H' e1 e2 e3) (hS.put e2 e3 hA)
theorem x_putI {k : KT} {μ : MT} {Z : ZT} {pc : Nat} {lv : List (Nat × Value)} {rest : List Value} {S : HS} {cells slots a idx : Nat} {Cn ref : String} {T : u_T} {N : Nat} {ty : FieldType} {v : Int32} (c j : Nat) (ty0 : Nat → FieldType) (hd : decode μ.2.2.1 pc = .ok (.putfield idx, 3)) (hc : vwCl[c]? = some (Cn, T, N)) (h9 : c < 9) (hj : j < N) (hr : (rfT c)[j]? = some false) (hin : ∀ w ∈ u_ws Cn T N, w ∈ wsL_law) (hty : ∀ k, k < N → parseFieldDescriptor (T k).2.2.1 = some (ty0 k)) (hnm : ∀ a, a < N → ∀ b, b < N → a ≠ b → (T a).2.1 ≠ (T b).2.1) (hw : Cond.fieldLink μ.2.1.cls idx ref (T j).2.1 (T j).2.2.1 ∈ wsL_law) (hsm : (T j).1 = ref ∨ Cond.sameField ref (T j).1 (T j).2.1 (T j).2.2.1 ∈ wsL_law) (hfin : (T j).2.2.2 = false ∨ ((T j).2.2.2 = true ∧ μ.2.1.name = "<init>" ∧ (T j).1 = μ.2.1.cls)) (hds : parseFieldDescriptor (T j).2.2.1 = some ty) (hn : narrow ty (.int v) = .int v) (hfit : fits ty (.int v) = true) (hK : gK S a = c + 1)
    (kk : X k μ Z (pc + 3) lv rest (uI S (32 * c + j) a v) cells slots) : X k μ Z pc lv (.int v :: .ref a :: rest) S cells slots :=
  x_put (S' := uI S (32 * c + j) a v) c j ty0 hd hc h9 hj hin hty hnm hw hsm hfin hds hn hfit hK (fun _ => rfl) rfl (fun _ h => ce_uI h) (by rw [fv_len]; exact (List.getElem?_eq_some_iff.mp hr).1) (fv_setI S a v hr) kk
theorem x_putP {k : KT} {μ : MT} {Z : ZT} {pc : Nat} {lv : List (Nat × Value)} {rest : List Value} {S : HS} {cells slots a idx : Nat} {Cn ref : String} {T : u_T} {N : Nat} {ty : FieldType} {v : Nat} (c j : Nat) (ty0 : Nat → FieldType) (hd : decode μ.2.2.1 pc = .ok (.putfield idx, 3)) (hc : vwCl[c]? = some (Cn, T, N)) (h9 : c < 9) (hj : j < N) (hr : (rfT c)[j]? = some true) (hin : ∀ w ∈ u_ws Cn T N, w ∈ wsL_law) (hty : ∀ k, k < N → parseFieldDescriptor (T k).2.2.1 = some (ty0 k)) (hnm : ∀ a, a < N → ∀ b, b < N → a ≠ b → (T a).2.1 ≠ (T b).2.1) (hw : Cond.fieldLink μ.2.1.cls idx ref (T j).2.1 (T j).2.2.1 ∈ wsL_law) (hsm : (T j).1 = ref ∨ Cond.sameField ref (T j).1 (T j).2.1 (T j).2.2.1 ∈ wsL_law) (hfin : (T j).2.2.2 = false ∨ ((T j).2.2.2 = true ∧ μ.2.1.name = "<init>" ∧ (T j).1 = μ.2.1.cls)) (hds : parseFieldDescriptor (T j).2.2.1 = some ty) (hn : narrow ty (.ref v) = .ref v) (hfit : fits ty (.ref v) = true) (hK : gK S a = c + 1)
    (kk : X k μ Z (pc + 3) lv rest (uP S (32 * c + j) a (some v)) cells slots) : X k μ Z pc lv (.ref v :: .ref a :: rest) S cells slots :=
  x_put (S' := uP S (32 * c + j) a (some v)) c j ty0 hd hc h9 hj hin hty hnm hw hsm hfin hds hn hfit hK (fun _ => rfl) rfl (fun _ h => ce_uP h) (by rw [fv_len]; exact (List.getElem?_eq_some_iff.mp hr).1) (fv_setP S a (some v) hr) kk
theorem fv_new (S : HS) (c : Nat) : fv (nO S c) c (gN S) = (rfT c).map (fun b => if b then Value.null else .int 0) := by
  apply List.ext_getElem?
  intro i
  simp only [fv, List.getElem?_map, List.getElem?_zipIdx]
  cases hb : (rfT c)[i]? with
  | none => rfl
  | some b => cases b <;> simp [gI_nO, gP_nO, va_rf]
theorem x_new {k : KT} {μ : MT} {Z : ZT} {pc : Nat} {lv : List (Nat × Value)} {rest : List Value} {S : HS} {cells slots idx : Nat} {Cn : String} {T : u_T} {N : Nat} (c : Nat) (ty : Nat → FieldType) (hd : decode μ.2.2.1 pc = .ok (.new idx, 3)) (hc : vwCl[c]? = some (Cn, T, N)) (h9 : c < 9) (hin : ∀ w ∈ u_ws Cn T N, w ∈ wsL_law) (hty : ∀ k, k < N → parseFieldDescriptor (T k).2.2.1 = some (ty k)) (hcl : Cond.classLink μ.2.1.cls idx Cn ∈ wsL_law) (hinst : Cond.instantiable Cn N ∈ wsL_law) (hini : Cond.initialized Cn ∈ wsL_law) (hfs : ∀ j, j < N → defaultValue (ty j) = vp_V ((rfT c).map (fun b => if b then Value.null else .int 0)) j) (hce : cells + 1 ≤ μ.1.cells) (hsl : slots + N ≤ μ.1.slots)
    (kk : X k μ Z (pc + 3) lv (.ref (gN S) :: rest) (nO S c) (cells + 1) (slots + N)) : X k μ Z pc lv rest S cells slots := by
  intro p e s m args below meth cd H locs ls C hl hR hS
  have hKn := C.cls.1 c _ hc
  refine W.newcK C.exec C.bytes C.own (C.words _ hcl) (C.words _ hinst) (C.words _ hini) rfl hd hce hsl hKn.2.1 hR.1 fun H1 kC hkC e1 z1 o1 => ?_
  have hlo : k.2.2.2.2 ≤ H.size := Nat.le_trans C.gd.2.2.2.2.2.2.2.2 hS.1
  rw [← hR.1] at o1
  refine kk p e s m args below meth cd H1 locs ls C hl (hR.push (S' := nO S c) (by rw [z1, hR.1]) o1 hlo (fun b hb => by rw [gK_nO, if_neg hb]) (gN_nO S c) (fun b hb => ce_nO hb) ?_) ⟨Nat.le_trans hS.1 (by rw [z1, hR.1]; omega), fun x h1 h2 => (o1 x (Nat.lt_of_lt_of_le h1 hS.1)).trans (hS.2.1 x h1 h2), hS.2.2⟩
  rw [ce_o (show gK (nO S c) (gN S) = c + 1 by rw [gK_nO, if_pos rfl]) h9, fv_new]
  exact ⟨_, hc, (u_born ty C.words hin hKn hkC e1 hty).to hfs⟩
end
section
/-! ROWS OF ARRAYS, STATICS, CASTS over the judgement X -/
theorem Rl.at20 {k : KT} {S : HS} {H : Heap} (h : Rl k S H) {a : Nat} (hK : gK S a = 20) : va_at k.2.1 vwCl (a, .inl (k.2.2.1 0, gL S a, .inl (gR S a))) H := by
  have h1 := (h.2 a (by omega)).2
  rw [ce_20 hK] at h1; exact h1
theorem Rl.at21 {k : KT} {S : HS} {H : Heap} (h : Rl k S H) {a : Nat} (hK : gK S a = 21) : va_at k.2.1 vwCl (a, .inl (k.2.2.1 1, gL S a, .inl (gR S a))) H := by
  have h1 := (h.2 a (by omega)).2
  rw [ce_21 hK] at h1; exact h1
theorem Rl.at22 {k : KT} {S : HS} {H : Heap} (h : Rl k S H) {a : Nat} (hK : gK S a = 22) : va_at k.2.1 vwCl (a, .inl (k.2.2.1 2, gL S a, .inr (.inr (.inr (.inr (gQ S a)))))) H := by
  have h1 := (h.2 a (by omega)).2
  rw [ce_22 hK] at h1; exact h1
theorem Rl.at23 {k : KT} {S : HS} {H : Heap} (h : Rl k S H) {a : Nat} (hK : gK S a = 23) : va_at k.2.1 vwCl (a, .inl (k.2.2.1 3, gL S a, .inr (.inr (.inr (.inr (gQ S a)))))) H := by
  have h1 := (h.2 a (by omega)).2
  rw [ce_23 hK] at h1; exact h1
theorem x_iaload {k : KT} {μ : MT} {Z : ZT} {pc : Nat} {lv : List (Nat × Value)} {rest : List Value} {S : HS} {cells slots a : Nat} {i : Int32} (hd : decode μ.2.2.1 pc = .ok (.iaload, 1)) (hK : gK S a = 20) (hin : vp_in i (gL S a)) (kk : X k μ Z (pc + 1) lv (.int (gR S a i.toNatClampNeg) :: rest) S cells slots) : X k μ Z pc lv (.int i :: .ref a :: rest) S cells slots := fun p e s m args below meth cd H locs ls C hl hR hS =>
  va_iald (D := k.2.1) (cl := vwCl) C.exec C.bytes C.cls (vP1 (hR.at20 hK)) 0 0 rfl rfl hin hd (kk p e s m args below meth cd H locs ls C hl hR hS)
theorem x_baload {k : KT} {μ : MT} {Z : ZT} {pc : Nat} {lv : List (Nat × Value)} {rest : List Value} {S : HS} {cells slots a : Nat} {i : Int32} (hd : decode μ.2.2.1 pc = .ok (.baload, 1)) (hK : gK S a = 21) (hin : vp_in i (gL S a)) (kk : X k μ Z (pc + 1) lv (.int (gR S a i.toNatClampNeg) :: rest) S cells slots) : X k μ Z pc lv (.int i :: .ref a :: rest) S cells slots := fun p e s m args below meth cd H locs ls C hl hR hS =>
  va_zald (D := k.2.1) (cl := vwCl) C.exec C.bytes C.cls (vP1 (hR.at21 hK)) 0 1 rfl rfl hin hd (kk p e s m args below meth cd H locs ls C hl hR hS)
theorem x_aaload22 {k : KT} {μ : MT} {Z : ZT} {pc : Nat} {lv : List (Nat × Value)} {rest : List Value} {S : HS} {cells slots a : Nat} {i : Int32} (hd : decode μ.2.2.1 pc = .ok (.aaload, 1)) (hK : gK S a = 22) (hin : vp_in i (gL S a)) (kk : X k μ Z (pc + 1) lv (va_rf (gQ S a i.toNatClampNeg) :: rest) S cells slots) : X k μ Z pc lv (.int i :: .ref a :: rest) S cells slots := fun p e s m args below meth cd H locs ls C hl hR hS =>
  va_aldq (D := k.2.1) (cl := vwCl) C.exec C.bytes C.cls (vP1 (hR.at22 hK)) 0 2 rfl rfl hin hd (kk p e s m args below meth cd H locs ls C hl hR hS)
theorem x_aaload23 {k : KT} {μ : MT} {Z : ZT} {pc : Nat} {lv : List (Nat × Value)} {rest : List Value} {S : HS} {cells slots a : Nat} {i : Int32} (hd : decode μ.2.2.1 pc = .ok (.aaload, 1)) (hK : gK S a = 23) (hin : vp_in i (gL S a)) (kk : X k μ Z (pc + 1) lv (va_rf (gQ S a i.toNatClampNeg) :: rest) S cells slots) : X k μ Z pc lv (.int i :: .ref a :: rest) S cells slots := fun p e s m args below meth cd H locs ls C hl hR hS =>
  va_aldq (D := k.2.1) (cl := vwCl) C.exec C.bytes C.cls (vP1 (hR.at23 hK)) 0 3 rfl rfl hin hd (kk p e s m args below meth cd H locs ls C hl hR hS)
theorem x_alen {k : KT} {μ : MT} {Z : ZT} {pc : Nat} {lv : List (Nat × Value)} {rest : List Value} {S : HS} {cells slots a : Nat} (hd : decode μ.2.2.1 pc = .ok (.arraylength, 1)) (hK : gK S a = 20 ∨ gK S a = 22 ∨ gK S a = 23) (kk : X k μ Z (pc + 1) lv (.int (nI (gL S a)) :: rest) S cells slots) : X k μ Z pc lv (.ref a :: rest) S cells slots := fun p e s m args below meth cd H locs ls C hl hR hS => by
  rcases hK with hK | hK | hK
  · exact va_alen (D := k.2.1) (cl := vwCl) C.exec C.bytes C.cls (vP1 (hR.at20 hK)) 0 0 rfl (ty := .int) rfl (v := nI (gL S a)) rfl hd (kk p e s m args below meth cd H locs ls C hl hR hS)
  · exact va_alen (D := k.2.1) (cl := vwCl) C.exec C.bytes C.cls (vP1 (hR.at22 hK)) 0 2 rfl (ty := .object "GlobeWorks$Gore") rfl (v := nI (gL S a)) rfl hd (kk p e s m args below meth cd H locs ls C hl hR hS)
  · exact va_alen (D := k.2.1) (cl := vwCl) C.exec C.bytes C.cls (vP1 (hR.at23 hK)) 0 3 rfl (ty := .object "java/lang/Object") rfl (v := nI (gL S a)) rfl hd (kk p e s m args below meth cd H locs ls C hl hR hS)
theorem x_iastore {k : KT} {μ : MT} {Z : ZT} {pc : Nat} {lv : List (Nat × Value)} {rest : List Value} {S : HS} {cells slots a : Nat} {i x : Int32} (hd : decode μ.2.2.1 pc = .ok (.iastore, 1)) (hK : gK S a = 20) (hin : vp_in i (gL S a)) (kk : X k μ Z (pc + 1) lv rest (uR S a (upd (gR S a) i.toNatClampNeg x)) cells slots) : X k μ Z pc lv (.int x :: .int i :: .ref a :: rest) S cells slots := fun p e s m args below meth cd H locs ls C hl hR hS => by
  refine W.iast C.exec C.bytes (hR.at20 hK) ((C.cls.2 0 _ rfl).1 (gL S a) (fun j => .int (gR S a j))) (fun q => by cases q) (by show ¬ (i < 0 ∨ (arrV _ _ _).slots.size ≤ _); rw [arrV_size]; exact hin) rfl rfl hd fun H1 e1 z oq => ?_
  refine kk p e s m args below meth cd H1 _ ls C hl (hR.set z oq (fun _ => rfl) rfl (fun b hb => ce_uR hb) ?_) (hS.put z oq (hR.lo (a := a) (by rw [hK]; decide)))
  rw [ce_20 (show gK (uR S a _) a = 20 from hK)]
  show H1[a]? = some (vp_cell _ _)
  rw [e1, vp_cell_i, vp_cell_i, arrV_store, gR_uR, if_pos rfl]
  show some (arrV _ _ _) = some (arrV _ (gL S a) _)
  congr 2
  funext q
  by_cases hq : q = i.toNatClampNeg
  · subst hq; simp [updV, upd]
  · simp [updV, upd, hq]
theorem x_bastore {k : KT} {μ : MT} {Z : ZT} {pc : Nat} {lv : List (Nat × Value)} {rest : List Value} {S : HS} {cells slots a : Nat} {i x : Int32} (hd : decode μ.2.2.1 pc = .ok (.bastore, 1)) (hK : gK S a = 21) (hin : vp_in i (gL S a)) (hx : narrow .boolean (.int x) = .int x) (kk : X k μ Z (pc + 1) lv rest (uR S a (upd (gR S a) i.toNatClampNeg x)) cells slots) : X k μ Z pc lv (.int x :: .int i :: .ref a :: rest) S cells slots := fun p e s m args below meth cd H locs ls C hl hR hS => by
  refine W.zast C.exec C.bytes (hR.at21 hK) ((C.cls.2 1 _ rfl).1 (gL S a) (fun j => .int (gR S a j))) (fun q => by cases q) (by show ¬ (i < 0 ∨ (arrV _ _ _).slots.size ≤ _); rw [arrV_size]; exact hin) rfl rfl hd fun H1 e1 z oq => ?_
  refine kk p e s m args below meth cd H1 _ ls C hl (hR.set z oq (fun _ => rfl) rfl (fun b hb => ce_uR hb) ?_) (hS.put z oq (hR.lo (a := a) (by rw [hK]; decide)))
  rw [ce_21 (show gK (uR S a _) a = 21 from hK)]
  show H1[a]? = some (vp_cell _ _)
  rw [e1, hx, vp_cell_i, vp_cell_i, arrV_store, gR_uR, if_pos rfl]
  show some (arrV _ _ _) = some (arrV _ (gL S a) _)
  congr 2
  funext q
  by_cases hq : q = i.toNatClampNeg
  · subst hq; simp [updV, upd]
  · simp [updV, upd, hq]
/-- an object of a class may stand in a row of Objects -/
theorem Rl.any {k : KT} {S : HS} {H : Heap} {s : State} (h : Rl k S H) (hK : va_K k.2.1 vwCl (kT k) s) {v c : Nat} {q : vw_C} {E : String} (hv : gK S v = c + 1) (h9 : c < 9) (hc : vwCl[c]? = some q) (hca : ∀ comp c0 : ClassId, s.vm.findClass E = some comp → s.vm.findClass q.1 = some c0 → s.vm.assignable c0 comp = true) : va_Any E s H v :=
  va_rAny hK (vP1 (h.at hv h9)) (q0 := 0) rfl hc hca
theorem x_aastore {k : KT} {μ : MT} {Z : ZT} {pc : Nat} {lv : List (Nat × Value)} {rest : List Value} {S : HS} {cells slots a v c : Nat} {q : vw_C} {i : Int32} (hd : decode μ.2.2.1 pc = .ok (.aastore, 1)) (hK : gK S a = 23) (hin : vp_in i (gL S a)) (hv : gK S v = c + 1) (h9 : c < 9) (hc : vwCl[c]? = some q) (hcs : (q.1, "java/lang/Object") ∈ csL) (kk : X k μ Z (pc + 1) lv rest (uQ S a (va_up (gQ S a) i.toNatClampNeg (some v))) cells slots) : X k μ Z pc lv (.ref v :: .int i :: .ref a :: rest) S cells slots := fun p e s m args below meth cd H locs ls C hl hR hS => by
  have hlt : i.toNatClampNeg < gL S a := Nat.not_le.mp fun q => hin (Or.inr q)
  have h0 : ¬ i < 0 := fun q => hin (Or.inl q)
  obtain ⟨cellV, g1, g3, ⟨kC, hkC⟩, hasg⟩ := hR.any C.cls hv h9 hc (vb_asgC (E := "java/lang/Object") (C.gd.2.2.1 _ hcs))
  obtain ⟨kA, comp, k1, k2, k3, -⟩ := (C.cls.2 3 _ rfl).2
  obtain ⟨kE, hkE, -⟩ := Vm.findClass_spec k3
  refine W.aast C.exec C.bytes (hR.at23 hK) (fun q h => by cases h) (fun h => by cases h) k1 k2 rfl hkE ⟨h0, by show _ < (arrV _ _ _).slots.size; rw [arrV_size]; exact hlt⟩ g1 (fun q h => by rw [h] at g3; cases g3) hkC (hasg _ k3) rfl rfl hd fun H1 e1 z oq => ?_
  refine kk p e s m args below meth cd H1 _ ls C hl (hR.set z oq (fun _ => rfl) rfl (fun b hb => ce_uQ hb) ?_) (hS.put z oq (hR.lo (a := a) (by rw [hK]; decide)))
  rw [ce_23 (show gK (uQ S a _) a = 23 from hK)]
  show H1[a]? = some (vp_cell _ _)
  rw [e1, vp_cell_q, vp_cell_q, arrV_store, gQ_uQ, if_pos rfl]
  show some (arrV _ _ _) = some (arrV _ (gL S a) _)
  congr 2
  funext q
  by_cases hq : q = i.toNatClampNeg
  · subst hq; simp [updV, va_up, va_rf]
  · simp [updV, va_up, hq]
theorem x_aastoreN {k : KT} {μ : MT} {Z : ZT} {pc : Nat} {lv : List (Nat × Value)} {rest : List Value} {S : HS} {cells slots a : Nat} {i : Int32} (hd : decode μ.2.2.1 pc = .ok (.aastore, 1)) (hK : gK S a = 23) (hin : vp_in i (gL S a)) (kk : X k μ Z (pc + 1) lv rest (uQ S a (va_up (gQ S a) i.toNatClampNeg none)) cells slots) : X k μ Z pc lv (.null :: .int i :: .ref a :: rest) S cells slots := fun p e s m args below meth cd H locs ls C hl hR hS => by
  refine va_WaastN (C := "java/lang/Object") C.exec C.bytes (hR.at23 hK) ((C.cls.2 3 _ rfl).1 (gL S a) (fun j => va_rf (gQ S a j))) (fun h => by cases h) (by show ¬ (i < 0 ∨ (arrV _ _ _).slots.size ≤ _); rw [arrV_size]; exact hin) rfl rfl hd fun H1 e1 z oq => ?_
  refine kk p e s m args below meth cd H1 _ ls C hl (hR.set z oq (fun _ => rfl) rfl (fun b hb => ce_uQ hb) ?_) (hS.put z oq (hR.lo (a := a) (by rw [hK]; decide)))
  rw [ce_23 (show gK (uQ S a _) a = 23 from hK)]
  show H1[a]? = some (vp_cell _ _)
  rw [e1, vp_cell_q, vp_cell_q, arrV_store, gQ_uQ, if_pos rfl]
  show some (arrV _ _ _) = some (arrV _ (gL S a) _)
  congr 2
  funext q
  by_cases hq : q = i.toNatClampNeg
  · subst hq; simp [updV, va_up, va_rf]
  · simp [updV, va_up, hq]
/-- a gore is put into the row of gores -/
theorem x_aastore22 {k : KT} {μ : MT} {Z : ZT} {pc : Nat} {lv : List (Nat × Value)} {rest : List Value} {S : HS} {cells slots a v : Nat} {i : Int32} (hd : decode μ.2.2.1 pc = .ok (.aastore, 1)) (hK : gK S a = 22) (hin : vp_in i (gL S a)) (hv : gK S v = 3) (kk : X k μ Z (pc + 1) lv rest (uQ S a (va_up (gQ S a) i.toNatClampNeg (some v))) cells slots) : X k μ Z pc lv (.ref v :: .int i :: .ref a :: rest) S cells slots := fun p e s m args below meth cd H locs ls C hl hR hS => by
  have hlt : i.toNatClampNeg < gL S a := Nat.not_le.mp fun q => hin (Or.inr q)
  have h0 : ¬ i < 0 := fun q => hin (Or.inl q)
  obtain ⟨cellV, g1, g3, ⟨kC, hkC⟩, hasg⟩ := hR.any C.cls (c := 2) (q := (RX1, TX1, 5)) (E := "GlobeWorks$Gore") hv (by decide) rfl (vb_asgS (C := "GlobeWorks$Gore"))
  obtain ⟨kA, comp, k1, k2, k3, -⟩ := (C.cls.2 2 _ rfl).2
  obtain ⟨kE, hkE, -⟩ := Vm.findClass_spec k3
  refine W.aast C.exec C.bytes (hR.at22 hK) (fun q h => by cases h) (fun h => by cases h) k1 k2 rfl hkE ⟨h0, by show _ < (arrV _ _ _).slots.size; rw [arrV_size]; exact hlt⟩ g1 (fun q h => by rw [h] at g3; cases g3) hkC (hasg _ k3) rfl rfl hd fun H1 e1 z oq => ?_
  refine kk p e s m args below meth cd H1 _ ls C hl (hR.set z oq (fun _ => rfl) rfl (fun b hb => ce_uQ hb) ?_) (hS.put z oq (hR.lo (a := a) (by rw [hK]; decide)))
  rw [ce_22 (show gK (uQ S a _) a = 22 from hK)]
  show H1[a]? = some (vp_cell _ _)
  rw [e1, vp_cell_q, vp_cell_q, arrV_store, gQ_uQ, if_pos rfl]
  show some (arrV _ _ _) = some (arrV _ (gL S a) _)
  congr 2
  funext q
  by_cases hq : q = i.toNatClampNeg
  · subst hq; simp [updV, va_up, va_rf]
  · simp [updV, va_up, hq]
theorem x_newaI {k : KT} {μ : MT} {Z : ZT} {pc : Nat} {lv : List (Nat × Value)} {rest : List Value} {S : HS} {cells slots : Nat} {n : Int32} (N : Nat) (hd : decode μ.2.2.1 pc = .ok (.newarray .int, 2)) (hw : Cond.arrayClass .int ∈ wsL_law) (hn : ¬ n < 0) (hN : n.toNatClampNeg = N) (hb : N * 4 ≤ 536870912) (hce : cells + 1 ≤ μ.1.cells) (hsl : slots + N ≤ μ.1.slots) (kk : X k μ Z (pc + 2) lv (.ref (gN S) :: rest) (nA S 20 N) (cells + 1) (slots + N)) : X k μ Z pc lv (.int n :: rest) S cells slots := fun p e s m args below meth cd H locs ls C hl hR hS => by
  refine va_newaK C.exec C.bytes (atype := .int) (C.words _ hw) rfl hd rfl hn hN hb hce hsl hR.1 fun H1 cA e1 z1 o1 hAr hNm => ?_
  have hcA : cA = k.2.2.1 0 := Option.some.inj (hNm.symm.trans (C.cls.2 0 _ rfl).2)
  subst hcA
  have hlo : k.2.2.2.2 ≤ H.size := Nat.le_trans C.gd.2.2.2.2.2.2.2.2 hS.1
  rw [← hR.1] at o1
  refine kk p e s m args below meth cd H1 locs ls C hl (hR.push (S' := nA S 20 N) (by rw [z1, hR.1]) o1 hlo (fun b hb => by rw [gK_nA, if_neg hb]) (gN_nA S 20 N) (fun b hb => ce_nA hb) ?_) ⟨Nat.le_trans hS.1 (by rw [z1, hR.1]; omega), fun x h1 h2 => (o1 x (Nat.lt_of_lt_of_le h1 hS.1)).trans (hS.2.1 x h1 h2), hS.2.2⟩
  rw [ce_20 (show gK (nA S 20 N) (gN S) = 20 by rw [gK_nA, if_pos rfl])]
  show H1[gN S]? = some (vp_cell _ _)
  rw [e1, vp_cell_i, gR_nA, if_pos rfl, gL_nA, if_pos rfl]
  rfl
theorem x_newaZ {k : KT} {μ : MT} {Z : ZT} {pc : Nat} {lv : List (Nat × Value)} {rest : List Value} {S : HS} {cells slots : Nat} {n : Int32} (N : Nat) (hd : decode μ.2.2.1 pc = .ok (.newarray .boolean, 2)) (hw : Cond.arrayClass .boolean ∈ wsL_law) (hn : ¬ n < 0) (hN : n.toNatClampNeg = N) (hb : N * 1 ≤ 536870912) (hce : cells + 1 ≤ μ.1.cells) (hsl : slots + N ≤ μ.1.slots) (kk : X k μ Z (pc + 2) lv (.ref (gN S) :: rest) (nA S 21 N) (cells + 1) (slots + N)) : X k μ Z pc lv (.int n :: rest) S cells slots := fun p e s m args below meth cd H locs ls C hl hR hS => by
  refine va_newaK C.exec C.bytes (atype := .boolean) (C.words _ hw) rfl hd rfl hn hN hb hce hsl hR.1 fun H1 cA e1 z1 o1 hAr hNm => ?_
  have hcA : cA = k.2.2.1 1 := Option.some.inj (hNm.symm.trans (C.cls.2 1 _ rfl).2)
  subst hcA
  have hlo : k.2.2.2.2 ≤ H.size := Nat.le_trans C.gd.2.2.2.2.2.2.2.2 hS.1
  rw [← hR.1] at o1
  refine kk p e s m args below meth cd H1 locs ls C hl (hR.push (S' := nA S 21 N) (by rw [z1, hR.1]) o1 hlo (fun b hb => by rw [gK_nA, if_neg hb]) (gN_nA S 21 N) (fun b hb => ce_nA hb) ?_) ⟨Nat.le_trans hS.1 (by rw [z1, hR.1]; omega), fun x h1 h2 => (o1 x (Nat.lt_of_lt_of_le h1 hS.1)).trans (hS.2.1 x h1 h2), hS.2.2⟩
  rw [ce_21 (show gK (nA S 21 N) (gN S) = 21 by rw [gK_nA, if_pos rfl])]
  show H1[gN S]? = some (vp_cell _ _)
  rw [e1, vp_cell_i, gR_nA, if_pos rfl, gL_nA, if_pos rfl]
  rfl
theorem x_anew {k : KT} {μ : MT} {Z : ZT} {pc : Nat} {lv : List (Nat × Value)} {rest : List Value} {S : HS} {cells slots idx : Nat} {n : Int32} {Cn : String} (kd t N : Nat) (hd : decode μ.2.2.1 pc = .ok (.anewarray idx, 3)) (hcl : Cond.classLink μ.2.1.cls idx Cn ∈ wsL_law) (hkd : (kd = 22 ∧ t = 2 ∧ Cn = "GlobeWorks$Gore") ∨ (kd = 23 ∧ t = 3 ∧ Cn = "java/lang/Object")) (hn : ¬ n < 0) (hN : n.toNatClampNeg = N) (hb : N * 4 ≤ 536870912) (hce : cells + 1 ≤ μ.1.cells) (hsl : slots + N ≤ μ.1.slots) (kk : X k μ Z (pc + 3) lv (.ref (gN S) :: rest) (nA S kd N) (cells + 1) (slots + N)) : X k μ Z pc lv (.int n :: rest) S cells slots := fun p e s m args below meth cd H locs ls C hl hR hS => by
  subst hN
  have hover : va_AO Cn s := by
    rcases hkd with ⟨-, -, rfl⟩ | ⟨-, -, rfl⟩
    · exact C.gd.2.2.2.1.1
    · exact C.gd.2.2.2.1.2
  refine W.anew C.exec C.bytes C.own (C.words _ hcl) (va_AO.use hover) rfl hd rfl hn hb hce hsl fun cA kAr comp f1 f2 f3 f4 => ?_
  generalize hH1 : H.push ({ cls := cA, slots := Array.replicate n.toNatClampNeg .null, vm := .none } : Cell) = H1
  have z1 : H1.size = H.size + 1 := by rw [← hH1, Array.size_push]
  have e1 : H1[H.size]? = some (arrV cA n.toNatClampNeg (fun _ => .null)) := by rw [← hH1, Array.getElem?_push_size, ← arrV_new]
  have o1 : ∀ q : Nat, q < H.size → H1[q]? = H[q]? := fun q hq => by rw [← hH1, Array.getElem?_push, if_neg (Nat.ne_of_lt hq)]
  have hlo : k.2.2.2.2 ≤ H.size := Nat.le_trans C.gd.2.2.2.2.2.2.2.2 hS.1
  have hSs : va_S (kA k) s.heap H1 locs := ⟨Nat.le_trans hS.1 (by rw [z1]; omega), fun x h1 h2 => (o1 x (Nat.lt_of_lt_of_le h1 hS.1)).trans (hS.2.1 x h1 h2), hS.2.2⟩
  have hRl : Rl k (nA S kd n.toNatClampNeg) H1 := by
    refine hR.push (S' := nA S kd n.toNatClampNeg) z1 o1 hlo (fun b hb => by rw [gK_nA, if_neg hb]) (gN_nA S kd _) (fun b hb => ce_nA hb) ?_
    have hk0 : gK (nA S kd n.toNatClampNeg) (gN S) = kd := by rw [gK_nA, if_pos rfl]
    rcases hkd with ⟨rfl, -, rfl⟩ | ⟨rfl, -, rfl⟩
    · obtain ⟨-, -, -, -, -, r4⟩ := (C.cls.2 2 _ rfl).2
      have hcA : cA = k.2.2.1 2 := Option.some.inj (f1.symm.trans r4)
      rw [ce_22 hk0]
      show H1[gN S]? = some (vp_cell _ _)
      rw [vp_cell_q, gQ_nA, if_pos rfl, gL_nA, if_pos rfl, ← hcA, ← hR.1, e1]
      rfl
    · obtain ⟨-, -, -, -, -, r4⟩ := (C.cls.2 3 _ rfl).2
      have hcA : cA = k.2.2.1 3 := Option.some.inj (f1.symm.trans r4)
      rw [ce_23 hk0]
      show H1[gN S]? = some (vp_cell _ _)
      rw [vp_cell_q, gQ_nA, if_pos rfl, gL_nA, if_pos rfl, ← hcA, ← hR.1, e1]
      rfl
  have := kk p e s m args below meth cd H1 locs ls C hl hRl hSs
  rw [← hR.1] at this
  exact this
theorem x_ldc {k : KT} {μ : MT} {Z : ZT} {pc : Nat} {lv : List (Nat × Value)} {rest : List Value} {S : HS} {cells slots idx : Nat} {v : Int32} (hd : decode μ.2.2.1 pc = .ok (.ldc idx, 2)) (hw : Cond.constant μ.2.1.cls idx v ∈ wsL_law) (kk : X k μ Z (pc + 2) lv (.int v :: rest) S cells slots) : X k μ Z pc lv rest S cells slots := fun p e s m args below meth cd H locs ls C hl hR hS =>
  lv_ldc C.exec C.bytes C.own (C.words _ hw) hd (kk p e s m args below meth cd H locs ls C hl hR hS)
theorem x_ldcM {k : KT} {μ : MT} {Z : ZT} {pc : Nat} {lv : List (Nat × Value)} {rest : List Value} {S : HS} {cells slots idx : Nat} (hd : decode μ.2.2.1 pc = .ok (.ldc idx, 2)) (hw : Cond.classLink μ.2.1.cls idx "[Ljava/lang/Object;" ∈ wsL_law) (kk : X k μ Z (pc + 2) lv (.ref (k.2.2.2.1 3) :: rest) S cells slots) : X k μ Z pc lv rest S cells slots := fun p e s m args below meth cd H locs ls C hl hR hS =>
  va_ldcM C.exec C.bytes C.own (C.words _ hw) C.gd.2.2.2.2.2.2.1 hd (kk p e s m args below meth cd H locs ls C hl hR hS)
theorem x_getsE {k : KT} {μ : MT} {Z : ZT} {pc : Nat} {lv : List (Nat × Value)} {rest : List Value} {S : HS} {cells slots idx : Nat} (hd : decode μ.2.2.1 pc = .ok (.getstatic idx, 3)) (hw : Cond.fieldLink μ.2.1.cls idx "java/util/ArrayList" "DEFAULTCAPACITY_EMPTY_ELEMENTDATA" "[Ljava/lang/Object;" ∈ wsL_law) (kk : X k μ Z (pc + 3) lv (.ref (k.2.2.2.1 0) :: rest) S cells slots) : X k μ Z pc lv rest S cells slots := fun p e s m args below meth cd H locs ls C hl hR hS =>
  va_gets C.exec C.bytes C.gd.2.2.2.2.1.1 hS C.own (C.words _ hw) (fun _ h => h) hd (kk p e s m args below meth cd H locs ls C hl hR hS)
theorem x_getsC {k : KT} {μ : MT} {Z : ZT} {pc : Nat} {lv : List (Nat × Value)} {rest : List Value} {S : HS} {cells slots idx : Nat} (hd : decode μ.2.2.1 pc = .ok (.getstatic idx, 3)) (hw : Cond.fieldLink μ.2.1.cls idx "GlobeWorks" "COS" "[I" ∈ wsL_law) (kk : X k μ Z (pc + 3) lv (.ref (k.2.2.2.1 1) :: rest) S cells slots) : X k μ Z pc lv rest S cells slots := fun p e s m args below meth cd H locs ls C hl hR hS =>
  va_gets C.exec C.bytes C.gd.2.2.2.2.1.2.1 hS C.own (C.words _ hw) (fun _ h => h) hd (kk p e s m args below meth cd H locs ls C hl hR hS)
theorem x_getsG {k : KT} {μ : MT} {Z : ZT} {pc : Nat} {lv : List (Nat × Value)} {rest : List Value} {S : HS} {cells slots idx : Nat} (hd : decode μ.2.2.1 pc = .ok (.getstatic idx, 3)) (hw : Cond.fieldLink μ.2.1.cls idx "GlobeWorks" "GORE_NUMBERS" "[I" ∈ wsL_law) (kk : X k μ Z (pc + 3) lv (.ref (k.2.2.2.1 2) :: rest) S cells slots) : X k μ Z pc lv rest S cells slots := fun p e s m args below meth cd H locs ls C hl hR hS =>
  va_gets C.exec C.bytes C.gd.2.2.2.2.1.2.2 hS C.own (C.words _ hw) (fun _ h => h) hd (kk p e s m args below meth cd H locs ls C hl hR hS)
theorem x_tiC {k : KT} {μ : MT} {Z : ZT} {pc : Nat} {lv : List (Nat × Value)} {rest : List Value} {S : HS} {cells slots : Nat} {i : Int32} (hd : decode μ.2.2.1 pc = .ok (.iaload, 1)) (hin : vp_in i 91) (kk : X k μ Z (pc + 1) lv (.int (cosL.getD i.toNatClampNeg 0) :: rest) S cells slots) : X k μ Z pc lv (.int i :: .ref (k.2.2.2.1 1) :: rest) S cells slots := fun p e s m args below meth cd H locs ls C hl hR hS =>
  va_ti C.exec C.bytes C.gd.2.2.2.2.2.1.2.1 hS hin rfl hd (kk p e s m args below meth cd H locs ls C hl hR hS)
theorem x_tiG {k : KT} {μ : MT} {Z : ZT} {pc : Nat} {lv : List (Nat × Value)} {rest : List Value} {S : HS} {cells slots : Nat} {i : Int32} (hd : decode μ.2.2.1 pc = .ok (.iaload, 1)) (hin : vp_in i 9) (kk : X k μ Z (pc + 1) lv (.int (gorL.getD i.toNatClampNeg 0) :: rest) S cells slots) : X k μ Z pc lv (.int i :: .ref (k.2.2.2.1 2) :: rest) S cells slots := fun p e s m args below meth cd H locs ls C hl hR hS =>
  va_ti C.exec C.bytes C.gd.2.2.2.2.2.1.2.2 hS hin rfl hd (kk p e s m args below meth cd H locs ls C hl hR hS)
theorem x_tlenE {k : KT} {μ : MT} {Z : ZT} {pc : Nat} {lv : List (Nat × Value)} {rest : List Value} {S : HS} {cells slots : Nat} (hd : decode μ.2.2.1 pc = .ok (.arraylength, 1)) (kk : X k μ Z (pc + 1) lv (.int 0 :: rest) S cells slots) : X k μ Z pc lv (.ref (k.2.2.2.1 0) :: rest) S cells slots := fun p e s m args below meth cd H locs ls C hl hR hS =>
  va_tlen C.exec C.bytes C.gd.2.2.2.2.2.1.1 hS (v := 0) rfl hd (kk p e s m args below meth cd H locs ls C hl hR hS)
theorem x_tlenC {k : KT} {μ : MT} {Z : ZT} {pc : Nat} {lv : List (Nat × Value)} {rest : List Value} {S : HS} {cells slots : Nat} (hd : decode μ.2.2.1 pc = .ok (.arraylength, 1)) (kk : X k μ Z (pc + 1) lv (.int 91 :: rest) S cells slots) : X k μ Z pc lv (.ref (k.2.2.2.1 1) :: rest) S cells slots := fun p e s m args below meth cd H locs ls C hl hR hS =>
  va_tlen C.exec C.bytes C.gd.2.2.2.2.2.1.2.1 hS (v := 91) rfl hd (kk p e s m args below meth cd H locs ls C hl hR hS)
theorem x_tlenG {k : KT} {μ : MT} {Z : ZT} {pc : Nat} {lv : List (Nat × Value)} {rest : List Value} {S : HS} {cells slots : Nat} (hd : decode μ.2.2.1 pc = .ok (.arraylength, 1)) (kk : X k μ Z (pc + 1) lv (.int 9 :: rest) S cells slots) : X k μ Z pc lv (.ref (k.2.2.2.1 2) :: rest) S cells slots := fun p e s m args below meth cd H locs ls C hl hR hS =>
  va_tlen C.exec C.bytes C.gd.2.2.2.2.2.1.2.2 hS (v := 9) rfl hd (kk p e s m args below meth cd H locs ls C hl hR hS)
theorem x_cast {k : KT} {μ : MT} {Z : ZT} {pc : Nat} {lv : List (Nat × Value)} {rest : List Value} {S : HS} {cells slots idx a : Nat} {q : vw_C} (c : Nat) (hd : decode μ.2.2.1 pc = .ok (.checkcast idx, 3)) (hc : vwCl[c]? = some q) (h9 : c < 9) (hw : Cond.classLink μ.2.1.cls idx q.1 ∈ wsL_law) (hK : gK S a = c + 1) (kk : X k μ Z (pc + 3) lv (.ref a :: rest) S cells slots) : X k μ Z pc lv (.ref a :: rest) S cells slots := fun p e s m args below meth cd H locs ls C hl hR hS =>
  va_castS C.exec C.bytes C.own (C.words _ hw) (C.cls.1 c _ hc).2 (va_recv C.cls (vP1 (hR.at hK h9)) hc (q0 := 0) rfl) hd (kk p e s m args below meth cd H locs ls C hl hR hS)
end
section
/-! CALLS over the judgement X -/
theorem x_back {k : KT} {μ : MT} {Z : ZT} {Q : Option Value → HS → Prop} {mc ms pc : Nat} {a : Array Value} {ls : Array Slot} {lv : List (Nat × Value)} {st0 rest : List Value} {p : Program} {e : Env} {s : State} {m : MethodId} {args : Array Value} {below : List Frame} {meth : Method} {c : Code} {H : Heap} {locs : List Loc} {cells slots : Nat} (C : Cx k μ p s m args meth c) (hl : lv_has ls μ.2.2.2.1 lv) (hS : va_S (kA k) s.heap H locs) (hr : va_Run p k.1 e μ.1 s m args below meth c H locs cells slots mc ms (F0 m pc ls st0) rest (Qc k Q a) (kA k)) (kk : ∀ v S', Q v S' → X k μ Z (pc + 3) lv (v.toList ++ rest) S' (cells + mc) (slots + ms)) : W p k.1 e μ.1 s m args below meth c H locs cells slots (Z below args s) (F0 m pc ls st0) := by
  intro T hT X0
  obtain ⟨v, st₀, t, T', L, h0, X', hL, e1, e2, ⟨⟨v', S', hv, hq, hRl⟩, hz, hk⟩, st⟩ := hr T hT X0
  cases hv
  rw [h0] at hz hk
  obtain ⟨t2, a1, b1⟩ := kk v S' hq p e s m args below meth c T'.heap (locs ++ L) ls C hl (by rw [e1]; exact hRl) ⟨Nat.le_trans hS.1 (by rw [e1]; exact hz), fun q h1 h2 => by rw [e1, hk q (Nat.lt_of_lt_of_le h1 hS.1) h2]; exact hS.2.1 q h1 h2, fun q hq => by
    rcases List.mem_append.mp hq with h | h
    · exact hS.2.2 q h
    · exact hL q h⟩ T' rfl X'
  exact ⟨t2, st t2 a1, b1⟩
abbrev okN (y : MethodName) (n : Nat) : Prop := y.cls ≠ "java/lang/invoke/MethodHandle" ∧ y.cls ≠ "java/lang/invoke/VarHandle" ∧ (parseMethodDescriptor y.desc).map (fun d => d.parameters.length) = some n
abbrev okR (ν μ : MT) (cells slots : Nat) (rest : List Value) : Prop := ν.1.frames + 1 ≤ μ.1.frames ∧ 8 + (ν.2.2.2.1 + 11) + ν.1.locals ≤ μ.1.locals ∧ cells + ν.1.cells ≤ μ.1.cells ∧ slots + ν.1.slots ≤ μ.1.slots ∧ (rest.map fun v => v.category).sum ≤ 8
theorem x_static {k : KT} {μ : MT} {Z : ZT} {Q : Option Value → HS → Prop} {pc idx : Nat} {lv : List (Nat × Value)} {st : List Value} {S : HS} {cells slots : Nat} (ν : MT) (As rest : List Value) (hd : decode μ.2.2.1 pc = .ok (.invokestatic idx, 3)) (hst : st = As.reverse ++ rest) (hC : Ct k ν As S Q) (hlk : Cond.methodLink μ.2.1.cls idx ν.2.1 ∈ wsL_law) (hs : Cond.static ν.2.1 ∈ wsL_law) (hi : Cond.initialized ν.2.1.cls ∈ wsL_law) (hcd : Cond.code ν.2.1 ν.2.2.1 ν.2.2.2.1 ν.2.2.2.2 ∈ wsL_law) (hn : okN ν.2.1 As.length) (hrm : okR ν μ cells slots rest) (kk : ∀ v S', Q v S' → X k μ Z (pc + 3) lv (v.toList ++ rest) S' (cells + ν.1.cells) (slots + ν.1.slots)) : X k μ Z pc lv st S cells slots := fun p e s m args below meth c H locs ls C hl hR hS => by
  obtain ⟨r1, r2, r3, r4, r5⟩ := hrm
  exact x_back C hl hS (va_runS (nL := μ.2.2.2.1) (As := As) (rest := rest) ⟨C.exec, C.bytes, C.maxL, C.own, C.words⟩ hC ⟨callB_of As.length C.words (tl_good_in hcd) rfl rfl rfl (C.words _ hi) (C.words _ hlk) hn ⟨r1, r2⟩, C.words _ hs⟩ ⟨Pcd.blind, fun U hU hW => ⟨rfl, by rw [hU]; exact hR, C.gd.warm hW hU hS⟩⟩ rfl rfl hl.1 hst (lv_room r5) hd ⟨r3, r4⟩) kk
theorem x_staticN {k : KT} {μ : MT} {Z : ZT} {Q : Option Value → HS → Prop} {pc idx : Nat} {lv : List (Nat × Value)} {st : List Value} {S : HS} {cells slots : Nat} (ν : MT) (As rest : List Value) (hd : decode μ.2.2.1 pc = .ok (.invokestatic idx, 3)) (hst : st = As.reverse ++ rest) (hC : Ct k ν As S Q) (hlk : ∀ s : State, Gd k s → va_Nw (.methodLinkNest μ.2.1.cls idx ν.2.1 "GlobeWorks") s) (hs : Cond.static ν.2.1 ∈ wsL_law) (hi : Cond.initialized ν.2.1.cls ∈ wsL_law) (hcd : Cond.code ν.2.1 ν.2.2.1 ν.2.2.2.1 ν.2.2.2.2 ∈ wsL_law) (hn : okN ν.2.1 As.length) (hrm : okR ν μ cells slots rest) (kk : ∀ v S', Q v S' → X k μ Z (pc + 3) lv (v.toList ++ rest) S' (cells + ν.1.cells) (slots + ν.1.slots)) : X k μ Z pc lv st S cells slots := fun p e s m args below meth c H locs ls C hl hR hS => by
  obtain ⟨r1, r2, r3, r4, r5⟩ := hrm
  exact x_back C hl hS (va_runSN (nL := μ.2.2.2.1) (As := As) (rest := rest) (Ts := wsL_law) ⟨C.exec, C.bytes, C.maxL, C.own, C.words⟩ hC ⟨va_cnB As.length C.words (tl_good_in hcd) rfl rfl rfl (hlk s C.gd) (C.words _ hi) hn ⟨r1, r2⟩, C.words _ hs, trivial⟩ ⟨Pcd.blind, fun U hU hW => ⟨rfl, by rw [hU]; exact hR, C.gd.warm hW hU hS⟩⟩ rfl rfl hl.1 hst (lv_room r5) hd ⟨r3, r4⟩) kk
theorem x_virtual {k : KT} {μ : MT} {Z : ZT} {Q : Option Value → HS → Prop} {pc idx b : Nat} {lv : List (Nat × Value)} {st : List Value} {S : HS} {cells slots : Nat} {q : vw_C} (c : Nat) (ν : MT) (As rest : List Value) (hd : decode μ.2.2.1 pc = .ok (.invokevirtual idx, 3)) (hst : st = As.reverse ++ .ref b :: rest) (hC : Ct k ν (.ref b :: As) S Q) (hK : gK S b = c + 1) (h9 : c < 9) (hq : vwCl[c]? = some q) (hqc : q.1 = ν.2.1.cls) (hlk : Cond.methodLink μ.2.1.cls idx ν.2.1 ∈ wsL_law) (hs : Cond.instanceMethod ν.2.1 ∈ wsL_law) (hse : Cond.selects ν.2.1.cls ν.2.1 ν.2.1 ∈ wsL_law) (hi : Cond.initialized ν.2.1.cls ∈ wsL_law) (hcd : Cond.code ν.2.1 ν.2.2.1 ν.2.2.2.1 ν.2.2.2.2 ∈ wsL_law) (hn : okN ν.2.1 As.length) (hrm : okR ν μ cells slots rest) (kk : ∀ v S', Q v S' → X k μ Z (pc + 3) lv (v.toList ++ rest) S' (cells + ν.1.cells) (slots + ν.1.slots)) : X k μ Z pc lv st S cells slots := fun p e s m args below meth cd H locs ls C hl hR hS => by
  obtain ⟨r1, r2, r3, r4, r5⟩ := hrm
  have hrc := va_recv C.cls (vP1 (hR.at hK h9)) hq (q0 := 0) rfl
  rw [hqc] at hrc
  exact x_back C hl hS (va_runV (nL := μ.2.2.2.1) (C := ν.2.1.cls) (As := As) (rest := rest) ⟨C.exec, C.bytes, C.maxL, C.own, C.words⟩ hC ⟨callB_of As.length C.words (tl_good_in hcd) rfl rfl rfl (C.words _ hi) (C.words _ hlk) hn ⟨r1, r2⟩, C.words _ hs, C.words _ hse⟩ ⟨Pcd.blind, hrc, fun U hU hW => ⟨rfl, by rw [hU]; exact hR, C.gd.warm hW hU hS⟩⟩ rfl rfl hl.1 hst (lv_room r5) hd ⟨r3, r4⟩) kk
theorem x_special {k : KT} {μ : MT} {Z : ZT} {Q : Option Value → HS → Prop} {pc idx b : Nat} {lv : List (Nat × Value)} {st : List Value} {S : HS} {cells slots : Nat} (ν : MT) (As rest : List Value) (hd : decode μ.2.2.1 pc = .ok (.invokespecial idx, 3)) (hst : st = As.reverse ++ .ref b :: rest) (hC : Ct k ν (.ref b :: As) S Q) (hret : ν.2.2.2.2 = none) (hnm : ν.2.1.name = "<init>") (hlk : Cond.methodLink μ.2.1.cls idx ν.2.1 ∈ wsL_law) (hs : Cond.instanceMethod ν.2.1 ∈ wsL_law) (hi : Cond.initialized ν.2.1.cls ∈ wsL_law) (hcd : Cond.code ν.2.1 ν.2.2.1 ν.2.2.2.1 none ∈ wsL_law) (hn : okN ν.2.1 As.length) (hrm : okR ν μ cells slots rest) (kk : ∀ v S', Q v S' → X k μ Z (pc + 3) lv (v.toList ++ rest) S' (cells + ν.1.cells) (slots + ν.1.slots)) : X k μ Z pc lv st S cells slots := fun p e s m args below meth c H locs ls C hl hR hS => by
  obtain ⟨r1, r2, r3, r4, r5⟩ := hrm
  unfold Ct at hC
  rw [hret] at hC
  exact x_back C hl hS (va_runI (nL := μ.2.2.2.1) (As := As) (rest := rest) ⟨C.exec, C.bytes, C.maxL, C.own, C.words⟩ hC ⟨callB_of As.length C.words (tl_good_in hcd) rfl rfl rfl (C.words _ hi) (C.words _ hlk) hn ⟨r1, r2⟩, hnm, C.words _ hs⟩ ⟨Pcd.blind, fun U hU hW => ⟨rfl, by rw [hU]; exact hR, C.gd.warm hW hU hS⟩⟩ rfl rfl hl.1 hst (lv_room r5) hd ⟨r3, r4⟩) kk
theorem x_specialN {k : KT} {μ : MT} {Z : ZT} {Q : Option Value → HS → Prop} {pc idx b : Nat} {lv : List (Nat × Value)} {st : List Value} {S : HS} {cells slots : Nat} (ν : MT) (As rest : List Value) (hd : decode μ.2.2.1 pc = .ok (.invokespecial idx, 3)) (hst : st = As.reverse ++ .ref b :: rest) (hC : Ct k ν (.ref b :: As) S Q) (hret : ν.2.2.2.2 = none) (hnm : ν.2.1.name = "<init>") (hlk : ∀ s : State, Gd k s → va_Nw (.methodLinkNest μ.2.1.cls idx ν.2.1 "GlobeWorks") s) (hs : Cond.instanceMethod ν.2.1 ∈ wsL_law) (hi : Cond.initialized ν.2.1.cls ∈ wsL_law) (hcd : Cond.code ν.2.1 ν.2.2.1 ν.2.2.2.1 none ∈ wsL_law) (hn : okN ν.2.1 As.length) (hrm : okR ν μ cells slots rest) (kk : ∀ v S', Q v S' → X k μ Z (pc + 3) lv (v.toList ++ rest) S' (cells + ν.1.cells) (slots + ν.1.slots)) : X k μ Z pc lv st S cells slots := fun p e s m args below meth c H locs ls C hl hR hS => by
  obtain ⟨r1, r2, r3, r4, r5⟩ := hrm
  unfold Ct at hC
  rw [hret] at hC
  exact x_back C hl hS (va_runIN (nL := μ.2.2.2.1) (As := As) (rest := rest) (Ts := wsL_law) ⟨C.exec, C.bytes, C.maxL, C.own, C.words⟩ hC ⟨va_cnB As.length C.words (tl_good_in hcd) rfl rfl rfl (hlk s C.gd) (C.words _ hi) hn ⟨r1, r2⟩, hnm, C.words _ hs⟩ ⟨Pcd.blind, fun U hU hW => ⟨rfl, by rw [hU]; exact hR, C.gd.warm hW hU hS⟩⟩ rfl rfl hl.1 hst (lv_room r5) hd ⟨r3, r4⟩) kk
theorem x_objInit {k : KT} {μ : MT} {Z : ZT} {pc idx b : Nat} {lv : List (Nat × Value)} {rest : List Value} {S : HS} {cells slots : Nat} (hd : decode μ.2.2.1 pc = .ok (.invokespecial idx, 3)) (hlk : Cond.methodLink μ.2.1.cls idx objectInit ∈ wsL_law) (hs : Cond.instanceMethod objectInit ∈ wsL_law) (hcd : Cond.code objectInit ⟨#[0xb1]⟩ 1 none ∈ wsL_law) (hf : 1 ≤ μ.1.frames) (hlo : (rest.map fun v => v.category).sum + 12 ≤ μ.1.locals) (kk : X k μ Z (pc + 3) lv rest S cells slots) : X k μ Z pc lv (.ref b :: rest) S cells slots := fun p e s m args below meth c H locs ls C hl hR hS => by
  refine W.objInit C.exec C.bytes C.own (C.words _ hlk) (C.words _ hs) (C.words _ hcd) rfl (by rw [C.maxL]; exact hl.1) rfl hd hf ?_ (kk p e s m args below meth c H locs ls C hl hR hS)
  show 2 * 0 + _ + 12 ≤ _
  omega
theorem x_mmax {k : KT} {μ : MT} {Z : ZT} {pc idx : Nat} {lv : List (Nat × Value)} {rest : List Value} {S : HS} {cells slots : Nat} {x y : Int32} (hd : decode μ.2.2.1 pc = .ok (.invokestatic idx, 3)) (hlk : Cond.methodLink μ.2.1.cls idx Lib.Math.max.name ∈ wsL_law) (hs : Cond.static Lib.Math.max.name ∈ wsL_law) (hi : Cond.initialized "java/lang/Math" ∈ wsL_law) (hcd : Cond.code Lib.Math.max.name Lib.Math.max.code 2 (some .int) ∈ wsL_law) (hf : 1 ≤ μ.1.frames) (hlo : (rest.map fun v => v.category).sum + 13 ≤ μ.1.locals) (hc : cells ≤ μ.1.cells) (hsl : slots ≤ μ.1.slots) (kk : X k μ Z (pc + 3) lv (.int (if x < y then y else x) :: rest) S cells slots) : X k μ Z pc lv (.int y :: .int x :: rest) S cells slots := fun p e s m args below meth c H locs ls C hl hR hS =>
  va_mmax C.exec C.bytes (C.maxL.trans hl.1.symm) C.own (C.words _ hlk) (C.words _ hs) (C.words _ hi) (C.words _ hcd) hf hlo hc hsl hd (kk p e s m args below meth c H locs ls C hl hR hS)
theorem x_mmin {k : KT} {μ : MT} {Z : ZT} {pc idx : Nat} {lv : List (Nat × Value)} {rest : List Value} {S : HS} {cells slots : Nat} {x y : Int32} (hd : decode μ.2.2.1 pc = .ok (.invokestatic idx, 3)) (hlk : Cond.methodLink μ.2.1.cls idx Lib.Math.min.name ∈ wsL_law) (hs : Cond.static Lib.Math.min.name ∈ wsL_law) (hi : Cond.initialized "java/lang/Math" ∈ wsL_law) (hcd : Cond.code Lib.Math.min.name Lib.Math.min.code 2 (some .int) ∈ wsL_law) (hf : 1 ≤ μ.1.frames) (hlo : (rest.map fun v => v.category).sum + 13 ≤ μ.1.locals) (hc : cells ≤ μ.1.cells) (hsl : slots ≤ μ.1.slots) (kk : X k μ Z (pc + 3) lv (.int (if y < x then y else x) :: rest) S cells slots) : X k μ Z pc lv (.int y :: .int x :: rest) S cells slots := fun p e s m args below meth c H locs ls C hl hR hS =>
  va_mmin C.exec C.bytes (C.maxL.trans hl.1.symm) C.own (C.words _ hlk) (C.words _ hs) (C.words _ hi) (C.words _ hcd) hf hlo hc hsl hd (kk p e s m args below meth c H locs ls C hl hR hS)
theorem x_mabs {k : KT} {μ : MT} {Z : ZT} {pc idx : Nat} {lv : List (Nat × Value)} {rest : List Value} {S : HS} {cells slots : Nat} {x : Int32} (hd : decode μ.2.2.1 pc = .ok (.invokestatic idx, 3)) (hlk : Cond.methodLink μ.2.1.cls idx Lib.Math.abs.name ∈ wsL_law) (hs : Cond.static Lib.Math.abs.name ∈ wsL_law) (hi : Cond.initialized "java/lang/Math" ∈ wsL_law) (hcd : Cond.code Lib.Math.abs.name Lib.Math.abs.code 1 (some .int) ∈ wsL_law) (hf : 1 ≤ μ.1.frames) (hlo : (rest.map fun v => v.category).sum + 13 ≤ μ.1.locals) (hc : cells ≤ μ.1.cells) (hsl : slots ≤ μ.1.slots) (kk : X k μ Z (pc + 3) lv (.int (if 0 ≤ x then x else 0 - x) :: rest) S cells slots) : X k μ Z pc lv (.int x :: rest) S cells slots := fun p e s m args below meth c H locs ls C hl hR hS =>
  va_mabs C.exec C.bytes (C.maxL.trans hl.1.symm) C.own (C.words _ hlk) (C.words _ hs) (C.words _ hi) (C.words _ hcd) hf hlo hc hsl hd (kk p e s m args below meth c H locs ls C hl hR hS)
theorem x_getC {k : KT} {μ : MT} {Z : ZT} {pc idx a : Nat} {lv : List (Nat × Value)} {rest : List Value} {S : HS} {cells slots : Nat} (hd : decode μ.2.2.1 pc = .ok (.invokevirtual idx, 3)) (hK : gK S a = 23) (hlk : Cond.methodLink μ.2.1.cls idx ⟨"java/lang/Object", "getClass", "()Ljava/lang/Class;"⟩ ∈ wsL_law) (hse : Cond.selects "[Ljava/lang/Object;" ⟨"java/lang/Object", "getClass", "()Ljava/lang/Class;"⟩ ⟨"java/lang/Object", "getClass", "()Ljava/lang/Class;"⟩ ∈ wsL_law) (hin : Cond.instanceMethod ⟨"java/lang/Object", "getClass", "()Ljava/lang/Class;"⟩ ∈ wsL_law) (hna : Cond.native ⟨"java/lang/Object", "getClass", "()Ljava/lang/Class;"⟩ ∈ wsL_law) (hf : 1 ≤ μ.1.frames) (hlo : (rest.map fun v => v.category).sum + 14 ≤ μ.1.locals) (kk : X k μ Z (pc + 3) lv (.ref (k.2.2.2.1 3) :: rest) S cells slots) : X k μ Z pc lv (.ref a :: rest) S cells slots := fun p e s m args below meth c H locs ls C hl hR hS => by
  obtain ⟨kAr, comp, r1, r2, r3, r4⟩ := (C.cls.2 3 _ rfl).2
  have hat := hR.at23 hK
  exact va_getC C.exec C.bytes (C.maxL.trans hl.1.symm) C.own (C.words _ hlk) (va_Dc.use C.gd.2.2.2.2.2.2.2.1) (C.words _ hse) (C.words _ hin) (C.words _ hna) C.gd.2.2.2.2.2.2.1 ⟨_, hat, rfl, r4⟩ hf hlo hd (kk p e s m args below meth c H locs ls C hl hR hS)
theorem nn_of {z : Int32} (hz : ¬ z < 0) : z.toInt = (z.toNatClampNeg : Int) := by
  have hz0 : (0 : Int) ≤ z.toInt := by
    have := Int32.not_lt.mp hz
    simpa using Int32.le_iff_toInt_le.mp this
  show z.toInt = ((z.toInt.toNat : Nat) : Int)
  omega
theorem x_copyI {k : KT} {μ : MT} {Z : ZT} {pc idx a a0 : Nat} {lv : List (Nat × Value)} {rest : List Value} {S : HS} {cells slots : Nat} {sp dp n : Int32} (hd : decode μ.2.2.1 pc = .ok (.invokestatic idx, 3)) (hK0 : gK S a0 = 20) (hK : gK S a = 20) (hlk : Cond.methodLink μ.2.1.cls idx arraycopyName ∈ wsL_law) (hna : Cond.native arraycopyName ∈ wsL_law) (hs : Cond.static arraycopyName ∈ wsL_law) (hi : Cond.initialized "java/lang/System" ∈ wsL_law) (h1 : ¬ sp < 0) (h2 : ¬ dp < 0) (h3 : ¬ n < 0) (h4 : sp.toNatClampNeg + n.toNatClampNeg ≤ gL S a0) (h5 : dp.toNatClampNeg + n.toNatClampNeg ≤ gL S a) (hf : 1 ≤ μ.1.frames) (hlo : (rest.map fun v => v.category).sum + (nativeFrameWords "java/lang/System" "arraycopy" 5 + 11) ≤ μ.1.locals) (kk : X k μ Z (pc + 3) lv rest (uR S a (va_cpy (gR S a0) (gR S a) sp.toNatClampNeg dp.toNatClampNeg n.toNatClampNeg)) cells slots) : X k μ Z pc lv (.int n :: .int dp :: .ref a :: .int sp :: .ref a0 :: rest) S cells slots := fun p e s m args below meth c H locs ls C hl hR hS => by
  intro T hT X0
  have hc0 : H[a0]? = some (vp_cell (k.2.2.1 0) (gL S a0, .inl (gR S a0))) := hR.at20 hK0
  have hc1 : H[a]? = some (vp_cell (k.2.2.1 0) (gL S a, .inl (gR S a))) := hR.at20 hK
  obtain ⟨-, k0, hk0, cm0, hkk0⟩ := (C.cls.2 0 _ rfl).1 (gL S a0) (fun j => .int (gR S a0 j))
  obtain ⟨-, k1, hk1, cm1, hkk1⟩ := (C.cls.2 0 _ rfl).1 (gL S a) (fun j => .int (gR S a j))
  obtain ⟨vm', X', step⟩ := X0.arraycopy C.exec C.own (C.words _ hlk) (C.words _ hna) (C.words _ hs) (C.words _ hi) (src := a0) (dst := a) (cs := vp_cell (k.2.2.1 0) (gL S a0, .inl (gR S a0))) (cd := vp_cell (k.2.2.1 0) (gL S a, .inl (gR S a))) (srcPos := sp) (destPos := dp) (n := n) (by rw [hT]; exact hc0) (by rw [hT]; exact hc1)
    (fun _ h => by cases h) (fun _ h => by cases h) (fun h => by cases h) (fun h => by cases h) hk0 hk1 hkk0 hkk1 (by rfl) h1 h2 h3
    (by rw [nn_of h1, nn_of h3]; show ¬ _ > ((arrV _ (gL S a0) _).slots.size : Int); rw [arrV_size]; omega)
    (by rw [nn_of h2, nn_of h3]; show ¬ _ > ((arrV _ (gL S a) _).slots.size : Int); rw [arrV_size]; omega)
    (fun vm₁ _ i hi => by
      have e : (vp_cell (k.2.2.1 0) (gL S a0, .inl (gR S a0))).slots.getD (sp.toNatClampNeg + i) .null = .int (gR S a0 (sp.toNatClampNeg + i)) := by
        show (arrV (k.2.2.1 0) (gL S a0) (fun j => .int (gR S a0 j))).slots.getD _ _ = _
        rw [Array.getD_eq_getD_getElem?, arrV_read _ _ (by omega)]
        rfl
      refine ⟨?_, ?_⟩
      · rw [e]; rfl
      · rw [e]; exact trivial)
    (g := F0 m pc ls (.int n :: .int dp :: .ref a :: .int sp :: .ref a0 :: rest)) rfl (by rw [C.maxL]; exact hl.1) (rest := rest) rfl (by rw [C.bytes]; exact hd) hf (by show 2 * 0 + _ + _ ≤ _; omega)
  have e1 : copied (vp_cell (k.2.2.1 0) (gL S a0, .inl (gR S a0))) (vp_cell (k.2.2.1 0) (gL S a, .inl (gR S a))) sp dp n = vp_cell (k.2.2.1 0) (gL S a, .inl (va_cpy (gR S a0) (gR S a) sp.toNatClampNeg dp.toNatClampNeg n.toNatClampNeg)) := va_copied (fun z => .int z) _ _ (gR S a0) (gR S a) h4
  rw [e1] at X' step
  have hlt : a < H.size := (Array.getElem?_eq_some_iff.mp hc1).1
  have oq : ∀ q : Nat, q ≠ a → (H.setIfInBounds a (vp_cell (k.2.2.1 0) (gL S a, .inl (va_cpy (gR S a0) (gR S a) sp.toNatClampNeg dp.toNatClampNeg n.toNatClampNeg))))[q]? = H[q]? := fun q hq => by simp [Array.getElem?_setIfInBounds, Ne.symm hq]
  obtain ⟨t, a1, b1⟩ := kk p e s m args below meth c (H.setIfInBounds a (vp_cell (k.2.2.1 0) (gL S a, .inl (va_cpy (gR S a0) (gR S a) sp.toNatClampNeg dp.toNatClampNeg n.toNatClampNeg)))) _ ls C hl (hR.set (by simp) oq (fun _ => rfl) rfl (fun b hb => ce_uR hb) (by
      rw [ce_20 (show gK (uR S a _) a = 20 from hK), gR_uR, if_pos rfl]
      show (H.setIfInBounds a _)[a]? = some (vp_cell _ _)
      simp [Array.getElem?_setIfInBounds, hlt]; rfl)) ⟨by simp; exact hS.1, fun q g1 g2 => by
      rw [oq q (fun e => g2 (by rw [e]; exact hR.lo (a := a) (by rw [hK]; decide)))]
      exact hS.2.1 q g1 g2, fun q hq => by
      rcases List.mem_append.mp hq with h | h
      · exact hS.2.2 q h
      · obtain ⟨z, -, hz⟩ := List.mem_map.mp h
        rw [← hz]
        exact hR.lo (a := a) (by rw [hK]; decide)⟩ _ (by rw [← hT]; rfl) X'
  exact ⟨t, step t a1, b1⟩
theorem x_copyQ {k : KT} {μ : MT} {Z : ZT} {pc idx a a0 : Nat} {lv : List (Nat × Value)} {rest : List Value} {S : HS} {cells slots : Nat} {sp dp n : Int32} (hd : decode μ.2.2.1 pc = .ok (.invokestatic idx, 3)) (hK0 : gK S a0 = 23) (hK : gK S a = 23) (hlk : Cond.methodLink μ.2.1.cls idx arraycopyName ∈ wsL_law) (hna : Cond.native arraycopyName ∈ wsL_law) (hs : Cond.static arraycopyName ∈ wsL_law) (hi : Cond.initialized "java/lang/System" ∈ wsL_law) (h1 : ¬ sp < 0) (h2 : ¬ dp < 0) (h3 : ¬ n < 0) (h4 : sp.toNatClampNeg + n.toNatClampNeg ≤ gL S a0) (h5 : dp.toNatClampNeg + n.toNatClampNeg ≤ gL S a) (hel : ∀ i : Nat, i < n.toNatClampNeg → ∀ y : Nat, gQ S a0 (sp.toNatClampNeg + i) = some y → ∃ (c : Nat) (q : vw_C), gK S y = c + 1 ∧ c < 9 ∧ vwCl[c]? = some q ∧ (q.1, "java/lang/Object") ∈ csL) (hf : 1 ≤ μ.1.frames) (hlo : (rest.map fun v => v.category).sum + (nativeFrameWords "java/lang/System" "arraycopy" 5 + 11) ≤ μ.1.locals) (kk : X k μ Z (pc + 3) lv rest (uQ S a (va_cpy (gQ S a0) (gQ S a) sp.toNatClampNeg dp.toNatClampNeg n.toNatClampNeg)) cells slots) : X k μ Z pc lv (.int n :: .int dp :: .ref a :: .int sp :: .ref a0 :: rest) S cells slots := fun p e s m args below meth c H locs ls C hl hR hS => by
  intro T hT X0
  have hc0 : H[a0]? = some (vp_cell (k.2.2.1 3) (gL S a0, .inr (.inr (.inr (.inr (gQ S a0)))))) := hR.at23 hK0
  have hc1 : H[a]? = some (vp_cell (k.2.2.1 3) (gL S a, .inr (.inr (.inr (.inr (gQ S a)))))) := hR.at23 hK
  obtain ⟨-, k0, hk0, cm0, hkk0⟩ := (C.cls.2 3 _ rfl).1 (gL S a0) (fun j => va_rf (gQ S a0 j))
  obtain ⟨-, k1, hk1, cm1, hkk1⟩ := (C.cls.2 3 _ rfl).1 (gL S a) (fun j => va_rf (gQ S a j))
  obtain ⟨vm', X', step⟩ := X0.arraycopy C.exec C.own (C.words _ hlk) (C.words _ hna) (C.words _ hs) (C.words _ hi) (src := a0) (dst := a) (cs := vp_cell (k.2.2.1 3) (gL S a0, .inr (.inr (.inr (.inr (gQ S a0)))))) (cd := vp_cell (k.2.2.1 3) (gL S a, .inr (.inr (.inr (.inr (gQ S a)))))) (srcPos := sp) (destPos := dp) (n := n) (by rw [hT]; exact hc0) (by rw [hT]; exact hc1)
    (fun _ h => by cases h) (fun _ h => by cases h) (fun h => by cases h) (fun h => by cases h) hk0 hk1 hkk0 hkk1 rfl h1 h2 h3
    (by rw [nn_of h1, nn_of h3]; show ¬ _ > ((arrV _ (gL S a0) _).slots.size : Int); rw [arrV_size]; omega)
    (by rw [nn_of h2, nn_of h3]; show ¬ _ > ((arrV _ (gL S a) _).slots.size : Int); rw [arrV_size]; omega)
    (fun vm₁ hal i hi => by
      have e : (vp_cell (k.2.2.1 3) (gL S a0, .inr (.inr (.inr (.inr (gQ S a0)))))).slots.getD (sp.toNatClampNeg + i) .null = va_rf (gQ S a0 (sp.toNatClampNeg + i)) := by
        show (arrV (k.2.2.1 3) (gL S a0) (fun j => va_rf (gQ S a0 j))).slots.getD _ _ = _
        rw [Array.getD_eq_getD_getElem?, arrV_read _ _ (by omega)]
        rfl
      rw [e]
      cases hy : gQ S a0 (sp.toNatClampNeg + i) with
      | none => exact ⟨rfl, trivial⟩
      | some y =>
        obtain ⟨cq, q, w1, w2, w3, w4⟩ := hel i hi y hy
        obtain ⟨cellV, g1, g2, ⟨kC, hkC⟩, hasg⟩ := hR.any C.cls w1 w2 w3 (vb_asgC (E := "java/lang/Object") (C.gd.2.2.1 _ w4))
        obtain ⟨kAr, comp, r1, r2, r3, -⟩ := (C.cls.2 3 _ rfl).2
        cases hk1.symm.trans r1
        cases hkk1.symm.trans r2
        obtain ⟨kE, hkE, -⟩ := Vm.findClass_spec r3
        obtain ⟨kC', hkC', -⟩ := hal.2.2 _ _ hkC
        obtain ⟨kE', hkE', -⟩ := hal.2.2 _ _ hkE
        refine ⟨rfl, cellV, (show T.heap[y]? = some cellV by rw [hT]; exact g1), (fun q h => by rw [h] at g2; cases g2), ⟨kC', hkC'⟩, ?_, ?_⟩
        · exact ⟨kE', hkE'⟩
        · show vm₁.assignable _ _ = true
          rw [hal.assignable]
          exact hasg _ r3)
    (g := F0 m pc ls (.int n :: .int dp :: .ref a :: .int sp :: .ref a0 :: rest)) rfl (by rw [C.maxL]; exact hl.1) (rest := rest) rfl (by rw [C.bytes]; exact hd) hf (by show 2 * 0 + _ + _ ≤ _; omega)
  have e1 : copied (vp_cell (k.2.2.1 3) (gL S a0, .inr (.inr (.inr (.inr (gQ S a0)))))) (vp_cell (k.2.2.1 3) (gL S a, .inr (.inr (.inr (.inr (gQ S a)))))) sp dp n = vp_cell (k.2.2.1 3) (gL S a, .inr (.inr (.inr (.inr (va_cpy (gQ S a0) (gQ S a) sp.toNatClampNeg dp.toNatClampNeg n.toNatClampNeg))))) := by
    rw [vp_cell_q, vp_cell_q, vp_cell_q]
    exact va_copied (fun z => va_rf z) _ _ (gQ S a0) (gQ S a) h4
  rw [e1] at X' step
  have hlt : a < H.size := (Array.getElem?_eq_some_iff.mp hc1).1
  have oq : ∀ q : Nat, q ≠ a → (H.setIfInBounds a (vp_cell (k.2.2.1 3) (gL S a, .inr (.inr (.inr (.inr (va_cpy (gQ S a0) (gQ S a) sp.toNatClampNeg dp.toNatClampNeg n.toNatClampNeg)))))))[q]? = H[q]? := fun q hq => by simp [Array.getElem?_setIfInBounds, Ne.symm hq]
  obtain ⟨t, a1, b1⟩ := kk p e s m args below meth c (H.setIfInBounds a (vp_cell (k.2.2.1 3) (gL S a, .inr (.inr (.inr (.inr (va_cpy (gQ S a0) (gQ S a) sp.toNatClampNeg dp.toNatClampNeg n.toNatClampNeg))))))) _ ls C hl (hR.set (by simp) oq (fun _ => rfl) rfl (fun b hb => ce_uQ hb) (by
      rw [ce_23 (show gK (uQ S a _) a = 23 from hK), gQ_uQ, if_pos rfl]
      show (H.setIfInBounds a _)[a]? = some (vp_cell _ _)
      simp [Array.getElem?_setIfInBounds, hlt]; rfl)) ⟨by simp; exact hS.1, fun q g1 g2 => by
      rw [oq q (fun e => g2 (by rw [e]; exact hR.lo (a := a) (by rw [hK]; decide)))]
      exact hS.2.1 q g1 g2, fun q hq => by
      rcases List.mem_append.mp hq with h | h
      · exact hS.2.2 q h
      · obtain ⟨z, -, hz⟩ := List.mem_map.mp h
        rw [← hz]
        exact hR.lo (a := a) (by rw [hK]; decide)⟩ _ (by rw [← hT]; rfl) X'
  exact ⟨t, step t a1, b1⟩
end
section
abbrev rm (d mc ms : Nat) : Room := { frames := d, cells := mc, slots := ms, locals := 64 * d }
/-- a pure answer: the number r, nothing written -/
abbrev Pu (r : Int32) (S : HS) : Option Value → HS → Prop := fun v T => v = some (.int r) ∧ S = T
theorem x_at {k : KT} {μ : MT} {Z : ZT} {pc : Nat} {lv : List (Nat × Value)} {st : List Value} {S : HS} {cells slots : Nat} (pc' : Nat) (h : pc = pc') (kk : X k μ Z pc' lv st S cells slots) : X k μ Z pc lv st S cells slots := by subst h; exact kk
theorem x_S {k : KT} {μ : MT} {Z : ZT} {pc : Nat} {lv : List (Nat × Value)} {st : List Value} {S : HS} {cells slots : Nat} (S' : HS) (h : S = S') (kk : X k μ Z pc lv st S' cells slots) : X k μ Z pc lv st S cells slots := by subst h; exact kk
theorem x_st {k : KT} {μ : MT} {Z : ZT} {pc : Nat} {lv : List (Nat × Value)} {st : List Value} {S : HS} {cells slots : Nat} (st' : List Value) (h : st = st') (kk : X k μ Z pc lv st' S cells slots) : X k μ Z pc lv st S cells slots := by subst h; exact kk
theorem x_lv {k : KT} {μ : MT} {Z : ZT} {pc : Nat} {lv : List (Nat × Value)} {st : List Value} {S : HS} {cells slots : Nat} (lv' : List (Nat × Value)) (is : List Nat) (h : lv_pick lv is = lv') (kk : X k μ Z pc lv' st S cells slots) : X k μ Z pc lv st S cells slots := fun p e s m args below meth c H locs ls C hl hR hS => kk p e s m args below meth c H locs ls C (lv_sub hl is h) hR hS
abbrev mt_X0_init (R : Room) : MT := (R, yX0_init, cX0_init, 3, none)
abbrev mt_X0_isAt (R : Room) : MT := (R, yX0_isAt, cX0_isAt, 3, (some .boolean))
abbrev mt_X1_init (R : Room) : MT := (R, yX1_init, cX1_init, 1, none)
abbrev mt_X1_takeOut (R : Room) : MT := (R, yX1_takeOut, cX1_takeOut, 3, none)
abbrev mt_X2_init (R : Room) : MT := (R, yX2_init, cX2_init, 7, none)
abbrev mt_X2_allows (R : Room) : MT := (R, yX2_allows, cX2_allows, 2, (some .boolean))
abbrev mt_X2_costOf (R : Room) : MT := (R, yX2_costOf, cX2_costOf, 2, (some .int))
abbrev mt_X2_left (R : Room) : MT := (R, yX2_left, cX2_left, 2, (some .int))
abbrev mt_X2_right (R : Room) : MT := (R, yX2_right, cX2_right, 2, (some .int))
abbrev mt_X2_bottom (R : Room) : MT := (R, yX2_bottom, cX2_bottom, 2, (some .int))
abbrev mt_X2_covers (R : Room) : MT := (R, yX2_covers, cX2_covers, 4, (some .boolean))
abbrev mt_X3_init (R : Room) : MT := (R, yX3_init, cX3_init, 6, none)
abbrev mt_X4_init (R : Room) : MT := (R, yX4_init, cX4_init, 1, none)
abbrev mt_X4_keep (R : Room) : MT := (R, yX4_keep, cX4_keep, 2, none)
abbrev mt_X5_init (R : Room) : MT := (R, yX5_init, cX5_init, 5, none)
abbrev mt_X5_longitudeAt (R : Room) : MT := (R, yX5_longitudeAt, cX5_longitudeAt, 2, (some .int))
abbrev mt_X5_heightAt (R : Room) : MT := (R, yX5_heightAt, cX5_heightAt, 2, (some .int))
abbrev mt_X6_init (R : Room) : MT := (R, yX6_init, cX6_init, 4, none)
abbrev mt_X6_narrow (R : Room) : MT := (R, yX6_narrow, cX6_narrow, 2, (some .int))
abbrev mt_X6_across (R : Room) : MT := (R, yX6_across, cX6_across, 4, (some .int))
abbrev mt_X6_coast (R : Room) : MT := (R, yX6_coast, cX6_coast, 3, (some .int))
abbrev mt_X6_to (R : Room) : MT := (R, yX6_to, cX6_to, 7, (some .int))
abbrev mt_X6_pieces (R : Room) : MT := (R, yX6_pieces, cX6_pieces, 3, (some .int))
abbrev mt_X6_piece (R : Room) : MT := (R, yX6_piece, cX6_piece, 6, (some .int))
abbrev mt_X6_paper (R : Room) : MT := (R, yX6_paper, cX6_paper, 7, (some .boolean))
abbrev mt_X6_drawn (R : Room) : MT := (R, yX6_drawn, cX6_drawn, 3, (some .int))
abbrev mt_X6_wet (R : Room) : MT := (R, yX6_wet, cX6_wet, 3, (some .int))
abbrev mt_X6_name (R : Room) : MT := (R, yX6_name, cX6_name, 10, (some .int))
abbrev mt_X6_strike (R : Room) : MT := (R, yX6_strike, cX6_strike, 4, (some .boolean))
abbrev mt_X6_may (R : Room) : MT := (R, yX6_may, cX6_may, 4, (some .boolean))
abbrev mt_X6_set (R : Room) : MT := (R, yX6_set, cX6_set, 3, (some .int))
abbrev mt_X6_cost (R : Room) : MT := (R, yX6_cost, cX6_cost, 3, (some .int))
abbrev mt_X6_told (R : Room) : MT := (R, yX6_told, cX6_told, 4, (some .int))
abbrev mt_X6_fresh (R : Room) : MT := (R, yX6_fresh, cX6_fresh, 3, (some .boolean))
abbrev mt_X6_edition (R : Room) : MT := (R, yX6_edition, cX6_edition, 6, (some .int))
abbrev mt_X6_printed (R : Room) : MT := (R, yX6_printed, cX6_printed, 3, (some .int))
abbrev mt_X6_count (R : Room) : MT := (R, yX6_count, cX6_count, 2, (some .int))
abbrev mt_X6_goreNumber (R : Room) : MT := (R, yX6_goreNumber, cX6_goreNumber, 3, (some .int))
abbrev mt_X6_isPlace (R : Room) : MT := (R, yX6_isPlace, cX6_isPlace, 2, (some .boolean))
abbrev mt_X6_isHeight (R : Room) : MT := (R, yX6_isHeight, cX6_isHeight, 1, (some .boolean))
abbrev mt_X6_isGrowth (R : Room) : MT := (R, yX6_isGrowth, cX6_isGrowth, 1, (some .boolean))
abbrev mt_X6_isOnPaper (R : Room) : MT := (R, yX6_isOnPaper, cX6_isOnPaper, 2, (some .boolean))
abbrev mt_X6_roundBy (R : Room) : MT := (R, yX6_roundBy, cX6_roundBy, 2, (some .int))
abbrev mt_X6_cosOf (R : Room) : MT := (R, yX6_cosOf, cX6_cosOf, 1, (some .int))
abbrev mt_X6_narrowAt (R : Room) : MT := (R, yX6_narrowAt, cX6_narrowAt, 4, (some .int))
abbrev mt_X6_xOf (R : Room) : MT := (R, yX6_xOf, cX6_xOf, 2, (some .int))
abbrev mt_X6_grownThousand (R : Room) : MT := (R, yX6_grownThousand, cX6_grownThousand, 2, (some .int))
abbrev mt_X6_goreOf (R : Room) : MT := (R, yX6_goreOf, cX6_goreOf, 2, (some (.object "GlobeWorks$Gore")))
abbrev mt_X6_coastOf (R : Room) : MT := (R, yX6_coastOf, cX6_coastOf, 2, (some (.object "GlobeWorks$Coast")))
abbrev mt_X6_nameOf (R : Room) : MT := (R, yX6_nameOf, cX6_nameOf, 3, (some (.object "GlobeWorks$Name")))
abbrev mt_X6_namesThere (R : Room) : MT := (R, yX6_namesThere, cX6_namesThere, 6, (some .int))
abbrev mt_X6_freshGores (R : Room) : MT := (R, yX6_freshGores, cX6_freshGores, 6, (some .int))
abbrev mt_X6_sideOf (R : Room) : MT := (R, yX6_sideOf, cX6_sideOf, 3, (some .int))
abbrev mt_X6_goneFromEdge (R : Room) : MT := (R, yX6_goneFromEdge, cX6_goneFromEdge, 2, (some .int))
abbrev mt_X6_piecesOf (R : Room) : MT := (R, yX6_piecesOf, cX6_piecesOf, 3, (some .int))
abbrev mt_X6_cutUpright (R : Room) : MT := (R, yX6_cutUpright, cX6_cutUpright, 4, none)
abbrev mt_X6_layUpright (R : Room) : MT := (R, yX6_layUpright, cX6_layUpright, 5, none)
abbrev mt_X6_cutSlanting (R : Room) : MT := (R, yX6_cutSlanting, cX6_cutSlanting, 10, none)
abbrev mt_X6_lay (R : Room) : MT := (R, yX6_lay, cX6_lay, 4, none)
abbrev mt_X6_waysWithinEdges (R : Room) : MT := (R, yX6_waysWithinEdges, cX6_waysWithinEdges, 5, (some .int))
abbrev mt_X6_isWithinEdges (R : Room) : MT := (R, yX6_isWithinEdges, cX6_isWithinEdges, 5, (some .boolean))
abbrev mt_X6_changeNames (R : Room) : MT := (R, yX6_changeNames, cX6_changeNames, 3, none)
abbrev mt_X6_tryWays (R : Room) : MT := (R, yX6_tryWays, cX6_tryWays, 6, none)
abbrev mt_X6_isClear (R : Room) : MT := (R, yX6_isClear, cX6_isClear, 6, (some .boolean))
abbrev mt_X7_init (R : Room) : MT := (R, yX7_init, cX7_init, 5, none)
abbrev mt_X7_in (R : Room) : MT := (R, yX7_in, cX7_in, 3, (some .boolean))
abbrev mt_X7_isGore (R : Room) : MT := (R, yX7_isGore, cX7_isGore, 2, (some .boolean))
abbrev mt_X7_round (R : Room) : MT := (R, yX7_round, cX7_round, 5, (some .int))
abbrev mt_X7_narrowOf (R : Room) : MT := (R, yX7_narrowOf, cX7_narrowOf, 3, (some .int))
abbrev mt_X7_acrossOf (R : Room) : MT := (R, yX7_acrossOf, cX7_acrossOf, 3, (some .int))
abbrev mt_X7_narrow (R : Room) : MT := (R, yX7_narrow, cX7_narrow, 2, (some .int))
abbrev mt_X7_across (R : Room) : MT := (R, yX7_across, cX7_across, 3, (some .int))
abbrev mt_X7_isPlace (R : Room) : MT := (R, yX7_isPlace, cX7_isPlace, 2, (some .boolean))
abbrev mt_X7_coast (R : Room) : MT := (R, yX7_coast, cX7_coast, 3, (some .int))
abbrev mt_X7_heightAt (R : Room) : MT := (R, yX7_heightAt, cX7_heightAt, 4, (some .int))
abbrev mt_X7_adds (R : Room) : MT := (R, yX7_adds, cX7_adds, 7, none)
abbrev mt_X7_isEdge (R : Room) : MT := (R, yX7_isEdge, cX7_isEdge, 2, (some .boolean))
abbrev mt_X7_parts (R : Room) : MT := (R, yX7_parts, cX7_parts, 6, (some .int))
abbrev mt_X7_to (R : Room) : MT := (R, yX7_to, cX7_to, 9, (some .int))
abbrev mt_X7_stays (R : Room) : MT := (R, yX7_stays, cX7_stays, 7, none)
abbrev mt_X7_goes (R : Room) : MT := (R, yX7_goes, cX7_goes, 15, none)
abbrev mt_X7_sideWest (R : Room) : MT := (R, yX7_sideWest, cX7_sideWest, 3, (some .int))
abbrev mt_X7_pieces (R : Room) : MT := (R, yX7_pieces, cX7_pieces, 4, (some .int))
abbrev mt_X7_piece (R : Room) : MT := (R, yX7_piece, cX7_piece, 6, (some .int))
abbrev mt_X7_paper (R : Room) : MT := (R, yX7_paper, cX7_paper, 4, (some .boolean))
abbrev mt_X7_grown (R : Room) : MT := (R, yX7_grown, cX7_grown, 2, (some .int))
abbrev mt_X7_drawn (R : Room) : MT := (R, yX7_drawn, cX7_drawn, 3, (some .int))
abbrev mt_X7_wet (R : Room) : MT := (R, yX7_wet, cX7_wet, 3, (some .int))
abbrev mt_X7_isName (R : Room) : MT := (R, yX7_isName, cX7_isName, 2, (some .boolean))
abbrev mt_X7_namesIn (R : Room) : MT := (R, yX7_namesIn, cX7_namesIn, 4, (some .int))
abbrev mt_X7_name (R : Room) : MT := (R, yX7_name, cX7_name, 6, (some .int))
abbrev mt_X7_strike (R : Room) : MT := (R, yX7_strike, cX7_strike, 2, (some .boolean))
abbrev mt_X7_left (R : Room) : MT := (R, yX7_left, cX7_left, 4, (some .int))
abbrev mt_X7_low (R : Room) : MT := (R, yX7_low, cX7_low, 3, (some .int))
abbrev mt_X7_isWithin (R : Room) : MT := (R, yX7_isWithin, cX7_isWithin, 4, (some .boolean))
abbrev mt_X7_canBe (R : Room) : MT := (R, yX7_canBe, cX7_canBe, 6, (some .boolean))
abbrev mt_X7_may (R : Room) : MT := (R, yX7_may, cX7_may, 3, (some .boolean))
abbrev mt_X7_areApart (R : Room) : MT := (R, yX7_areApart, cX7_areApart, 7, (some .boolean))
abbrev mt_X7_sets (R : Room) : MT := (R, yX7_sets, cX7_sets, 8, (some .int))
abbrev mt_X7_isGood (R : Room) : MT := (R, yX7_isGood, cX7_isGood, 4, (some .boolean))
abbrev mt_X7_set (R : Room) : MT := (R, yX7_set, cX7_set, 4, (some .int))
abbrev mt_X7_cost (R : Room) : MT := (R, yX7_cost, cX7_cost, 2, (some .int))
abbrev mt_X7_told (R : Room) : MT := (R, yX7_told, cX7_told, 3, (some .int))
abbrev mt_X7_fresh (R : Room) : MT := (R, yX7_fresh, cX7_fresh, 2, (some .boolean))
abbrev mt_X7_edition (R : Room) : MT := (R, yX7_edition, cX7_edition, 3, (some .int))
abbrev mt_X7_printed (R : Room) : MT := (R, yX7_printed, cX7_printed, 2, (some .int))
abbrev mt_X7_count (R : Room) : MT := (R, yX7_count, cX7_count, 4, (some .int))
abbrev mt_J9_floorDiv_7cf53 (R : Room) : MT := (R, yJ9_floorDiv_7cf53, cJ9_floorDiv_7cf53, 3, (some .int))
abbrev mt_J9_floorMod_7cf53 (R : Room) : MT := (R, yJ9_floorMod_7cf53, cJ9_floorMod_7cf53, 3, (some .int))
abbrev mt_Jxa1e45_init_da8c8 (R : Room) : MT := (R, yJxa1e45_init_da8c8, cJxa1e45_init_da8c8, 1, none)
abbrev mt_Jxc12de_init_da8c8 (R : Room) : MT := (R, yJxc12de_init_da8c8, cJxc12de_init_da8c8, 1, none)
abbrev mt_Jx4a65c_init_da8c8 (R : Room) : MT := (R, yJx4a65c_init_da8c8, cJx4a65c_init_da8c8, 1, none)
abbrev mt_Jx4a65c_grow_92f84 (R : Room) : MT := (R, yJx4a65c_grow_92f84, cJx4a65c_grow_92f84, 4, (some (.array (.object "java/lang/Object"))))
abbrev mt_Jx4a65c_grow_d5877 (R : Room) : MT := (R, yJx4a65c_grow_d5877, cJx4a65c_grow_d5877, 1, (some (.array (.object "java/lang/Object"))))
abbrev mt_Jx4a65c_size_8abf5 (R : Room) : MT := (R, yJx4a65c_size_8abf5, cJx4a65c_size_8abf5, 1, (some .int))
abbrev mt_Jx4a65c_elementData_915e3 (R : Room) : MT := (R, yJx4a65c_elementData_915e3, cJx4a65c_elementData_915e3, 2, (some (.object "java/lang/Object")))
abbrev mt_Jx4a65c_get_915e3 (R : Room) : MT := (R, yJx4a65c_get_915e3, cJx4a65c_get_915e3, 2, (some (.object "java/lang/Object")))
abbrev mt_Jx4a65c_add_72be8 (R : Room) : MT := (R, yJx4a65c_add_72be8, cJx4a65c_add_72be8, 4, none)
abbrev mt_Jx4a65c_add_9ea2d (R : Room) : MT := (R, yJx4a65c_add_9ea2d, cJx4a65c_add_9ea2d, 2, (some .boolean))
abbrev mt_Jx4a65c_remove_915e3 (R : Room) : MT := (R, yJx4a65c_remove_915e3, cJx4a65c_remove_915e3, 4, (some (.object "java/lang/Object")))
abbrev mt_Jx4a65c_fastRemove_b59b0 (R : Room) : MT := (R, yJx4a65c_fastRemove_b59b0, cJx4a65c_fastRemove_b59b0, 4, none)
abbrev mt_J7_copyOf_1904c (R : Room) : MT := (R, yJ7_copyOf_1904c, cJ7_copyOf_1904c, 2, (some (.array (.object "java/lang/Object"))))
abbrev mt_J7_copyOf_6403c (R : Room) : MT := (R, yJ7_copyOf_6403c, cJ7_copyOf_6403c, 4, (some (.array (.object "java/lang/Object"))))
abbrev mt_J15_checkIndex_7cf53 (R : Room) : MT := (R, yJ15_checkIndex_7cf53, cJ15_checkIndex_7cf53, 2, (some .int))
abbrev mt_J8_newLength_cabcc (R : Room) : MT := (R, yJ8_newLength_cabcc, cJ8_newLength_cabcc, 4, (some .int))
abbrev mt_J8_hugeLength_7cf53 (R : Room) : MT := (R, yJ8_hugeLength_7cf53, cJ8_hugeLength_7cf53, 3, (some .int))
abbrev mt_J3_checkIndex_8e157 (R : Room) : MT := (R, yJ3_checkIndex_8e157, cJ3_checkIndex_8e157, 3, (some .int))
abbrev mt_L_cell (R : Room) : MT := (R, yL_cell, cL_cell, 2, (some .int))
theorem gf_X6_12 {k : KT} {μ : MT} {Z : ZT} {pc : Nat} {lv : List (Nat × Value)} {rest : List Value} {S : HS} {cells slots a : Nat} (hy : μ.2.1.cls = RX6) (hd : decode μ.2.2.1 pc = .ok (.getfield 12, 3)) (hK : gK S a = 8) (kk : X k μ Z (pc + 3) lv (va_rf (gP S 226 a) :: rest) S cells slots) : X k μ Z pc lv (.ref a :: rest) S cells slots := x_get 7 2 hd rfl (by decide) (by decide) rfl inlX6 (by rw [hy]; exact tw_1_19) (Or.inl rfl) hK kk
theorem pf_X6_12 {k : KT} {μ : MT} {Z : ZT} {pc : Nat} {lv : List (Nat × Value)} {rest : List Value} {S : HS} {cells slots a : Nat} {v : Nat} (hy : μ.2.1.cls = RX6) (hnm : μ.2.1.name = "<init>") (hd : decode μ.2.2.1 pc = .ok (.putfield 12, 3)) (hK : gK S a = 8) (kk : X k μ Z (pc + 3) lv rest (uP S 226 a (some v)) cells slots) : X k μ Z pc lv (.ref v :: .ref a :: rest) S cells slots := x_putP 7 2 tyX6 hd rfl (by decide) (by decide) rfl inlX6 tyX6_ok nmX6 (by rw [hy]; exact tw_1_19) (Or.inl rfl) (Or.inr ⟨rfl, hnm, hy.symm⟩) (tyX6_ok 2 (by decide)) rfl rfl hK kk
theorem gf_X6_16 {k : KT} {μ : MT} {Z : ZT} {pc : Nat} {lv : List (Nat × Value)} {rest : List Value} {S : HS} {cells slots a : Nat} (hy : μ.2.1.cls = RX6) (hd : decode μ.2.2.1 pc = .ok (.getfield 16, 3)) (hK : gK S a = 8) (kk : X k μ Z (pc + 3) lv (va_rf (gP S 227 a) :: rest) S cells slots) : X k μ Z pc lv (.ref a :: rest) S cells slots := x_get 7 3 hd rfl (by decide) (by decide) rfl inlX6 (by rw [hy]; exact tw_1_20) (Or.inl rfl) hK kk
theorem pf_X6_16 {k : KT} {μ : MT} {Z : ZT} {pc : Nat} {lv : List (Nat × Value)} {rest : List Value} {S : HS} {cells slots a : Nat} {v : Nat} (hy : μ.2.1.cls = RX6) (hnm : μ.2.1.name = "<init>") (hd : decode μ.2.2.1 pc = .ok (.putfield 16, 3)) (hK : gK S a = 8) (kk : X k μ Z (pc + 3) lv rest (uP S 227 a (some v)) cells slots) : X k μ Z pc lv (.ref v :: .ref a :: rest) S cells slots := x_putP 7 3 tyX6 hd rfl (by decide) (by decide) rfl inlX6 tyX6_ok nmX6 (by rw [hy]; exact tw_1_20) (Or.inl rfl) (Or.inr ⟨rfl, hnm, hy.symm⟩) (tyX6_ok 3 (by decide)) rfl rfl hK kk
theorem gf_X6_22 {k : KT} {μ : MT} {Z : ZT} {pc : Nat} {lv : List (Nat × Value)} {rest : List Value} {S : HS} {cells slots a : Nat} (hy : μ.2.1.cls = RX6) (hd : decode μ.2.2.1 pc = .ok (.getfield 22, 3)) (hK : gK S a = 8) (kk : X k μ Z (pc + 3) lv (va_rf (gP S 228 a) :: rest) S cells slots) : X k μ Z pc lv (.ref a :: rest) S cells slots := x_get 7 4 hd rfl (by decide) (by decide) rfl inlX6 (by rw [hy]; exact tw_2_0) (Or.inl rfl) hK kk
theorem pf_X6_22 {k : KT} {μ : MT} {Z : ZT} {pc : Nat} {lv : List (Nat × Value)} {rest : List Value} {S : HS} {cells slots a : Nat} {v : Nat} (hy : μ.2.1.cls = RX6) (hnm : μ.2.1.name = "<init>") (hd : decode μ.2.2.1 pc = .ok (.putfield 22, 3)) (hK : gK S a = 8) (kk : X k μ Z (pc + 3) lv rest (uP S 228 a (some v)) cells slots) : X k μ Z pc lv (.ref v :: .ref a :: rest) S cells slots := x_putP 7 4 tyX6 hd rfl (by decide) (by decide) rfl inlX6 tyX6_ok nmX6 (by rw [hy]; exact tw_2_0) (Or.inl rfl) (Or.inr ⟨rfl, hnm, hy.symm⟩) (tyX6_ok 4 (by decide)) rfl rfl hK kk
theorem gf_X6_30 {k : KT} {μ : MT} {Z : ZT} {pc : Nat} {lv : List (Nat × Value)} {rest : List Value} {S : HS} {cells slots a : Nat} (hy : μ.2.1.cls = RX6) (hd : decode μ.2.2.1 pc = .ok (.getfield 30, 3)) (hK : gK S a = 8) (kk : X k μ Z (pc + 3) lv (.int (gI S 224 a) :: rest) S cells slots) : X k μ Z pc lv (.ref a :: rest) S cells slots := x_get 7 0 hd rfl (by decide) (by decide) rfl inlX6 (by rw [hy]; exact tw_2_1) (Or.inl rfl) hK kk
theorem pf_X6_30 {k : KT} {μ : MT} {Z : ZT} {pc : Nat} {lv : List (Nat × Value)} {rest : List Value} {S : HS} {cells slots a : Nat} {v : Int32} (hy : μ.2.1.cls = RX6) (hnm : μ.2.1.name = "<init>") (hd : decode μ.2.2.1 pc = .ok (.putfield 30, 3)) (hK : gK S a = 8) (kk : X k μ Z (pc + 3) lv rest (uI S 224 a v) cells slots) : X k μ Z pc lv (.int v :: .ref a :: rest) S cells slots := x_putI 7 0 tyX6 hd rfl (by decide) (by decide) rfl inlX6 tyX6_ok nmX6 (by rw [hy]; exact tw_2_1) (Or.inl rfl) (Or.inr ⟨rfl, hnm, hy.symm⟩) (tyX6_ok 0 (by decide)) rfl rfl hK kk
theorem gf_X6_36 {k : KT} {μ : MT} {Z : ZT} {pc : Nat} {lv : List (Nat × Value)} {rest : List Value} {S : HS} {cells slots a : Nat} (hy : μ.2.1.cls = RX6) (hd : decode μ.2.2.1 pc = .ok (.getfield 36, 3)) (hK : gK S a = 8) (kk : X k μ Z (pc + 3) lv (va_rf (gP S 225 a) :: rest) S cells slots) : X k μ Z pc lv (.ref a :: rest) S cells slots := x_get 7 1 hd rfl (by decide) (by decide) rfl inlX6 (by rw [hy]; exact tw_2_3) (Or.inl rfl) hK kk
theorem pf_X6_36 {k : KT} {μ : MT} {Z : ZT} {pc : Nat} {lv : List (Nat × Value)} {rest : List Value} {S : HS} {cells slots a : Nat} {v : Nat} (hy : μ.2.1.cls = RX6) (hnm : μ.2.1.name = "<init>") (hd : decode μ.2.2.1 pc = .ok (.putfield 36, 3)) (hK : gK S a = 8) (kk : X k μ Z (pc + 3) lv rest (uP S 225 a (some v)) cells slots) : X k μ Z pc lv (.ref v :: .ref a :: rest) S cells slots := x_putP 7 1 tyX6 hd rfl (by decide) (by decide) rfl inlX6 tyX6_ok nmX6 (by rw [hy]; exact tw_2_3) (Or.inl rfl) (Or.inr ⟨rfl, hnm, hy.symm⟩) (tyX6_ok 1 (by decide)) rfl rfl hK kk
theorem gf_Jx4a65c_9 {k : KT} {μ : MT} {Z : ZT} {pc : Nat} {lv : List (Nat × Value)} {rest : List Value} {S : HS} {cells slots a : Nat} (hy : μ.2.1.cls = RJx4a65c) (hd : decode μ.2.2.1 pc = .ok (.getfield 9, 3)) (hK : gK S a = 1) (kk : X k μ Z (pc + 3) lv (va_rf (gP S 1 a) :: rest) S cells slots) : X k μ Z pc lv (.ref a :: rest) S cells slots := x_get 0 1 hd rfl (by decide) (by decide) rfl inlJx4a65c (by rw [hy]; exact tw_2_10) (Or.inl rfl) hK kk
theorem pf_Jx4a65c_9 {k : KT} {μ : MT} {Z : ZT} {pc : Nat} {lv : List (Nat × Value)} {rest : List Value} {S : HS} {cells slots a : Nat} {v : Nat} (hy : μ.2.1.cls = RJx4a65c) (hd : decode μ.2.2.1 pc = .ok (.putfield 9, 3)) (hK : gK S a = 1) (kk : X k μ Z (pc + 3) lv rest (uP S 1 a (some v)) cells slots) : X k μ Z pc lv (.ref v :: .ref a :: rest) S cells slots := x_putP 0 1 tyJx4a65c hd rfl (by decide) (by decide) rfl inlJx4a65c tyJx4a65c_ok nmJx4a65c (by rw [hy]; exact tw_2_10) (Or.inl rfl) (Or.inl rfl) (tyJx4a65c_ok 1 (by decide)) rfl rfl hK kk
theorem gf_Jxc12de_7 {k : KT} {μ : MT} {Z : ZT} {pc : Nat} {lv : List (Nat × Value)} {rest : List Value} {S : HS} {cells slots a : Nat} (hy : μ.2.1.cls = RJxc12de) (hd : decode μ.2.2.1 pc = .ok (.getfield 7, 3)) (hK : gK S a = 1) (kk : X k μ Z (pc + 3) lv (.int (gI S 0 a) :: rest) S cells slots) : X k μ Z pc lv (.ref a :: rest) S cells slots := x_get 0 0 hd rfl (by decide) (by decide) rfl inlJx4a65c (by rw [hy]; exact tw_2_15) (Or.inl rfl) hK kk
theorem pf_Jxc12de_7 {k : KT} {μ : MT} {Z : ZT} {pc : Nat} {lv : List (Nat × Value)} {rest : List Value} {S : HS} {cells slots a : Nat} {v : Int32} (hy : μ.2.1.cls = RJxc12de) (hd : decode μ.2.2.1 pc = .ok (.putfield 7, 3)) (hK : gK S a = 1) (kk : X k μ Z (pc + 3) lv rest (uI S 0 a v) cells slots) : X k μ Z pc lv (.int v :: .ref a :: rest) S cells slots := x_putI 0 0 tyJx4a65c hd rfl (by decide) (by decide) rfl inlJx4a65c tyJx4a65c_ok nmJx4a65c (by rw [hy]; exact tw_2_15) (Or.inl rfl) (Or.inl rfl) (tyJx4a65c_ok 0 (by decide)) rfl rfl hK kk
theorem gf_X4_9 {k : KT} {μ : MT} {Z : ZT} {pc : Nat} {lv : List (Nat × Value)} {rest : List Value} {S : HS} {cells slots a : Nat} (hy : μ.2.1.cls = RX4) (hd : decode μ.2.2.1 pc = .ok (.getfield 9, 3)) (hK : gK S a = 6) (kk : X k μ Z (pc + 3) lv (va_rf (gP S 160 a) :: rest) S cells slots) : X k μ Z pc lv (.ref a :: rest) S cells slots := x_get 5 0 hd rfl (by decide) (by decide) rfl inlX4 (by rw [hy]; exact tw_3_1) (Or.inl rfl) hK kk
theorem pf_X4_9 {k : KT} {μ : MT} {Z : ZT} {pc : Nat} {lv : List (Nat × Value)} {rest : List Value} {S : HS} {cells slots a : Nat} {v : Nat} (hy : μ.2.1.cls = RX4) (hnm : μ.2.1.name = "<init>") (hd : decode μ.2.2.1 pc = .ok (.putfield 9, 3)) (hK : gK S a = 6) (kk : X k μ Z (pc + 3) lv rest (uP S 160 a (some v)) cells slots) : X k μ Z pc lv (.ref v :: .ref a :: rest) S cells slots := x_putP 5 0 tyX4 hd rfl (by decide) (by decide) rfl inlX4 tyX4_ok nmX4 (by rw [hy]; exact tw_3_1) (Or.inl rfl) (Or.inr ⟨rfl, hnm, hy.symm⟩) (tyX4_ok 0 (by decide)) rfl rfl hK kk
theorem gf_X4_15 {k : KT} {μ : MT} {Z : ZT} {pc : Nat} {lv : List (Nat × Value)} {rest : List Value} {S : HS} {cells slots a : Nat} (hy : μ.2.1.cls = RX4) (hd : decode μ.2.2.1 pc = .ok (.getfield 15, 3)) (hK : gK S a = 6) (kk : X k μ Z (pc + 3) lv (va_rf (gP S 161 a) :: rest) S cells slots) : X k μ Z pc lv (.ref a :: rest) S cells slots := x_get 5 1 hd rfl (by decide) (by decide) rfl inlX4 (by rw [hy]; exact tw_3_2) (Or.inl rfl) hK kk
theorem pf_X4_15 {k : KT} {μ : MT} {Z : ZT} {pc : Nat} {lv : List (Nat × Value)} {rest : List Value} {S : HS} {cells slots a : Nat} {v : Nat} (hy : μ.2.1.cls = RX4) (hnm : μ.2.1.name = "<init>") (hd : decode μ.2.2.1 pc = .ok (.putfield 15, 3)) (hK : gK S a = 6) (kk : X k μ Z (pc + 3) lv rest (uP S 161 a (some v)) cells slots) : X k μ Z pc lv (.ref v :: .ref a :: rest) S cells slots := x_putP 5 1 tyX4 hd rfl (by decide) (by decide) rfl inlX4 tyX4_ok nmX4 (by rw [hy]; exact tw_3_2) (Or.inl rfl) (Or.inr ⟨rfl, hnm, hy.symm⟩) (tyX4_ok 1 (by decide)) rfl rfl hK kk
theorem gf_X1_10 {k : KT} {μ : MT} {Z : ZT} {pc : Nat} {lv : List (Nat × Value)} {rest : List Value} {S : HS} {cells slots a : Nat} (hy : μ.2.1.cls = RX1) (hd : decode μ.2.2.1 pc = .ok (.getfield 10, 3)) (hK : gK S a = 3) (kk : X k μ Z (pc + 3) lv (va_rf (gP S 64 a) :: rest) S cells slots) : X k μ Z pc lv (.ref a :: rest) S cells slots := x_get 2 0 hd rfl (by decide) (by decide) rfl inlX1 (by rw [hy]; exact tw_3_11) (Or.inl rfl) hK kk
theorem pf_X1_10 {k : KT} {μ : MT} {Z : ZT} {pc : Nat} {lv : List (Nat × Value)} {rest : List Value} {S : HS} {cells slots a : Nat} {v : Nat} (hy : μ.2.1.cls = RX1) (hnm : μ.2.1.name = "<init>") (hd : decode μ.2.2.1 pc = .ok (.putfield 10, 3)) (hK : gK S a = 3) (kk : X k μ Z (pc + 3) lv rest (uP S 64 a (some v)) cells slots) : X k μ Z pc lv (.ref v :: .ref a :: rest) S cells slots := x_putP 2 0 tyX1 hd rfl (by decide) (by decide) rfl inlX1 tyX1_ok nmX1 (by rw [hy]; exact tw_3_11) (Or.inl rfl) (Or.inr ⟨rfl, hnm, hy.symm⟩) (tyX1_ok 0 (by decide)) rfl rfl hK kk
theorem gf_X1_16 {k : KT} {μ : MT} {Z : ZT} {pc : Nat} {lv : List (Nat × Value)} {rest : List Value} {S : HS} {cells slots a : Nat} (hy : μ.2.1.cls = RX1) (hd : decode μ.2.2.1 pc = .ok (.getfield 16, 3)) (hK : gK S a = 3) (kk : X k μ Z (pc + 3) lv (va_rf (gP S 65 a) :: rest) S cells slots) : X k μ Z pc lv (.ref a :: rest) S cells slots := x_get 2 1 hd rfl (by decide) (by decide) rfl inlX1 (by rw [hy]; exact tw_3_12) (Or.inl rfl) hK kk
theorem pf_X1_16 {k : KT} {μ : MT} {Z : ZT} {pc : Nat} {lv : List (Nat × Value)} {rest : List Value} {S : HS} {cells slots a : Nat} {v : Nat} (hy : μ.2.1.cls = RX1) (hnm : μ.2.1.name = "<init>") (hd : decode μ.2.2.1 pc = .ok (.putfield 16, 3)) (hK : gK S a = 3) (kk : X k μ Z (pc + 3) lv rest (uP S 65 a (some v)) cells slots) : X k μ Z pc lv (.ref v :: .ref a :: rest) S cells slots := x_putP 2 1 tyX1 hd rfl (by decide) (by decide) rfl inlX1 tyX1_ok nmX1 (by rw [hy]; exact tw_3_12) (Or.inl rfl) (Or.inr ⟨rfl, hnm, hy.symm⟩) (tyX1_ok 1 (by decide)) rfl rfl hK kk
theorem gf_X1_19 {k : KT} {μ : MT} {Z : ZT} {pc : Nat} {lv : List (Nat × Value)} {rest : List Value} {S : HS} {cells slots a : Nat} (hy : μ.2.1.cls = RX1) (hd : decode μ.2.2.1 pc = .ok (.getfield 19, 3)) (hK : gK S a = 3) (kk : X k μ Z (pc + 3) lv (.int (gI S 67 a) :: rest) S cells slots) : X k μ Z pc lv (.ref a :: rest) S cells slots := x_get 2 3 hd rfl (by decide) (by decide) rfl inlX1 (by rw [hy]; exact tw_3_13) (Or.inl rfl) hK kk
theorem pf_X1_19 {k : KT} {μ : MT} {Z : ZT} {pc : Nat} {lv : List (Nat × Value)} {rest : List Value} {S : HS} {cells slots a : Nat} {v : Int32} (hy : μ.2.1.cls = RX1) (hd : decode μ.2.2.1 pc = .ok (.putfield 19, 3)) (hv : v = 0 ∨ v = 1) (hK : gK S a = 3) (kk : X k μ Z (pc + 3) lv rest (uI S 67 a v) cells slots) : X k μ Z pc lv (.int v :: .ref a :: rest) S cells slots := x_putI 2 3 tyX1 hd rfl (by decide) (by decide) rfl inlX1 tyX1_ok nmX1 (by rw [hy]; exact tw_3_13) (Or.inl rfl) (Or.inl rfl) (tyX1_ok 3 (by decide)) (by rcases hv with rfl | rfl <;> decide) (by rcases hv with rfl | rfl <;> decide) hK kk
theorem gf_X7_7 {k : KT} {μ : MT} {Z : ZT} {pc : Nat} {lv : List (Nat × Value)} {rest : List Value} {S : HS} {cells slots a : Nat} (hy : μ.2.1.cls = RX7) (hd : decode μ.2.2.1 pc = .ok (.getfield 7, 3)) (hK : gK S a = 9) (kk : X k μ Z (pc + 3) lv (va_rf (gP S 256 a) :: rest) S cells slots) : X k μ Z pc lv (.ref a :: rest) S cells slots := x_get 8 0 hd rfl (by decide) (by decide) rfl inlX7 (by rw [hy]; exact tw_3_19) (Or.inl rfl) hK kk
theorem pf_X7_7 {k : KT} {μ : MT} {Z : ZT} {pc : Nat} {lv : List (Nat × Value)} {rest : List Value} {S : HS} {cells slots a : Nat} {v : Nat} (hy : μ.2.1.cls = RX7) (hnm : μ.2.1.name = "<init>") (hd : decode μ.2.2.1 pc = .ok (.putfield 7, 3)) (hK : gK S a = 9) (kk : X k μ Z (pc + 3) lv rest (uP S 256 a (some v)) cells slots) : X k μ Z pc lv (.ref v :: .ref a :: rest) S cells slots := x_putP 8 0 tyX7 hd rfl (by decide) (by decide) rfl inlX7 tyX7_ok nmX7 (by rw [hy]; exact tw_3_19) (Or.inl rfl) (Or.inr ⟨rfl, hnm, hy.symm⟩) (tyX7_ok 0 (by decide)) rfl rfl hK kk
theorem gf_X7_13 {k : KT} {μ : MT} {Z : ZT} {pc : Nat} {lv : List (Nat × Value)} {rest : List Value} {S : HS} {cells slots a : Nat} (hy : μ.2.1.cls = RX7) (hd : decode μ.2.2.1 pc = .ok (.getfield 13, 3)) (hK : gK S a = 9) (kk : X k μ Z (pc + 3) lv (va_rf (gP S 260 a) :: rest) S cells slots) : X k μ Z pc lv (.ref a :: rest) S cells slots := x_get 8 4 hd rfl (by decide) (by decide) rfl inlX7 (by rw [hy]; exact tw_3_20) (Or.inl rfl) hK kk
theorem pf_X7_13 {k : KT} {μ : MT} {Z : ZT} {pc : Nat} {lv : List (Nat × Value)} {rest : List Value} {S : HS} {cells slots a : Nat} {v : Nat} (hy : μ.2.1.cls = RX7) (hnm : μ.2.1.name = "<init>") (hd : decode μ.2.2.1 pc = .ok (.putfield 13, 3)) (hK : gK S a = 9) (kk : X k μ Z (pc + 3) lv rest (uP S 260 a (some v)) cells slots) : X k μ Z pc lv (.ref v :: .ref a :: rest) S cells slots := x_putP 8 4 tyX7 hd rfl (by decide) (by decide) rfl inlX7 tyX7_ok nmX7 (by rw [hy]; exact tw_3_20) (Or.inl rfl) (Or.inr ⟨rfl, hnm, hy.symm⟩) (tyX7_ok 4 (by decide)) rfl rfl hK kk
theorem gf_X7_16 {k : KT} {μ : MT} {Z : ZT} {pc : Nat} {lv : List (Nat × Value)} {rest : List Value} {S : HS} {cells slots a : Nat} (hy : μ.2.1.cls = RX7) (hd : decode μ.2.2.1 pc = .ok (.getfield 16, 3)) (hK : gK S a = 9) (kk : X k μ Z (pc + 3) lv (va_rf (gP S 261 a) :: rest) S cells slots) : X k μ Z pc lv (.ref a :: rest) S cells slots := x_get 8 5 hd rfl (by decide) (by decide) rfl inlX7 (by rw [hy]; exact tw_3_21) (Or.inl rfl) hK kk
theorem pf_X7_16 {k : KT} {μ : MT} {Z : ZT} {pc : Nat} {lv : List (Nat × Value)} {rest : List Value} {S : HS} {cells slots a : Nat} {v : Nat} (hy : μ.2.1.cls = RX7) (hnm : μ.2.1.name = "<init>") (hd : decode μ.2.2.1 pc = .ok (.putfield 16, 3)) (hK : gK S a = 9) (kk : X k μ Z (pc + 3) lv rest (uP S 261 a (some v)) cells slots) : X k μ Z pc lv (.ref v :: .ref a :: rest) S cells slots := x_putP 8 5 tyX7 hd rfl (by decide) (by decide) rfl inlX7 tyX7_ok nmX7 (by rw [hy]; exact tw_3_21) (Or.inl rfl) (Or.inr ⟨rfl, hnm, hy.symm⟩) (tyX7_ok 5 (by decide)) rfl rfl hK kk
theorem gf_X7_19 {k : KT} {μ : MT} {Z : ZT} {pc : Nat} {lv : List (Nat × Value)} {rest : List Value} {S : HS} {cells slots a : Nat} (hy : μ.2.1.cls = RX7) (hd : decode μ.2.2.1 pc = .ok (.getfield 19, 3)) (hK : gK S a = 9) (kk : X k μ Z (pc + 3) lv (va_rf (gP S 263 a) :: rest) S cells slots) : X k μ Z pc lv (.ref a :: rest) S cells slots := x_get 8 7 hd rfl (by decide) (by decide) rfl inlX7 (by rw [hy]; exact tw_3_22) (Or.inl rfl) hK kk
theorem pf_X7_19 {k : KT} {μ : MT} {Z : ZT} {pc : Nat} {lv : List (Nat × Value)} {rest : List Value} {S : HS} {cells slots a : Nat} {v : Nat} (hy : μ.2.1.cls = RX7) (hnm : μ.2.1.name = "<init>") (hd : decode μ.2.2.1 pc = .ok (.putfield 19, 3)) (hK : gK S a = 9) (kk : X k μ Z (pc + 3) lv rest (uP S 263 a (some v)) cells slots) : X k μ Z pc lv (.ref v :: .ref a :: rest) S cells slots := x_putP 8 7 tyX7 hd rfl (by decide) (by decide) rfl inlX7 tyX7_ok nmX7 (by rw [hy]; exact tw_3_22) (Or.inl rfl) (Or.inr ⟨rfl, hnm, hy.symm⟩) (tyX7_ok 7 (by decide)) rfl rfl hK kk
theorem gf_X7_22 {k : KT} {μ : MT} {Z : ZT} {pc : Nat} {lv : List (Nat × Value)} {rest : List Value} {S : HS} {cells slots a : Nat} (hy : μ.2.1.cls = RX7) (hd : decode μ.2.2.1 pc = .ok (.getfield 22, 3)) (hK : gK S a = 9) (kk : X k μ Z (pc + 3) lv (va_rf (gP S 264 a) :: rest) S cells slots) : X k μ Z pc lv (.ref a :: rest) S cells slots := x_get 8 8 hd rfl (by decide) (by decide) rfl inlX7 (by rw [hy]; exact tw_3_23) (Or.inl rfl) hK kk
theorem pf_X7_22 {k : KT} {μ : MT} {Z : ZT} {pc : Nat} {lv : List (Nat × Value)} {rest : List Value} {S : HS} {cells slots a : Nat} {v : Nat} (hy : μ.2.1.cls = RX7) (hnm : μ.2.1.name = "<init>") (hd : decode μ.2.2.1 pc = .ok (.putfield 22, 3)) (hK : gK S a = 9) (kk : X k μ Z (pc + 3) lv rest (uP S 264 a (some v)) cells slots) : X k μ Z pc lv (.ref v :: .ref a :: rest) S cells slots := x_putP 8 8 tyX7 hd rfl (by decide) (by decide) rfl inlX7 tyX7_ok nmX7 (by rw [hy]; exact tw_3_23) (Or.inl rfl) (Or.inr ⟨rfl, hnm, hy.symm⟩) (tyX7_ok 8 (by decide)) rfl rfl hK kk
theorem gf_X7_25 {k : KT} {μ : MT} {Z : ZT} {pc : Nat} {lv : List (Nat × Value)} {rest : List Value} {S : HS} {cells slots a : Nat} (hy : μ.2.1.cls = RX7) (hd : decode μ.2.2.1 pc = .ok (.getfield 25, 3)) (hK : gK S a = 9) (kk : X k μ Z (pc + 3) lv (va_rf (gP S 265 a) :: rest) S cells slots) : X k μ Z pc lv (.ref a :: rest) S cells slots := x_get 8 9 hd rfl (by decide) (by decide) rfl inlX7 (by rw [hy]; exact tw_4_0) (Or.inl rfl) hK kk
theorem pf_X7_25 {k : KT} {μ : MT} {Z : ZT} {pc : Nat} {lv : List (Nat × Value)} {rest : List Value} {S : HS} {cells slots a : Nat} {v : Nat} (hy : μ.2.1.cls = RX7) (hnm : μ.2.1.name = "<init>") (hd : decode μ.2.2.1 pc = .ok (.putfield 25, 3)) (hK : gK S a = 9) (kk : X k μ Z (pc + 3) lv rest (uP S 265 a (some v)) cells slots) : X k μ Z pc lv (.ref v :: .ref a :: rest) S cells slots := x_putP 8 9 tyX7 hd rfl (by decide) (by decide) rfl inlX7 tyX7_ok nmX7 (by rw [hy]; exact tw_4_0) (Or.inl rfl) (Or.inr ⟨rfl, hnm, hy.symm⟩) (tyX7_ok 9 (by decide)) rfl rfl hK kk
theorem gf_X7_28 {k : KT} {μ : MT} {Z : ZT} {pc : Nat} {lv : List (Nat × Value)} {rest : List Value} {S : HS} {cells slots a : Nat} (hy : μ.2.1.cls = RX7) (hd : decode μ.2.2.1 pc = .ok (.getfield 28, 3)) (hK : gK S a = 9) (kk : X k μ Z (pc + 3) lv (va_rf (gP S 269 a) :: rest) S cells slots) : X k μ Z pc lv (.ref a :: rest) S cells slots := x_get 8 13 hd rfl (by decide) (by decide) rfl inlX7 (by rw [hy]; exact tw_4_2) (Or.inl rfl) hK kk
theorem pf_X7_28 {k : KT} {μ : MT} {Z : ZT} {pc : Nat} {lv : List (Nat × Value)} {rest : List Value} {S : HS} {cells slots a : Nat} {v : Nat} (hy : μ.2.1.cls = RX7) (hnm : μ.2.1.name = "<init>") (hd : decode μ.2.2.1 pc = .ok (.putfield 28, 3)) (hK : gK S a = 9) (kk : X k μ Z (pc + 3) lv rest (uP S 269 a (some v)) cells slots) : X k μ Z pc lv (.ref v :: .ref a :: rest) S cells slots := x_putP 8 13 tyX7 hd rfl (by decide) (by decide) rfl inlX7 tyX7_ok nmX7 (by rw [hy]; exact tw_4_2) (Or.inl rfl) (Or.inr ⟨rfl, hnm, hy.symm⟩) (tyX7_ok 13 (by decide)) rfl rfl hK kk
theorem gf_X7_32 {k : KT} {μ : MT} {Z : ZT} {pc : Nat} {lv : List (Nat × Value)} {rest : List Value} {S : HS} {cells slots a : Nat} (hy : μ.2.1.cls = RX7) (hd : decode μ.2.2.1 pc = .ok (.getfield 32, 3)) (hK : gK S a = 9) (kk : X k μ Z (pc + 3) lv (va_rf (gP S 270 a) :: rest) S cells slots) : X k μ Z pc lv (.ref a :: rest) S cells slots := x_get 8 14 hd rfl (by decide) (by decide) rfl inlX7 (by rw [hy]; exact tw_4_3) (Or.inl rfl) hK kk
theorem pf_X7_32 {k : KT} {μ : MT} {Z : ZT} {pc : Nat} {lv : List (Nat × Value)} {rest : List Value} {S : HS} {cells slots a : Nat} {v : Nat} (hy : μ.2.1.cls = RX7) (hnm : μ.2.1.name = "<init>") (hd : decode μ.2.2.1 pc = .ok (.putfield 32, 3)) (hK : gK S a = 9) (kk : X k μ Z (pc + 3) lv rest (uP S 270 a (some v)) cells slots) : X k μ Z pc lv (.ref v :: .ref a :: rest) S cells slots := x_putP 8 14 tyX7 hd rfl (by decide) (by decide) rfl inlX7 tyX7_ok nmX7 (by rw [hy]; exact tw_4_3) (Or.inl rfl) (Or.inr ⟨rfl, hnm, hy.symm⟩) (tyX7_ok 14 (by decide)) rfl rfl hK kk
theorem gf_X7_35 {k : KT} {μ : MT} {Z : ZT} {pc : Nat} {lv : List (Nat × Value)} {rest : List Value} {S : HS} {cells slots a : Nat} (hy : μ.2.1.cls = RX7) (hd : decode μ.2.2.1 pc = .ok (.getfield 35, 3)) (hK : gK S a = 9) (kk : X k μ Z (pc + 3) lv (va_rf (gP S 271 a) :: rest) S cells slots) : X k μ Z pc lv (.ref a :: rest) S cells slots := x_get 8 15 hd rfl (by decide) (by decide) rfl inlX7 (by rw [hy]; exact tw_4_4) (Or.inl rfl) hK kk
theorem pf_X7_35 {k : KT} {μ : MT} {Z : ZT} {pc : Nat} {lv : List (Nat × Value)} {rest : List Value} {S : HS} {cells slots a : Nat} {v : Nat} (hy : μ.2.1.cls = RX7) (hnm : μ.2.1.name = "<init>") (hd : decode μ.2.2.1 pc = .ok (.putfield 35, 3)) (hK : gK S a = 9) (kk : X k μ Z (pc + 3) lv rest (uP S 271 a (some v)) cells slots) : X k μ Z pc lv (.ref v :: .ref a :: rest) S cells slots := x_putP 8 15 tyX7 hd rfl (by decide) (by decide) rfl inlX7 tyX7_ok nmX7 (by rw [hy]; exact tw_4_4) (Or.inl rfl) (Or.inr ⟨rfl, hnm, hy.symm⟩) (tyX7_ok 15 (by decide)) rfl rfl hK kk
theorem gf_X7_38 {k : KT} {μ : MT} {Z : ZT} {pc : Nat} {lv : List (Nat × Value)} {rest : List Value} {S : HS} {cells slots a : Nat} (hy : μ.2.1.cls = RX7) (hd : decode μ.2.2.1 pc = .ok (.getfield 38, 3)) (hK : gK S a = 9) (kk : X k μ Z (pc + 3) lv (va_rf (gP S 272 a) :: rest) S cells slots) : X k μ Z pc lv (.ref a :: rest) S cells slots := x_get 8 16 hd rfl (by decide) (by decide) rfl inlX7 (by rw [hy]; exact tw_4_5) (Or.inl rfl) hK kk
theorem pf_X7_38 {k : KT} {μ : MT} {Z : ZT} {pc : Nat} {lv : List (Nat × Value)} {rest : List Value} {S : HS} {cells slots a : Nat} {v : Nat} (hy : μ.2.1.cls = RX7) (hnm : μ.2.1.name = "<init>") (hd : decode μ.2.2.1 pc = .ok (.putfield 38, 3)) (hK : gK S a = 9) (kk : X k μ Z (pc + 3) lv rest (uP S 272 a (some v)) cells slots) : X k μ Z pc lv (.ref v :: .ref a :: rest) S cells slots := x_putP 8 16 tyX7 hd rfl (by decide) (by decide) rfl inlX7 tyX7_ok nmX7 (by rw [hy]; exact tw_4_5) (Or.inl rfl) (Or.inr ⟨rfl, hnm, hy.symm⟩) (tyX7_ok 16 (by decide)) rfl rfl hK kk
theorem gf_X7_41 {k : KT} {μ : MT} {Z : ZT} {pc : Nat} {lv : List (Nat × Value)} {rest : List Value} {S : HS} {cells slots a : Nat} (hy : μ.2.1.cls = RX7) (hd : decode μ.2.2.1 pc = .ok (.getfield 41, 3)) (hK : gK S a = 9) (kk : X k μ Z (pc + 3) lv (va_rf (gP S 273 a) :: rest) S cells slots) : X k μ Z pc lv (.ref a :: rest) S cells slots := x_get 8 17 hd rfl (by decide) (by decide) rfl inlX7 (by rw [hy]; exact tw_4_6) (Or.inl rfl) hK kk
theorem pf_X7_41 {k : KT} {μ : MT} {Z : ZT} {pc : Nat} {lv : List (Nat × Value)} {rest : List Value} {S : HS} {cells slots a : Nat} {v : Nat} (hy : μ.2.1.cls = RX7) (hnm : μ.2.1.name = "<init>") (hd : decode μ.2.2.1 pc = .ok (.putfield 41, 3)) (hK : gK S a = 9) (kk : X k μ Z (pc + 3) lv rest (uP S 273 a (some v)) cells slots) : X k μ Z pc lv (.ref v :: .ref a :: rest) S cells slots := x_putP 8 17 tyX7 hd rfl (by decide) (by decide) rfl inlX7 tyX7_ok nmX7 (by rw [hy]; exact tw_4_6) (Or.inl rfl) (Or.inr ⟨rfl, hnm, hy.symm⟩) (tyX7_ok 17 (by decide)) rfl rfl hK kk
theorem gf_X7_44 {k : KT} {μ : MT} {Z : ZT} {pc : Nat} {lv : List (Nat × Value)} {rest : List Value} {S : HS} {cells slots a : Nat} (hy : μ.2.1.cls = RX7) (hd : decode μ.2.2.1 pc = .ok (.getfield 44, 3)) (hK : gK S a = 9) (kk : X k μ Z (pc + 3) lv (va_rf (gP S 274 a) :: rest) S cells slots) : X k μ Z pc lv (.ref a :: rest) S cells slots := x_get 8 18 hd rfl (by decide) (by decide) rfl inlX7 (by rw [hy]; exact tw_4_7) (Or.inl rfl) hK kk
theorem pf_X7_44 {k : KT} {μ : MT} {Z : ZT} {pc : Nat} {lv : List (Nat × Value)} {rest : List Value} {S : HS} {cells slots a : Nat} {v : Nat} (hy : μ.2.1.cls = RX7) (hnm : μ.2.1.name = "<init>") (hd : decode μ.2.2.1 pc = .ok (.putfield 44, 3)) (hK : gK S a = 9) (kk : X k μ Z (pc + 3) lv rest (uP S 274 a (some v)) cells slots) : X k μ Z pc lv (.ref v :: .ref a :: rest) S cells slots := x_putP 8 18 tyX7 hd rfl (by decide) (by decide) rfl inlX7 tyX7_ok nmX7 (by rw [hy]; exact tw_4_7) (Or.inl rfl) (Or.inr ⟨rfl, hnm, hy.symm⟩) (tyX7_ok 18 (by decide)) rfl rfl hK kk
theorem gf_X7_47 {k : KT} {μ : MT} {Z : ZT} {pc : Nat} {lv : List (Nat × Value)} {rest : List Value} {S : HS} {cells slots a : Nat} (hy : μ.2.1.cls = RX7) (hd : decode μ.2.2.1 pc = .ok (.getfield 47, 3)) (hK : gK S a = 9) (kk : X k μ Z (pc + 3) lv (va_rf (gP S 275 a) :: rest) S cells slots) : X k μ Z pc lv (.ref a :: rest) S cells slots := x_get 8 19 hd rfl (by decide) (by decide) rfl inlX7 (by rw [hy]; exact tw_4_8) (Or.inl rfl) hK kk
theorem pf_X7_47 {k : KT} {μ : MT} {Z : ZT} {pc : Nat} {lv : List (Nat × Value)} {rest : List Value} {S : HS} {cells slots a : Nat} {v : Nat} (hy : μ.2.1.cls = RX7) (hnm : μ.2.1.name = "<init>") (hd : decode μ.2.2.1 pc = .ok (.putfield 47, 3)) (hK : gK S a = 9) (kk : X k μ Z (pc + 3) lv rest (uP S 275 a (some v)) cells slots) : X k μ Z pc lv (.ref v :: .ref a :: rest) S cells slots := x_putP 8 19 tyX7 hd rfl (by decide) (by decide) rfl inlX7 tyX7_ok nmX7 (by rw [hy]; exact tw_4_8) (Or.inl rfl) (Or.inr ⟨rfl, hnm, hy.symm⟩) (tyX7_ok 19 (by decide)) rfl rfl hK kk
theorem gf_X7_50 {k : KT} {μ : MT} {Z : ZT} {pc : Nat} {lv : List (Nat × Value)} {rest : List Value} {S : HS} {cells slots a : Nat} (hy : μ.2.1.cls = RX7) (hd : decode μ.2.2.1 pc = .ok (.getfield 50, 3)) (hK : gK S a = 9) (kk : X k μ Z (pc + 3) lv (va_rf (gP S 276 a) :: rest) S cells slots) : X k μ Z pc lv (.ref a :: rest) S cells slots := x_get 8 20 hd rfl (by decide) (by decide) rfl inlX7 (by rw [hy]; exact tw_4_9) (Or.inl rfl) hK kk
theorem pf_X7_50 {k : KT} {μ : MT} {Z : ZT} {pc : Nat} {lv : List (Nat × Value)} {rest : List Value} {S : HS} {cells slots a : Nat} {v : Nat} (hy : μ.2.1.cls = RX7) (hnm : μ.2.1.name = "<init>") (hd : decode μ.2.2.1 pc = .ok (.putfield 50, 3)) (hK : gK S a = 9) (kk : X k μ Z (pc + 3) lv rest (uP S 276 a (some v)) cells slots) : X k μ Z pc lv (.ref v :: .ref a :: rest) S cells slots := x_putP 8 20 tyX7 hd rfl (by decide) (by decide) rfl inlX7 tyX7_ok nmX7 (by rw [hy]; exact tw_4_9) (Or.inl rfl) (Or.inr ⟨rfl, hnm, hy.symm⟩) (tyX7_ok 20 (by decide)) rfl rfl hK kk
theorem gf_X7_53 {k : KT} {μ : MT} {Z : ZT} {pc : Nat} {lv : List (Nat × Value)} {rest : List Value} {S : HS} {cells slots a : Nat} (hy : μ.2.1.cls = RX7) (hd : decode μ.2.2.1 pc = .ok (.getfield 53, 3)) (hK : gK S a = 9) (kk : X k μ Z (pc + 3) lv (va_rf (gP S 278 a) :: rest) S cells slots) : X k μ Z pc lv (.ref a :: rest) S cells slots := x_get 8 22 hd rfl (by decide) (by decide) rfl inlX7 (by rw [hy]; exact tw_4_10) (Or.inl rfl) hK kk
theorem pf_X7_53 {k : KT} {μ : MT} {Z : ZT} {pc : Nat} {lv : List (Nat × Value)} {rest : List Value} {S : HS} {cells slots a : Nat} {v : Nat} (hy : μ.2.1.cls = RX7) (hnm : μ.2.1.name = "<init>") (hd : decode μ.2.2.1 pc = .ok (.putfield 53, 3)) (hK : gK S a = 9) (kk : X k μ Z (pc + 3) lv rest (uP S 278 a (some v)) cells slots) : X k μ Z pc lv (.ref v :: .ref a :: rest) S cells slots := x_putP 8 22 tyX7 hd rfl (by decide) (by decide) rfl inlX7 tyX7_ok nmX7 (by rw [hy]; exact tw_4_10) (Or.inl rfl) (Or.inr ⟨rfl, hnm, hy.symm⟩) (tyX7_ok 22 (by decide)) rfl rfl hK kk
theorem gf_X7_56 {k : KT} {μ : MT} {Z : ZT} {pc : Nat} {lv : List (Nat × Value)} {rest : List Value} {S : HS} {cells slots a : Nat} (hy : μ.2.1.cls = RX7) (hd : decode μ.2.2.1 pc = .ok (.getfield 56, 3)) (hK : gK S a = 9) (kk : X k μ Z (pc + 3) lv (va_rf (gP S 279 a) :: rest) S cells slots) : X k μ Z pc lv (.ref a :: rest) S cells slots := x_get 8 23 hd rfl (by decide) (by decide) rfl inlX7 (by rw [hy]; exact tw_4_11) (Or.inl rfl) hK kk
theorem pf_X7_56 {k : KT} {μ : MT} {Z : ZT} {pc : Nat} {lv : List (Nat × Value)} {rest : List Value} {S : HS} {cells slots a : Nat} {v : Nat} (hy : μ.2.1.cls = RX7) (hnm : μ.2.1.name = "<init>") (hd : decode μ.2.2.1 pc = .ok (.putfield 56, 3)) (hK : gK S a = 9) (kk : X k μ Z (pc + 3) lv rest (uP S 279 a (some v)) cells slots) : X k μ Z pc lv (.ref v :: .ref a :: rest) S cells slots := x_putP 8 23 tyX7 hd rfl (by decide) (by decide) rfl inlX7 tyX7_ok nmX7 (by rw [hy]; exact tw_4_11) (Or.inl rfl) (Or.inr ⟨rfl, hnm, hy.symm⟩) (tyX7_ok 23 (by decide)) rfl rfl hK kk
theorem gf_X7_59 {k : KT} {μ : MT} {Z : ZT} {pc : Nat} {lv : List (Nat × Value)} {rest : List Value} {S : HS} {cells slots a : Nat} (hy : μ.2.1.cls = RX7) (hd : decode μ.2.2.1 pc = .ok (.getfield 59, 3)) (hK : gK S a = 9) (kk : X k μ Z (pc + 3) lv (va_rf (gP S 280 a) :: rest) S cells slots) : X k μ Z pc lv (.ref a :: rest) S cells slots := x_get 8 24 hd rfl (by decide) (by decide) rfl inlX7 (by rw [hy]; exact tw_4_12) (Or.inl rfl) hK kk
theorem pf_X7_59 {k : KT} {μ : MT} {Z : ZT} {pc : Nat} {lv : List (Nat × Value)} {rest : List Value} {S : HS} {cells slots a : Nat} {v : Nat} (hy : μ.2.1.cls = RX7) (hnm : μ.2.1.name = "<init>") (hd : decode μ.2.2.1 pc = .ok (.putfield 59, 3)) (hK : gK S a = 9) (kk : X k μ Z (pc + 3) lv rest (uP S 280 a (some v)) cells slots) : X k μ Z pc lv (.ref v :: .ref a :: rest) S cells slots := x_putP 8 24 tyX7 hd rfl (by decide) (by decide) rfl inlX7 tyX7_ok nmX7 (by rw [hy]; exact tw_4_12) (Or.inl rfl) (Or.inr ⟨rfl, hnm, hy.symm⟩) (tyX7_ok 24 (by decide)) rfl rfl hK kk
theorem gf_X7_62 {k : KT} {μ : MT} {Z : ZT} {pc : Nat} {lv : List (Nat × Value)} {rest : List Value} {S : HS} {cells slots a : Nat} (hy : μ.2.1.cls = RX7) (hd : decode μ.2.2.1 pc = .ok (.getfield 62, 3)) (hK : gK S a = 9) (kk : X k μ Z (pc + 3) lv (.int (gI S 257 a) :: rest) S cells slots) : X k μ Z pc lv (.ref a :: rest) S cells slots := x_get 8 1 hd rfl (by decide) (by decide) rfl inlX7 (by rw [hy]; exact tw_4_13) (Or.inl rfl) hK kk
theorem pf_X7_62 {k : KT} {μ : MT} {Z : ZT} {pc : Nat} {lv : List (Nat × Value)} {rest : List Value} {S : HS} {cells slots a : Nat} {v : Int32} (hy : μ.2.1.cls = RX7) (hnm : μ.2.1.name = "<init>") (hd : decode μ.2.2.1 pc = .ok (.putfield 62, 3)) (hK : gK S a = 9) (kk : X k μ Z (pc + 3) lv rest (uI S 257 a v) cells slots) : X k μ Z pc lv (.int v :: .ref a :: rest) S cells slots := x_putI 8 1 tyX7 hd rfl (by decide) (by decide) rfl inlX7 tyX7_ok nmX7 (by rw [hy]; exact tw_4_13) (Or.inl rfl) (Or.inr ⟨rfl, hnm, hy.symm⟩) (tyX7_ok 1 (by decide)) rfl rfl hK kk
theorem gf_X7_66 {k : KT} {μ : MT} {Z : ZT} {pc : Nat} {lv : List (Nat × Value)} {rest : List Value} {S : HS} {cells slots a : Nat} (hy : μ.2.1.cls = RX7) (hd : decode μ.2.2.1 pc = .ok (.getfield 66, 3)) (hK : gK S a = 9) (kk : X k μ Z (pc + 3) lv (.int (gI S 258 a) :: rest) S cells slots) : X k μ Z pc lv (.ref a :: rest) S cells slots := x_get 8 2 hd rfl (by decide) (by decide) rfl inlX7 (by rw [hy]; exact tw_4_14) (Or.inl rfl) hK kk
theorem pf_X7_66 {k : KT} {μ : MT} {Z : ZT} {pc : Nat} {lv : List (Nat × Value)} {rest : List Value} {S : HS} {cells slots a : Nat} {v : Int32} (hy : μ.2.1.cls = RX7) (hnm : μ.2.1.name = "<init>") (hd : decode μ.2.2.1 pc = .ok (.putfield 66, 3)) (hK : gK S a = 9) (kk : X k μ Z (pc + 3) lv rest (uI S 258 a v) cells slots) : X k μ Z pc lv (.int v :: .ref a :: rest) S cells slots := x_putI 8 2 tyX7 hd rfl (by decide) (by decide) rfl inlX7 tyX7_ok nmX7 (by rw [hy]; exact tw_4_14) (Or.inl rfl) (Or.inr ⟨rfl, hnm, hy.symm⟩) (tyX7_ok 2 (by decide)) rfl rfl hK kk
theorem gf_Jx4a65c_48 {k : KT} {μ : MT} {Z : ZT} {pc : Nat} {lv : List (Nat × Value)} {rest : List Value} {S : HS} {cells slots a : Nat} (hy : μ.2.1.cls = RJx4a65c) (hd : decode μ.2.2.1 pc = .ok (.getfield 48, 3)) (hK : gK S a = 1) (kk : X k μ Z (pc + 3) lv (.int (gI S 2 a) :: rest) S cells slots) : X k μ Z pc lv (.ref a :: rest) S cells slots := x_get 0 2 hd rfl (by decide) (by decide) rfl inlJx4a65c (by rw [hy]; exact tw_7_3) (Or.inl rfl) hK kk
theorem pf_Jx4a65c_48 {k : KT} {μ : MT} {Z : ZT} {pc : Nat} {lv : List (Nat × Value)} {rest : List Value} {S : HS} {cells slots a : Nat} {v : Int32} (hy : μ.2.1.cls = RJx4a65c) (hd : decode μ.2.2.1 pc = .ok (.putfield 48, 3)) (hK : gK S a = 1) (kk : X k μ Z (pc + 3) lv rest (uI S 2 a v) cells slots) : X k μ Z pc lv (.int v :: .ref a :: rest) S cells slots := x_putI 0 2 tyJx4a65c hd rfl (by decide) (by decide) rfl inlJx4a65c tyJx4a65c_ok nmJx4a65c (by rw [hy]; exact tw_7_3) (Or.inl rfl) (Or.inl rfl) (tyJx4a65c_ok 2 (by decide)) rfl rfl hK kk
theorem gf_X0_7 {k : KT} {μ : MT} {Z : ZT} {pc : Nat} {lv : List (Nat × Value)} {rest : List Value} {S : HS} {cells slots a : Nat} (hy : μ.2.1.cls = RX0) (hd : decode μ.2.2.1 pc = .ok (.getfield 7, 3)) (hK : gK S a = 2) (kk : X k μ Z (pc + 3) lv (.int (gI S 32 a) :: rest) S cells slots) : X k μ Z pc lv (.ref a :: rest) S cells slots := x_get 1 0 hd rfl (by decide) (by decide) rfl inlX0 (by rw [hy]; exact tw_7_8) (Or.inl rfl) hK kk
theorem pf_X0_7 {k : KT} {μ : MT} {Z : ZT} {pc : Nat} {lv : List (Nat × Value)} {rest : List Value} {S : HS} {cells slots a : Nat} {v : Int32} (hy : μ.2.1.cls = RX0) (hd : decode μ.2.2.1 pc = .ok (.putfield 7, 3)) (hK : gK S a = 2) (kk : X k μ Z (pc + 3) lv rest (uI S 32 a v) cells slots) : X k μ Z pc lv (.int v :: .ref a :: rest) S cells slots := x_putI 1 0 tyX0 hd rfl (by decide) (by decide) rfl inlX0 tyX0_ok nmX0 (by rw [hy]; exact tw_7_8) (Or.inl rfl) (Or.inl rfl) (tyX0_ok 0 (by decide)) rfl rfl hK kk
theorem gf_X0_13 {k : KT} {μ : MT} {Z : ZT} {pc : Nat} {lv : List (Nat × Value)} {rest : List Value} {S : HS} {cells slots a : Nat} (hy : μ.2.1.cls = RX0) (hd : decode μ.2.2.1 pc = .ok (.getfield 13, 3)) (hK : gK S a = 2) (kk : X k μ Z (pc + 3) lv (.int (gI S 33 a) :: rest) S cells slots) : X k μ Z pc lv (.ref a :: rest) S cells slots := x_get 1 1 hd rfl (by decide) (by decide) rfl inlX0 (by rw [hy]; exact tw_7_9) (Or.inl rfl) hK kk
theorem pf_X0_13 {k : KT} {μ : MT} {Z : ZT} {pc : Nat} {lv : List (Nat × Value)} {rest : List Value} {S : HS} {cells slots a : Nat} {v : Int32} (hy : μ.2.1.cls = RX0) (hd : decode μ.2.2.1 pc = .ok (.putfield 13, 3)) (hK : gK S a = 2) (kk : X k μ Z (pc + 3) lv rest (uI S 33 a v) cells slots) : X k μ Z pc lv (.int v :: .ref a :: rest) S cells slots := x_putI 1 1 tyX0 hd rfl (by decide) (by decide) rfl inlX0 tyX0_ok nmX0 (by rw [hy]; exact tw_7_9) (Or.inl rfl) (Or.inl rfl) (tyX0_ok 1 (by decide)) rfl rfl hK kk
theorem gf_Jx4a65c_63 {k : KT} {μ : MT} {Z : ZT} {pc : Nat} {lv : List (Nat × Value)} {rest : List Value} {S : HS} {cells slots a : Nat} (hy : μ.2.1.cls = RJx4a65c) (hd : decode μ.2.2.1 pc = .ok (.getfield 63, 3)) (hK : gK S a = 1) (kk : X k μ Z (pc + 3) lv (.int (gI S 0 a) :: rest) S cells slots) : X k μ Z pc lv (.ref a :: rest) S cells slots := x_get 0 0 hd rfl (by decide) (by decide) rfl inlJx4a65c (by rw [hy]; exact tw_7_14) (Or.inr tw_7_15) hK kk
theorem pf_Jx4a65c_63 {k : KT} {μ : MT} {Z : ZT} {pc : Nat} {lv : List (Nat × Value)} {rest : List Value} {S : HS} {cells slots a : Nat} {v : Int32} (hy : μ.2.1.cls = RJx4a65c) (hd : decode μ.2.2.1 pc = .ok (.putfield 63, 3)) (hK : gK S a = 1) (kk : X k μ Z (pc + 3) lv rest (uI S 0 a v) cells slots) : X k μ Z pc lv (.int v :: .ref a :: rest) S cells slots := x_putI 0 0 tyJx4a65c hd rfl (by decide) (by decide) rfl inlJx4a65c tyJx4a65c_ok nmJx4a65c (by rw [hy]; exact tw_7_14) (Or.inr tw_7_15) (Or.inl rfl) (tyJx4a65c_ok 0 (by decide)) rfl rfl hK kk
theorem gf_X7_86 {k : KT} {μ : MT} {Z : ZT} {pc : Nat} {lv : List (Nat × Value)} {rest : List Value} {S : HS} {cells slots a : Nat} (hy : μ.2.1.cls = RX7) (hd : decode μ.2.2.1 pc = .ok (.getfield 86, 3)) (hK : gK S a = 9) (kk : X k μ Z (pc + 3) lv (.int (gI S 259 a) :: rest) S cells slots) : X k μ Z pc lv (.ref a :: rest) S cells slots := x_get 8 3 hd rfl (by decide) (by decide) rfl inlX7 (by rw [hy]; exact tw_9_17) (Or.inl rfl) hK kk
theorem pf_X7_86 {k : KT} {μ : MT} {Z : ZT} {pc : Nat} {lv : List (Nat × Value)} {rest : List Value} {S : HS} {cells slots a : Nat} {v : Int32} (hy : μ.2.1.cls = RX7) (hd : decode μ.2.2.1 pc = .ok (.putfield 86, 3)) (hK : gK S a = 9) (kk : X k μ Z (pc + 3) lv rest (uI S 259 a v) cells slots) : X k μ Z pc lv (.int v :: .ref a :: rest) S cells slots := x_putI 8 3 tyX7 hd rfl (by decide) (by decide) rfl inlX7 tyX7_ok nmX7 (by rw [hy]; exact tw_9_17) (Or.inl rfl) (Or.inl rfl) (tyX7_ok 3 (by decide)) rfl rfl hK kk
theorem gf_X6_82 {k : KT} {μ : MT} {Z : ZT} {pc : Nat} {lv : List (Nat × Value)} {rest : List Value} {S : HS} {cells slots a : Nat} (hy : μ.2.1.cls = RX6) (hd : decode μ.2.2.1 pc = .ok (.getfield 82, 3)) (hK : gK S a = 7) (kk : X k μ Z (pc + 3) lv (.int (gI S 195 a) :: rest) S cells slots) : X k μ Z pc lv (.ref a :: rest) S cells slots := x_get 6 3 hd rfl (by decide) (by decide) rfl inlX5 (by rw [hy]; exact tw_10_4) (Or.inl rfl) hK kk
theorem gf_X6_89 {k : KT} {μ : MT} {Z : ZT} {pc : Nat} {lv : List (Nat × Value)} {rest : List Value} {S : HS} {cells slots a : Nat} (hy : μ.2.1.cls = RX6) (hd : decode μ.2.2.1 pc = .ok (.getfield 89, 3)) (hK : gK S a = 8) (kk : X k μ Z (pc + 3) lv (.int (gI S 229 a) :: rest) S cells slots) : X k μ Z pc lv (.ref a :: rest) S cells slots := x_get 7 5 hd rfl (by decide) (by decide) rfl inlX6 (by rw [hy]; exact tw_10_5) (Or.inl rfl) hK kk
theorem pf_X6_89 {k : KT} {μ : MT} {Z : ZT} {pc : Nat} {lv : List (Nat × Value)} {rest : List Value} {S : HS} {cells slots a : Nat} {v : Int32} (hy : μ.2.1.cls = RX6) (hd : decode μ.2.2.1 pc = .ok (.putfield 89, 3)) (hK : gK S a = 8) (kk : X k μ Z (pc + 3) lv rest (uI S 229 a v) cells slots) : X k μ Z pc lv (.int v :: .ref a :: rest) S cells slots := x_putI 7 5 tyX6 hd rfl (by decide) (by decide) rfl inlX6 tyX6_ok nmX6 (by rw [hy]; exact tw_10_5) (Or.inl rfl) (Or.inl rfl) (tyX6_ok 5 (by decide)) rfl rfl hK kk
theorem gf_X6_100 {k : KT} {μ : MT} {Z : ZT} {pc : Nat} {lv : List (Nat × Value)} {rest : List Value} {S : HS} {cells slots a : Nat} (hy : μ.2.1.cls = RX6) (hd : decode μ.2.2.1 pc = .ok (.getfield 100, 3)) (hK : gK S a = 2) (kk : X k μ Z (pc + 3) lv (.int (gI S 32 a) :: rest) S cells slots) : X k μ Z pc lv (.ref a :: rest) S cells slots := x_get 1 0 hd rfl (by decide) (by decide) rfl inlX0 (by rw [hy]; exact tw_10_6) (Or.inl rfl) hK kk
theorem pf_X6_100 {k : KT} {μ : MT} {Z : ZT} {pc : Nat} {lv : List (Nat × Value)} {rest : List Value} {S : HS} {cells slots a : Nat} {v : Int32} (hy : μ.2.1.cls = RX6) (hd : decode μ.2.2.1 pc = .ok (.putfield 100, 3)) (hK : gK S a = 2) (kk : X k μ Z (pc + 3) lv rest (uI S 32 a v) cells slots) : X k μ Z pc lv (.int v :: .ref a :: rest) S cells slots := x_putI 1 0 tyX0 hd rfl (by decide) (by decide) rfl inlX0 tyX0_ok nmX0 (by rw [hy]; exact tw_10_6) (Or.inl rfl) (Or.inl rfl) (tyX0_ok 0 (by decide)) rfl rfl hK kk
theorem gf_X6_103 {k : KT} {μ : MT} {Z : ZT} {pc : Nat} {lv : List (Nat × Value)} {rest : List Value} {S : HS} {cells slots a : Nat} (hy : μ.2.1.cls = RX6) (hd : decode μ.2.2.1 pc = .ok (.getfield 103, 3)) (hK : gK S a = 2) (kk : X k μ Z (pc + 3) lv (.int (gI S 33 a) :: rest) S cells slots) : X k μ Z pc lv (.ref a :: rest) S cells slots := x_get 1 1 hd rfl (by decide) (by decide) rfl inlX0 (by rw [hy]; exact tw_10_7) (Or.inl rfl) hK kk
theorem pf_X6_103 {k : KT} {μ : MT} {Z : ZT} {pc : Nat} {lv : List (Nat × Value)} {rest : List Value} {S : HS} {cells slots a : Nat} {v : Int32} (hy : μ.2.1.cls = RX6) (hd : decode μ.2.2.1 pc = .ok (.putfield 103, 3)) (hK : gK S a = 2) (kk : X k μ Z (pc + 3) lv rest (uI S 33 a v) cells slots) : X k μ Z pc lv (.int v :: .ref a :: rest) S cells slots := x_putI 1 1 tyX0 hd rfl (by decide) (by decide) rfl inlX0 tyX0_ok nmX0 (by rw [hy]; exact tw_10_7) (Or.inl rfl) (Or.inl rfl) (tyX0_ok 1 (by decide)) rfl rfl hK kk
theorem gf_X5_9 {k : KT} {μ : MT} {Z : ZT} {pc : Nat} {lv : List (Nat × Value)} {rest : List Value} {S : HS} {cells slots a : Nat} (hy : μ.2.1.cls = RX5) (hd : decode μ.2.2.1 pc = .ok (.getfield 9, 3)) (hK : gK S a = 2) (kk : X k μ Z (pc + 3) lv (.int (gI S 32 a) :: rest) S cells slots) : X k μ Z pc lv (.ref a :: rest) S cells slots := x_get 1 0 hd rfl (by decide) (by decide) rfl inlX0 (by rw [hy]; exact tw_11_13) (Or.inl rfl) hK kk
theorem pf_X5_9 {k : KT} {μ : MT} {Z : ZT} {pc : Nat} {lv : List (Nat × Value)} {rest : List Value} {S : HS} {cells slots a : Nat} {v : Int32} (hy : μ.2.1.cls = RX5) (hd : decode μ.2.2.1 pc = .ok (.putfield 9, 3)) (hK : gK S a = 2) (kk : X k μ Z (pc + 3) lv rest (uI S 32 a v) cells slots) : X k μ Z pc lv (.int v :: .ref a :: rest) S cells slots := x_putI 1 0 tyX0 hd rfl (by decide) (by decide) rfl inlX0 tyX0_ok nmX0 (by rw [hy]; exact tw_11_13) (Or.inl rfl) (Or.inl rfl) (tyX0_ok 0 (by decide)) rfl rfl hK kk
theorem gf_X5_15 {k : KT} {μ : MT} {Z : ZT} {pc : Nat} {lv : List (Nat × Value)} {rest : List Value} {S : HS} {cells slots a : Nat} (hy : μ.2.1.cls = RX5) (hd : decode μ.2.2.1 pc = .ok (.getfield 15, 3)) (hK : gK S a = 7) (kk : X k μ Z (pc + 3) lv (.int (gI S 192 a) :: rest) S cells slots) : X k μ Z pc lv (.ref a :: rest) S cells slots := x_get 6 0 hd rfl (by decide) (by decide) rfl inlX5 (by rw [hy]; exact tw_11_14) (Or.inl rfl) hK kk
theorem pf_X5_15 {k : KT} {μ : MT} {Z : ZT} {pc : Nat} {lv : List (Nat × Value)} {rest : List Value} {S : HS} {cells slots a : Nat} {v : Int32} (hy : μ.2.1.cls = RX5) (hnm : μ.2.1.name = "<init>") (hd : decode μ.2.2.1 pc = .ok (.putfield 15, 3)) (hK : gK S a = 7) (kk : X k μ Z (pc + 3) lv rest (uI S 192 a v) cells slots) : X k μ Z pc lv (.int v :: .ref a :: rest) S cells slots := x_putI 6 0 tyX5 hd rfl (by decide) (by decide) rfl inlX5 tyX5_ok nmX5 (by rw [hy]; exact tw_11_14) (Or.inl rfl) (Or.inr ⟨rfl, hnm, hy.symm⟩) (tyX5_ok 0 (by decide)) rfl rfl hK kk
theorem gf_X5_18 {k : KT} {μ : MT} {Z : ZT} {pc : Nat} {lv : List (Nat × Value)} {rest : List Value} {S : HS} {cells slots a : Nat} (hy : μ.2.1.cls = RX5) (hd : decode μ.2.2.1 pc = .ok (.getfield 18, 3)) (hK : gK S a = 2) (kk : X k μ Z (pc + 3) lv (.int (gI S 33 a) :: rest) S cells slots) : X k μ Z pc lv (.ref a :: rest) S cells slots := x_get 1 1 hd rfl (by decide) (by decide) rfl inlX0 (by rw [hy]; exact tw_11_15) (Or.inl rfl) hK kk
theorem pf_X5_18 {k : KT} {μ : MT} {Z : ZT} {pc : Nat} {lv : List (Nat × Value)} {rest : List Value} {S : HS} {cells slots a : Nat} {v : Int32} (hy : μ.2.1.cls = RX5) (hd : decode μ.2.2.1 pc = .ok (.putfield 18, 3)) (hK : gK S a = 2) (kk : X k μ Z (pc + 3) lv rest (uI S 33 a v) cells slots) : X k μ Z pc lv (.int v :: .ref a :: rest) S cells slots := x_putI 1 1 tyX0 hd rfl (by decide) (by decide) rfl inlX0 tyX0_ok nmX0 (by rw [hy]; exact tw_11_15) (Or.inl rfl) (Or.inl rfl) (tyX0_ok 1 (by decide)) rfl rfl hK kk
theorem gf_X5_21 {k : KT} {μ : MT} {Z : ZT} {pc : Nat} {lv : List (Nat × Value)} {rest : List Value} {S : HS} {cells slots a : Nat} (hy : μ.2.1.cls = RX5) (hd : decode μ.2.2.1 pc = .ok (.getfield 21, 3)) (hK : gK S a = 7) (kk : X k μ Z (pc + 3) lv (.int (gI S 193 a) :: rest) S cells slots) : X k μ Z pc lv (.ref a :: rest) S cells slots := x_get 6 1 hd rfl (by decide) (by decide) rfl inlX5 (by rw [hy]; exact tw_11_16) (Or.inl rfl) hK kk
theorem pf_X5_21 {k : KT} {μ : MT} {Z : ZT} {pc : Nat} {lv : List (Nat × Value)} {rest : List Value} {S : HS} {cells slots a : Nat} {v : Int32} (hy : μ.2.1.cls = RX5) (hnm : μ.2.1.name = "<init>") (hd : decode μ.2.2.1 pc = .ok (.putfield 21, 3)) (hK : gK S a = 7) (kk : X k μ Z (pc + 3) lv rest (uI S 193 a v) cells slots) : X k μ Z pc lv (.int v :: .ref a :: rest) S cells slots := x_putI 6 1 tyX5 hd rfl (by decide) (by decide) rfl inlX5 tyX5_ok nmX5 (by rw [hy]; exact tw_11_16) (Or.inl rfl) (Or.inr ⟨rfl, hnm, hy.symm⟩) (tyX5_ok 1 (by decide)) rfl rfl hK kk
theorem gf_X5_24 {k : KT} {μ : MT} {Z : ZT} {pc : Nat} {lv : List (Nat × Value)} {rest : List Value} {S : HS} {cells slots a : Nat} (hy : μ.2.1.cls = RX5) (hd : decode μ.2.2.1 pc = .ok (.getfield 24, 3)) (hK : gK S a = 7) (kk : X k μ Z (pc + 3) lv (.int (gI S 194 a) :: rest) S cells slots) : X k μ Z pc lv (.ref a :: rest) S cells slots := x_get 6 2 hd rfl (by decide) (by decide) rfl inlX5 (by rw [hy]; exact tw_11_17) (Or.inl rfl) hK kk
theorem pf_X5_24 {k : KT} {μ : MT} {Z : ZT} {pc : Nat} {lv : List (Nat × Value)} {rest : List Value} {S : HS} {cells slots a : Nat} {v : Int32} (hy : μ.2.1.cls = RX5) (hnm : μ.2.1.name = "<init>") (hd : decode μ.2.2.1 pc = .ok (.putfield 24, 3)) (hK : gK S a = 7) (kk : X k μ Z (pc + 3) lv rest (uI S 194 a v) cells slots) : X k μ Z pc lv (.int v :: .ref a :: rest) S cells slots := x_putI 6 2 tyX5 hd rfl (by decide) (by decide) rfl inlX5 tyX5_ok nmX5 (by rw [hy]; exact tw_11_17) (Or.inl rfl) (Or.inr ⟨rfl, hnm, hy.symm⟩) (tyX5_ok 2 (by decide)) rfl rfl hK kk
theorem gf_X5_33 {k : KT} {μ : MT} {Z : ZT} {pc : Nat} {lv : List (Nat × Value)} {rest : List Value} {S : HS} {cells slots a : Nat} (hy : μ.2.1.cls = RX5) (hd : decode μ.2.2.1 pc = .ok (.getfield 33, 3)) (hK : gK S a = 7) (kk : X k μ Z (pc + 3) lv (.int (gI S 196 a) :: rest) S cells slots) : X k μ Z pc lv (.ref a :: rest) S cells slots := x_get 6 4 hd rfl (by decide) (by decide) rfl inlX5 (by rw [hy]; exact tw_11_18) (Or.inl rfl) hK kk
theorem pf_X5_33 {k : KT} {μ : MT} {Z : ZT} {pc : Nat} {lv : List (Nat × Value)} {rest : List Value} {S : HS} {cells slots a : Nat} {v : Int32} (hy : μ.2.1.cls = RX5) (hnm : μ.2.1.name = "<init>") (hd : decode μ.2.2.1 pc = .ok (.putfield 33, 3)) (hK : gK S a = 7) (kk : X k μ Z (pc + 3) lv rest (uI S 196 a v) cells slots) : X k μ Z pc lv (.int v :: .ref a :: rest) S cells slots := x_putI 6 4 tyX5 hd rfl (by decide) (by decide) rfl inlX5 tyX5_ok nmX5 (by rw [hy]; exact tw_11_18) (Or.inl rfl) (Or.inr ⟨rfl, hnm, hy.symm⟩) (tyX5_ok 4 (by decide)) rfl rfl hK kk
theorem gf_X5_39 {k : KT} {μ : MT} {Z : ZT} {pc : Nat} {lv : List (Nat × Value)} {rest : List Value} {S : HS} {cells slots a : Nat} (hy : μ.2.1.cls = RX5) (hd : decode μ.2.2.1 pc = .ok (.getfield 39, 3)) (hK : gK S a = 7) (kk : X k μ Z (pc + 3) lv (.int (gI S 195 a) :: rest) S cells slots) : X k μ Z pc lv (.ref a :: rest) S cells slots := x_get 6 3 hd rfl (by decide) (by decide) rfl inlX5 (by rw [hy]; exact tw_11_20) (Or.inl rfl) hK kk
theorem pf_X5_39 {k : KT} {μ : MT} {Z : ZT} {pc : Nat} {lv : List (Nat × Value)} {rest : List Value} {S : HS} {cells slots a : Nat} {v : Int32} (hy : μ.2.1.cls = RX5) (hnm : μ.2.1.name = "<init>") (hd : decode μ.2.2.1 pc = .ok (.putfield 39, 3)) (hK : gK S a = 7) (kk : X k μ Z (pc + 3) lv rest (uI S 195 a v) cells slots) : X k μ Z pc lv (.int v :: .ref a :: rest) S cells slots := x_putI 6 3 tyX5 hd rfl (by decide) (by decide) rfl inlX5 tyX5_ok nmX5 (by rw [hy]; exact tw_11_20) (Or.inl rfl) (Or.inr ⟨rfl, hnm, hy.symm⟩) (tyX5_ok 3 (by decide)) rfl rfl hK kk
theorem gf_X6_244 {k : KT} {μ : MT} {Z : ZT} {pc : Nat} {lv : List (Nat × Value)} {rest : List Value} {S : HS} {cells slots a : Nat} (hy : μ.2.1.cls = RX6) (hd : decode μ.2.2.1 pc = .ok (.getfield 244, 3)) (hK : gK S a = 7) (kk : X k μ Z (pc + 3) lv (.int (gI S 196 a) :: rest) S cells slots) : X k μ Z pc lv (.ref a :: rest) S cells slots := x_get 6 4 hd rfl (by decide) (by decide) rfl inlX5 (by rw [hy]; exact tw_12_9) (Or.inl rfl) hK kk
theorem gf_X6_247 {k : KT} {μ : MT} {Z : ZT} {pc : Nat} {lv : List (Nat × Value)} {rest : List Value} {S : HS} {cells slots a : Nat} (hy : μ.2.1.cls = RX6) (hd : decode μ.2.2.1 pc = .ok (.getfield 247, 3)) (hK : gK S a = 7) (kk : X k μ Z (pc + 3) lv (.int (gI S 192 a) :: rest) S cells slots) : X k μ Z pc lv (.ref a :: rest) S cells slots := x_get 6 0 hd rfl (by decide) (by decide) rfl inlX5 (by rw [hy]; exact tw_12_10) (Or.inl rfl) hK kk
theorem gf_X6_254 {k : KT} {μ : MT} {Z : ZT} {pc : Nat} {lv : List (Nat × Value)} {rest : List Value} {S : HS} {cells slots a : Nat} (hy : μ.2.1.cls = RX6) (hd : decode μ.2.2.1 pc = .ok (.getfield 254, 3)) (hK : gK S a = 7) (kk : X k μ Z (pc + 3) lv (.int (gI S 193 a) :: rest) S cells slots) : X k μ Z pc lv (.ref a :: rest) S cells slots := x_get 6 1 hd rfl (by decide) (by decide) rfl inlX5 (by rw [hy]; exact tw_12_23) (Or.inl rfl) hK kk
theorem gf_X6_255 {k : KT} {μ : MT} {Z : ZT} {pc : Nat} {lv : List (Nat × Value)} {rest : List Value} {S : HS} {cells slots a : Nat} (hy : μ.2.1.cls = RX6) (hd : decode μ.2.2.1 pc = .ok (.getfield 255, 3)) (hK : gK S a = 7) (kk : X k μ Z (pc + 3) lv (.int (gI S 194 a) :: rest) S cells slots) : X k μ Z pc lv (.ref a :: rest) S cells slots := x_get 6 2 hd rfl (by decide) (by decide) rfl inlX5 (by rw [hy]; exact tw_13_0) (Or.inl rfl) hK kk
theorem gf_X3_7 {k : KT} {μ : MT} {Z : ZT} {pc : Nat} {lv : List (Nat × Value)} {rest : List Value} {S : HS} {cells slots a : Nat} (hy : μ.2.1.cls = RX3) (hd : decode μ.2.2.1 pc = .ok (.getfield 7, 3)) (hK : gK S a = 5) (kk : X k μ Z (pc + 3) lv (.int (gI S 128 a) :: rest) S cells slots) : X k μ Z pc lv (.ref a :: rest) S cells slots := x_get 4 0 hd rfl (by decide) (by decide) rfl inlX3 (by rw [hy]; exact tw_13_9) (Or.inl rfl) hK kk
theorem pf_X3_7 {k : KT} {μ : MT} {Z : ZT} {pc : Nat} {lv : List (Nat × Value)} {rest : List Value} {S : HS} {cells slots a : Nat} {v : Int32} (hy : μ.2.1.cls = RX3) (hnm : μ.2.1.name = "<init>") (hd : decode μ.2.2.1 pc = .ok (.putfield 7, 3)) (hK : gK S a = 5) (kk : X k μ Z (pc + 3) lv rest (uI S 128 a v) cells slots) : X k μ Z pc lv (.int v :: .ref a :: rest) S cells slots := x_putI 4 0 tyX3 hd rfl (by decide) (by decide) rfl inlX3 tyX3_ok nmX3 (by rw [hy]; exact tw_13_9) (Or.inl rfl) (Or.inr ⟨rfl, hnm, hy.symm⟩) (tyX3_ok 0 (by decide)) rfl rfl hK kk
theorem gf_X3_13 {k : KT} {μ : MT} {Z : ZT} {pc : Nat} {lv : List (Nat × Value)} {rest : List Value} {S : HS} {cells slots a : Nat} (hy : μ.2.1.cls = RX3) (hd : decode μ.2.2.1 pc = .ok (.getfield 13, 3)) (hK : gK S a = 5) (kk : X k μ Z (pc + 3) lv (.int (gI S 129 a) :: rest) S cells slots) : X k μ Z pc lv (.ref a :: rest) S cells slots := x_get 4 1 hd rfl (by decide) (by decide) rfl inlX3 (by rw [hy]; exact tw_13_10) (Or.inl rfl) hK kk
theorem pf_X3_13 {k : KT} {μ : MT} {Z : ZT} {pc : Nat} {lv : List (Nat × Value)} {rest : List Value} {S : HS} {cells slots a : Nat} {v : Int32} (hy : μ.2.1.cls = RX3) (hnm : μ.2.1.name = "<init>") (hd : decode μ.2.2.1 pc = .ok (.putfield 13, 3)) (hK : gK S a = 5) (kk : X k μ Z (pc + 3) lv rest (uI S 129 a v) cells slots) : X k μ Z pc lv (.int v :: .ref a :: rest) S cells slots := x_putI 4 1 tyX3 hd rfl (by decide) (by decide) rfl inlX3 tyX3_ok nmX3 (by rw [hy]; exact tw_13_10) (Or.inl rfl) (Or.inr ⟨rfl, hnm, hy.symm⟩) (tyX3_ok 1 (by decide)) rfl rfl hK kk
theorem gf_X3_16 {k : KT} {μ : MT} {Z : ZT} {pc : Nat} {lv : List (Nat × Value)} {rest : List Value} {S : HS} {cells slots a : Nat} (hy : μ.2.1.cls = RX3) (hd : decode μ.2.2.1 pc = .ok (.getfield 16, 3)) (hK : gK S a = 5) (kk : X k μ Z (pc + 3) lv (.int (gI S 130 a) :: rest) S cells slots) : X k μ Z pc lv (.ref a :: rest) S cells slots := x_get 4 2 hd rfl (by decide) (by decide) rfl inlX3 (by rw [hy]; exact tw_13_11) (Or.inl rfl) hK kk
theorem pf_X3_16 {k : KT} {μ : MT} {Z : ZT} {pc : Nat} {lv : List (Nat × Value)} {rest : List Value} {S : HS} {cells slots a : Nat} {v : Int32} (hy : μ.2.1.cls = RX3) (hnm : μ.2.1.name = "<init>") (hd : decode μ.2.2.1 pc = .ok (.putfield 16, 3)) (hK : gK S a = 5) (kk : X k μ Z (pc + 3) lv rest (uI S 130 a v) cells slots) : X k μ Z pc lv (.int v :: .ref a :: rest) S cells slots := x_putI 4 2 tyX3 hd rfl (by decide) (by decide) rfl inlX3 tyX3_ok nmX3 (by rw [hy]; exact tw_13_11) (Or.inl rfl) (Or.inr ⟨rfl, hnm, hy.symm⟩) (tyX3_ok 2 (by decide)) rfl rfl hK kk
theorem gf_X3_19 {k : KT} {μ : MT} {Z : ZT} {pc : Nat} {lv : List (Nat × Value)} {rest : List Value} {S : HS} {cells slots a : Nat} (hy : μ.2.1.cls = RX3) (hd : decode μ.2.2.1 pc = .ok (.getfield 19, 3)) (hK : gK S a = 5) (kk : X k μ Z (pc + 3) lv (.int (gI S 131 a) :: rest) S cells slots) : X k μ Z pc lv (.ref a :: rest) S cells slots := x_get 4 3 hd rfl (by decide) (by decide) rfl inlX3 (by rw [hy]; exact tw_13_12) (Or.inl rfl) hK kk
theorem pf_X3_19 {k : KT} {μ : MT} {Z : ZT} {pc : Nat} {lv : List (Nat × Value)} {rest : List Value} {S : HS} {cells slots a : Nat} {v : Int32} (hy : μ.2.1.cls = RX3) (hnm : μ.2.1.name = "<init>") (hd : decode μ.2.2.1 pc = .ok (.putfield 19, 3)) (hK : gK S a = 5) (kk : X k μ Z (pc + 3) lv rest (uI S 131 a v) cells slots) : X k μ Z pc lv (.int v :: .ref a :: rest) S cells slots := x_putI 4 3 tyX3 hd rfl (by decide) (by decide) rfl inlX3 tyX3_ok nmX3 (by rw [hy]; exact tw_13_12) (Or.inl rfl) (Or.inr ⟨rfl, hnm, hy.symm⟩) (tyX3_ok 3 (by decide)) rfl rfl hK kk
theorem gf_X3_22 {k : KT} {μ : MT} {Z : ZT} {pc : Nat} {lv : List (Nat × Value)} {rest : List Value} {S : HS} {cells slots a : Nat} (hy : μ.2.1.cls = RX3) (hd : decode μ.2.2.1 pc = .ok (.getfield 22, 3)) (hK : gK S a = 5) (kk : X k μ Z (pc + 3) lv (.int (gI S 132 a) :: rest) S cells slots) : X k μ Z pc lv (.ref a :: rest) S cells slots := x_get 4 4 hd rfl (by decide) (by decide) rfl inlX3 (by rw [hy]; exact tw_13_13) (Or.inl rfl) hK kk
theorem pf_X3_22 {k : KT} {μ : MT} {Z : ZT} {pc : Nat} {lv : List (Nat × Value)} {rest : List Value} {S : HS} {cells slots a : Nat} {v : Int32} (hy : μ.2.1.cls = RX3) (hnm : μ.2.1.name = "<init>") (hd : decode μ.2.2.1 pc = .ok (.putfield 22, 3)) (hK : gK S a = 5) (kk : X k μ Z (pc + 3) lv rest (uI S 132 a v) cells slots) : X k μ Z pc lv (.int v :: .ref a :: rest) S cells slots := x_putI 4 4 tyX3 hd rfl (by decide) (by decide) rfl inlX3 tyX3_ok nmX3 (by rw [hy]; exact tw_13_13) (Or.inl rfl) (Or.inr ⟨rfl, hnm, hy.symm⟩) (tyX3_ok 4 (by decide)) rfl rfl hK kk
theorem gf_X6_110 {k : KT} {μ : MT} {Z : ZT} {pc : Nat} {lv : List (Nat × Value)} {rest : List Value} {S : HS} {cells slots a : Nat} (hy : μ.2.1.cls = RX6) (hd : decode μ.2.2.1 pc = .ok (.getfield 110, 3)) (hK : gK S a = 3) (kk : X k μ Z (pc + 3) lv (va_rf (gP S 64 a) :: rest) S cells slots) : X k μ Z pc lv (.ref a :: rest) S cells slots := x_get 2 0 hd rfl (by decide) (by decide) rfl inlX1 (by rw [hy]; exact tw_13_18) (Or.inl rfl) hK kk
theorem gf_X6_143 {k : KT} {μ : MT} {Z : ZT} {pc : Nat} {lv : List (Nat × Value)} {rest : List Value} {S : HS} {cells slots a : Nat} (hy : μ.2.1.cls = RX6) (hd : decode μ.2.2.1 pc = .ok (.getfield 143, 3)) (hK : gK S a = 3) (kk : X k μ Z (pc + 3) lv (.int (gI S 67 a) :: rest) S cells slots) : X k μ Z pc lv (.ref a :: rest) S cells slots := x_get 2 3 hd rfl (by decide) (by decide) rfl inlX1 (by rw [hy]; exact tw_13_19) (Or.inl rfl) hK kk
theorem pf_X6_143 {k : KT} {μ : MT} {Z : ZT} {pc : Nat} {lv : List (Nat × Value)} {rest : List Value} {S : HS} {cells slots a : Nat} {v : Int32} (hy : μ.2.1.cls = RX6) (hd : decode μ.2.2.1 pc = .ok (.putfield 143, 3)) (hv : v = 0 ∨ v = 1) (hK : gK S a = 3) (kk : X k μ Z (pc + 3) lv rest (uI S 67 a v) cells slots) : X k μ Z pc lv (.int v :: .ref a :: rest) S cells slots := x_putI 2 3 tyX1 hd rfl (by decide) (by decide) rfl inlX1 tyX1_ok nmX1 (by rw [hy]; exact tw_13_19) (Or.inl rfl) (Or.inl rfl) (tyX1_ok 3 (by decide)) (by rcases hv with rfl | rfl <;> decide) (by rcases hv with rfl | rfl <;> decide) hK kk
theorem gf_X7_92 {k : KT} {μ : MT} {Z : ZT} {pc : Nat} {lv : List (Nat × Value)} {rest : List Value} {S : HS} {cells slots a : Nat} (hy : μ.2.1.cls = RX7) (hd : decode μ.2.2.1 pc = .ok (.getfield 92, 3)) (hK : gK S a = 9) (kk : X k μ Z (pc + 3) lv (.int (gI S 262 a) :: rest) S cells slots) : X k μ Z pc lv (.ref a :: rest) S cells slots := x_get 8 6 hd rfl (by decide) (by decide) rfl inlX7 (by rw [hy]; exact tw_14_23) (Or.inl rfl) hK kk
theorem pf_X7_92 {k : KT} {μ : MT} {Z : ZT} {pc : Nat} {lv : List (Nat × Value)} {rest : List Value} {S : HS} {cells slots a : Nat} {v : Int32} (hy : μ.2.1.cls = RX7) (hd : decode μ.2.2.1 pc = .ok (.putfield 92, 3)) (hK : gK S a = 9) (kk : X k μ Z (pc + 3) lv rest (uI S 262 a v) cells slots) : X k μ Z pc lv (.int v :: .ref a :: rest) S cells slots := x_putI 8 6 tyX7 hd rfl (by decide) (by decide) rfl inlX7 tyX7_ok nmX7 (by rw [hy]; exact tw_14_23) (Or.inl rfl) (Or.inl rfl) (tyX7_ok 6 (by decide)) rfl rfl hK kk
theorem gf_X6_119 {k : KT} {μ : MT} {Z : ZT} {pc : Nat} {lv : List (Nat × Value)} {rest : List Value} {S : HS} {cells slots a : Nat} (hy : μ.2.1.cls = RX6) (hd : decode μ.2.2.1 pc = .ok (.getfield 119, 3)) (hK : gK S a = 5) (kk : X k μ Z (pc + 3) lv (.int (gI S 128 a) :: rest) S cells slots) : X k μ Z pc lv (.ref a :: rest) S cells slots := x_get 4 0 hd rfl (by decide) (by decide) rfl inlX3 (by rw [hy]; exact tw_16_23) (Or.inl rfl) hK kk
theorem gf_X6_122 {k : KT} {μ : MT} {Z : ZT} {pc : Nat} {lv : List (Nat × Value)} {rest : List Value} {S : HS} {cells slots a : Nat} (hy : μ.2.1.cls = RX6) (hd : decode μ.2.2.1 pc = .ok (.getfield 122, 3)) (hK : gK S a = 5) (kk : X k μ Z (pc + 3) lv (.int (gI S 129 a) :: rest) S cells slots) : X k μ Z pc lv (.ref a :: rest) S cells slots := x_get 4 1 hd rfl (by decide) (by decide) rfl inlX3 (by rw [hy]; exact tw_17_0) (Or.inl rfl) hK kk
theorem gf_X6_125 {k : KT} {μ : MT} {Z : ZT} {pc : Nat} {lv : List (Nat × Value)} {rest : List Value} {S : HS} {cells slots a : Nat} (hy : μ.2.1.cls = RX6) (hd : decode μ.2.2.1 pc = .ok (.getfield 125, 3)) (hK : gK S a = 5) (kk : X k μ Z (pc + 3) lv (.int (gI S 130 a) :: rest) S cells slots) : X k μ Z pc lv (.ref a :: rest) S cells slots := x_get 4 2 hd rfl (by decide) (by decide) rfl inlX3 (by rw [hy]; exact tw_17_1) (Or.inl rfl) hK kk
theorem gf_X6_128 {k : KT} {μ : MT} {Z : ZT} {pc : Nat} {lv : List (Nat × Value)} {rest : List Value} {S : HS} {cells slots a : Nat} (hy : μ.2.1.cls = RX6) (hd : decode μ.2.2.1 pc = .ok (.getfield 128, 3)) (hK : gK S a = 5) (kk : X k μ Z (pc + 3) lv (.int (gI S 131 a) :: rest) S cells slots) : X k μ Z pc lv (.ref a :: rest) S cells slots := x_get 4 3 hd rfl (by decide) (by decide) rfl inlX3 (by rw [hy]; exact tw_17_2) (Or.inl rfl) hK kk
theorem gf_X6_131 {k : KT} {μ : MT} {Z : ZT} {pc : Nat} {lv : List (Nat × Value)} {rest : List Value} {S : HS} {cells slots a : Nat} (hy : μ.2.1.cls = RX6) (hd : decode μ.2.2.1 pc = .ok (.getfield 131, 3)) (hK : gK S a = 5) (kk : X k μ Z (pc + 3) lv (.int (gI S 132 a) :: rest) S cells slots) : X k μ Z pc lv (.ref a :: rest) S cells slots := x_get 4 4 hd rfl (by decide) (by decide) rfl inlX3 (by rw [hy]; exact tw_17_3) (Or.inl rfl) hK kk
theorem gf_X6_137 {k : KT} {μ : MT} {Z : ZT} {pc : Nat} {lv : List (Nat × Value)} {rest : List Value} {S : HS} {cells slots a : Nat} (hy : μ.2.1.cls = RX6) (hd : decode μ.2.2.1 pc = .ok (.getfield 137, 3)) (hK : gK S a = 8) (kk : X k μ Z (pc + 3) lv (.int (gI S 230 a) :: rest) S cells slots) : X k μ Z pc lv (.ref a :: rest) S cells slots := x_get 7 6 hd rfl (by decide) (by decide) rfl inlX6 (by rw [hy]; exact tw_17_12) (Or.inl rfl) hK kk
theorem pf_X6_137 {k : KT} {μ : MT} {Z : ZT} {pc : Nat} {lv : List (Nat × Value)} {rest : List Value} {S : HS} {cells slots a : Nat} {v : Int32} (hy : μ.2.1.cls = RX6) (hd : decode μ.2.2.1 pc = .ok (.putfield 137, 3)) (hK : gK S a = 8) (kk : X k μ Z (pc + 3) lv rest (uI S 230 a v) cells slots) : X k μ Z pc lv (.int v :: .ref a :: rest) S cells slots := x_putI 7 6 tyX6 hd rfl (by decide) (by decide) rfl inlX6 tyX6_ok nmX6 (by rw [hy]; exact tw_17_12) (Or.inl rfl) (Or.inl rfl) (tyX6_ok 6 (by decide)) rfl rfl hK kk
theorem gf_X6_140 {k : KT} {μ : MT} {Z : ZT} {pc : Nat} {lv : List (Nat × Value)} {rest : List Value} {S : HS} {cells slots a : Nat} (hy : μ.2.1.cls = RX6) (hd : decode μ.2.2.1 pc = .ok (.getfield 140, 3)) (hK : gK S a = 8) (kk : X k μ Z (pc + 3) lv (.int (gI S 231 a) :: rest) S cells slots) : X k μ Z pc lv (.ref a :: rest) S cells slots := x_get 7 7 hd rfl (by decide) (by decide) rfl inlX6 (by rw [hy]; exact tw_17_13) (Or.inl rfl) hK kk
theorem pf_X6_140 {k : KT} {μ : MT} {Z : ZT} {pc : Nat} {lv : List (Nat × Value)} {rest : List Value} {S : HS} {cells slots a : Nat} {v : Int32} (hy : μ.2.1.cls = RX6) (hd : decode μ.2.2.1 pc = .ok (.putfield 140, 3)) (hK : gK S a = 8) (kk : X k μ Z (pc + 3) lv rest (uI S 231 a v) cells slots) : X k μ Z pc lv (.int v :: .ref a :: rest) S cells slots := x_putI 7 7 tyX6 hd rfl (by decide) (by decide) rfl inlX6 tyX6_ok nmX6 (by rw [hy]; exact tw_17_13) (Or.inl rfl) (Or.inl rfl) (tyX6_ok 7 (by decide)) rfl rfl hK kk
theorem gf_X7_124 {k : KT} {μ : MT} {Z : ZT} {pc : Nat} {lv : List (Nat × Value)} {rest : List Value} {S : HS} {cells slots a : Nat} (hy : μ.2.1.cls = RX7) (hd : decode μ.2.2.1 pc = .ok (.getfield 124, 3)) (hK : gK S a = 9) (kk : X k μ Z (pc + 3) lv (.int (gI S 266 a) :: rest) S cells slots) : X k μ Z pc lv (.ref a :: rest) S cells slots := x_get 8 10 hd rfl (by decide) (by decide) rfl inlX7 (by rw [hy]; exact tw_17_21) (Or.inl rfl) hK kk
theorem pf_X7_124 {k : KT} {μ : MT} {Z : ZT} {pc : Nat} {lv : List (Nat × Value)} {rest : List Value} {S : HS} {cells slots a : Nat} {v : Int32} (hy : μ.2.1.cls = RX7) (hd : decode μ.2.2.1 pc = .ok (.putfield 124, 3)) (hK : gK S a = 9) (kk : X k μ Z (pc + 3) lv rest (uI S 266 a v) cells slots) : X k μ Z pc lv (.int v :: .ref a :: rest) S cells slots := x_putI 8 10 tyX7 hd rfl (by decide) (by decide) rfl inlX7 tyX7_ok nmX7 (by rw [hy]; exact tw_17_21) (Or.inl rfl) (Or.inl rfl) (tyX7_ok 10 (by decide)) rfl rfl hK kk
theorem gf_X7_127 {k : KT} {μ : MT} {Z : ZT} {pc : Nat} {lv : List (Nat × Value)} {rest : List Value} {S : HS} {cells slots a : Nat} (hy : μ.2.1.cls = RX7) (hd : decode μ.2.2.1 pc = .ok (.getfield 127, 3)) (hK : gK S a = 9) (kk : X k μ Z (pc + 3) lv (.int (gI S 267 a) :: rest) S cells slots) : X k μ Z pc lv (.ref a :: rest) S cells slots := x_get 8 11 hd rfl (by decide) (by decide) rfl inlX7 (by rw [hy]; exact tw_17_22) (Or.inl rfl) hK kk
theorem pf_X7_127 {k : KT} {μ : MT} {Z : ZT} {pc : Nat} {lv : List (Nat × Value)} {rest : List Value} {S : HS} {cells slots a : Nat} {v : Int32} (hy : μ.2.1.cls = RX7) (hd : decode μ.2.2.1 pc = .ok (.putfield 127, 3)) (hK : gK S a = 9) (kk : X k μ Z (pc + 3) lv rest (uI S 267 a v) cells slots) : X k μ Z pc lv (.int v :: .ref a :: rest) S cells slots := x_putI 8 11 tyX7 hd rfl (by decide) (by decide) rfl inlX7 tyX7_ok nmX7 (by rw [hy]; exact tw_17_22) (Or.inl rfl) (Or.inl rfl) (tyX7_ok 11 (by decide)) rfl rfl hK kk
theorem gf_X6_156 {k : KT} {μ : MT} {Z : ZT} {pc : Nat} {lv : List (Nat × Value)} {rest : List Value} {S : HS} {cells slots a : Nat} (hy : μ.2.1.cls = RX6) (hd : decode μ.2.2.1 pc = .ok (.getfield 156, 3)) (hK : gK S a = 3) (kk : X k μ Z (pc + 3) lv (va_rf (gP S 65 a) :: rest) S cells slots) : X k μ Z pc lv (.ref a :: rest) S cells slots := x_get 2 1 hd rfl (by decide) (by decide) rfl inlX1 (by rw [hy]; exact tw_19_7) (Or.inl rfl) hK kk
theorem gf_X6_169 {k : KT} {μ : MT} {Z : ZT} {pc : Nat} {lv : List (Nat × Value)} {rest : List Value} {S : HS} {cells slots a : Nat} (hy : μ.2.1.cls = RX6) (hd : decode μ.2.2.1 pc = .ok (.getfield 169, 3)) (hK : gK S a = 4) (kk : X k μ Z (pc + 3) lv (.int (gI S 102 a) :: rest) S cells slots) : X k μ Z pc lv (.ref a :: rest) S cells slots := x_get 3 6 hd rfl (by decide) (by decide) rfl inlX2 (by rw [hy]; exact tw_19_11) (Or.inl rfl) hK kk
theorem pf_X6_169 {k : KT} {μ : MT} {Z : ZT} {pc : Nat} {lv : List (Nat × Value)} {rest : List Value} {S : HS} {cells slots a : Nat} {v : Int32} (hy : μ.2.1.cls = RX6) (hd : decode μ.2.2.1 pc = .ok (.putfield 169, 3)) (hK : gK S a = 4) (kk : X k μ Z (pc + 3) lv rest (uI S 102 a v) cells slots) : X k μ Z pc lv (.int v :: .ref a :: rest) S cells slots := x_putI 3 6 tyX2 hd rfl (by decide) (by decide) rfl inlX2 tyX2_ok nmX2 (by rw [hy]; exact tw_19_11) (Or.inl rfl) (Or.inl rfl) (tyX2_ok 6 (by decide)) rfl rfl hK kk
theorem gf_X2_9 {k : KT} {μ : MT} {Z : ZT} {pc : Nat} {lv : List (Nat × Value)} {rest : List Value} {S : HS} {cells slots a : Nat} (hy : μ.2.1.cls = RX2) (hd : decode μ.2.2.1 pc = .ok (.getfield 9, 3)) (hK : gK S a = 4) (kk : X k μ Z (pc + 3) lv (.int (gI S 96 a) :: rest) S cells slots) : X k μ Z pc lv (.ref a :: rest) S cells slots := x_get 3 0 hd rfl (by decide) (by decide) rfl inlX2 (by rw [hy]; exact tw_19_16) (Or.inl rfl) hK kk
theorem pf_X2_9 {k : KT} {μ : MT} {Z : ZT} {pc : Nat} {lv : List (Nat × Value)} {rest : List Value} {S : HS} {cells slots a : Nat} {v : Int32} (hy : μ.2.1.cls = RX2) (hnm : μ.2.1.name = "<init>") (hd : decode μ.2.2.1 pc = .ok (.putfield 9, 3)) (hK : gK S a = 4) (kk : X k μ Z (pc + 3) lv rest (uI S 96 a v) cells slots) : X k μ Z pc lv (.int v :: .ref a :: rest) S cells slots := x_putI 3 0 tyX2 hd rfl (by decide) (by decide) rfl inlX2 tyX2_ok nmX2 (by rw [hy]; exact tw_19_16) (Or.inl rfl) (Or.inr ⟨rfl, hnm, hy.symm⟩) (tyX2_ok 0 (by decide)) rfl rfl hK kk
theorem gf_X2_15 {k : KT} {μ : MT} {Z : ZT} {pc : Nat} {lv : List (Nat × Value)} {rest : List Value} {S : HS} {cells slots a : Nat} (hy : μ.2.1.cls = RX2) (hd : decode μ.2.2.1 pc = .ok (.getfield 15, 3)) (hK : gK S a = 4) (kk : X k μ Z (pc + 3) lv (.int (gI S 97 a) :: rest) S cells slots) : X k μ Z pc lv (.ref a :: rest) S cells slots := x_get 3 1 hd rfl (by decide) (by decide) rfl inlX2 (by rw [hy]; exact tw_19_17) (Or.inl rfl) hK kk
theorem pf_X2_15 {k : KT} {μ : MT} {Z : ZT} {pc : Nat} {lv : List (Nat × Value)} {rest : List Value} {S : HS} {cells slots a : Nat} {v : Int32} (hy : μ.2.1.cls = RX2) (hnm : μ.2.1.name = "<init>") (hd : decode μ.2.2.1 pc = .ok (.putfield 15, 3)) (hK : gK S a = 4) (kk : X k μ Z (pc + 3) lv rest (uI S 97 a v) cells slots) : X k μ Z pc lv (.int v :: .ref a :: rest) S cells slots := x_putI 3 1 tyX2 hd rfl (by decide) (by decide) rfl inlX2 tyX2_ok nmX2 (by rw [hy]; exact tw_19_17) (Or.inl rfl) (Or.inr ⟨rfl, hnm, hy.symm⟩) (tyX2_ok 1 (by decide)) rfl rfl hK kk
theorem gf_X2_18 {k : KT} {μ : MT} {Z : ZT} {pc : Nat} {lv : List (Nat × Value)} {rest : List Value} {S : HS} {cells slots a : Nat} (hy : μ.2.1.cls = RX2) (hd : decode μ.2.2.1 pc = .ok (.getfield 18, 3)) (hK : gK S a = 4) (kk : X k μ Z (pc + 3) lv (.int (gI S 98 a) :: rest) S cells slots) : X k μ Z pc lv (.ref a :: rest) S cells slots := x_get 3 2 hd rfl (by decide) (by decide) rfl inlX2 (by rw [hy]; exact tw_19_18) (Or.inl rfl) hK kk
theorem pf_X2_18 {k : KT} {μ : MT} {Z : ZT} {pc : Nat} {lv : List (Nat × Value)} {rest : List Value} {S : HS} {cells slots a : Nat} {v : Int32} (hy : μ.2.1.cls = RX2) (hnm : μ.2.1.name = "<init>") (hd : decode μ.2.2.1 pc = .ok (.putfield 18, 3)) (hK : gK S a = 4) (kk : X k μ Z (pc + 3) lv rest (uI S 98 a v) cells slots) : X k μ Z pc lv (.int v :: .ref a :: rest) S cells slots := x_putI 3 2 tyX2 hd rfl (by decide) (by decide) rfl inlX2 tyX2_ok nmX2 (by rw [hy]; exact tw_19_18) (Or.inl rfl) (Or.inr ⟨rfl, hnm, hy.symm⟩) (tyX2_ok 2 (by decide)) rfl rfl hK kk
theorem gf_X2_21 {k : KT} {μ : MT} {Z : ZT} {pc : Nat} {lv : List (Nat × Value)} {rest : List Value} {S : HS} {cells slots a : Nat} (hy : μ.2.1.cls = RX2) (hd : decode μ.2.2.1 pc = .ok (.getfield 21, 3)) (hK : gK S a = 4) (kk : X k μ Z (pc + 3) lv (.int (gI S 99 a) :: rest) S cells slots) : X k μ Z pc lv (.ref a :: rest) S cells slots := x_get 3 3 hd rfl (by decide) (by decide) rfl inlX2 (by rw [hy]; exact tw_19_19) (Or.inl rfl) hK kk
theorem pf_X2_21 {k : KT} {μ : MT} {Z : ZT} {pc : Nat} {lv : List (Nat × Value)} {rest : List Value} {S : HS} {cells slots a : Nat} {v : Int32} (hy : μ.2.1.cls = RX2) (hnm : μ.2.1.name = "<init>") (hd : decode μ.2.2.1 pc = .ok (.putfield 21, 3)) (hK : gK S a = 4) (kk : X k μ Z (pc + 3) lv rest (uI S 99 a v) cells slots) : X k μ Z pc lv (.int v :: .ref a :: rest) S cells slots := x_putI 3 3 tyX2 hd rfl (by decide) (by decide) rfl inlX2 tyX2_ok nmX2 (by rw [hy]; exact tw_19_19) (Or.inl rfl) (Or.inr ⟨rfl, hnm, hy.symm⟩) (tyX2_ok 3 (by decide)) rfl rfl hK kk
theorem gf_X2_24 {k : KT} {μ : MT} {Z : ZT} {pc : Nat} {lv : List (Nat × Value)} {rest : List Value} {S : HS} {cells slots a : Nat} (hy : μ.2.1.cls = RX2) (hd : decode μ.2.2.1 pc = .ok (.getfield 24, 3)) (hK : gK S a = 4) (kk : X k μ Z (pc + 3) lv (.int (gI S 100 a) :: rest) S cells slots) : X k μ Z pc lv (.ref a :: rest) S cells slots := x_get 3 4 hd rfl (by decide) (by decide) rfl inlX2 (by rw [hy]; exact tw_19_20) (Or.inl rfl) hK kk
theorem pf_X2_24 {k : KT} {μ : MT} {Z : ZT} {pc : Nat} {lv : List (Nat × Value)} {rest : List Value} {S : HS} {cells slots a : Nat} {v : Int32} (hy : μ.2.1.cls = RX2) (hnm : μ.2.1.name = "<init>") (hd : decode μ.2.2.1 pc = .ok (.putfield 24, 3)) (hK : gK S a = 4) (kk : X k μ Z (pc + 3) lv rest (uI S 100 a v) cells slots) : X k μ Z pc lv (.int v :: .ref a :: rest) S cells slots := x_putI 3 4 tyX2 hd rfl (by decide) (by decide) rfl inlX2 tyX2_ok nmX2 (by rw [hy]; exact tw_19_20) (Or.inl rfl) (Or.inr ⟨rfl, hnm, hy.symm⟩) (tyX2_ok 4 (by decide)) rfl rfl hK kk
theorem gf_X2_27 {k : KT} {μ : MT} {Z : ZT} {pc : Nat} {lv : List (Nat × Value)} {rest : List Value} {S : HS} {cells slots a : Nat} (hy : μ.2.1.cls = RX2) (hd : decode μ.2.2.1 pc = .ok (.getfield 27, 3)) (hK : gK S a = 4) (kk : X k μ Z (pc + 3) lv (.int (gI S 101 a) :: rest) S cells slots) : X k μ Z pc lv (.ref a :: rest) S cells slots := x_get 3 5 hd rfl (by decide) (by decide) rfl inlX2 (by rw [hy]; exact tw_19_21) (Or.inl rfl) hK kk
theorem pf_X2_27 {k : KT} {μ : MT} {Z : ZT} {pc : Nat} {lv : List (Nat × Value)} {rest : List Value} {S : HS} {cells slots a : Nat} {v : Int32} (hy : μ.2.1.cls = RX2) (hnm : μ.2.1.name = "<init>") (hd : decode μ.2.2.1 pc = .ok (.putfield 27, 3)) (hK : gK S a = 4) (kk : X k μ Z (pc + 3) lv rest (uI S 101 a v) cells slots) : X k μ Z pc lv (.int v :: .ref a :: rest) S cells slots := x_putI 3 5 tyX2 hd rfl (by decide) (by decide) rfl inlX2 tyX2_ok nmX2 (by rw [hy]; exact tw_19_21) (Or.inl rfl) (Or.inr ⟨rfl, hnm, hy.symm⟩) (tyX2_ok 5 (by decide)) rfl rfl hK kk
theorem gf_X6_290 {k : KT} {μ : MT} {Z : ZT} {pc : Nat} {lv : List (Nat × Value)} {rest : List Value} {S : HS} {cells slots a : Nat} (hy : μ.2.1.cls = RX6) (hd : decode μ.2.2.1 pc = .ok (.getfield 290, 3)) (hK : gK S a = 6) (kk : X k μ Z (pc + 3) lv (.int (gI S 162 a) :: rest) S cells slots) : X k μ Z pc lv (.ref a :: rest) S cells slots := x_get 5 2 hd rfl (by decide) (by decide) rfl inlX4 (by rw [hy]; exact tw_20_23) (Or.inl rfl) hK kk
theorem pf_X6_290 {k : KT} {μ : MT} {Z : ZT} {pc : Nat} {lv : List (Nat × Value)} {rest : List Value} {S : HS} {cells slots a : Nat} {v : Int32} (hy : μ.2.1.cls = RX6) (hd : decode μ.2.2.1 pc = .ok (.putfield 290, 3)) (hK : gK S a = 6) (kk : X k μ Z (pc + 3) lv rest (uI S 162 a v) cells slots) : X k μ Z pc lv (.int v :: .ref a :: rest) S cells slots := x_putI 5 2 tyX4 hd rfl (by decide) (by decide) rfl inlX4 tyX4_ok nmX4 (by rw [hy]; exact tw_20_23) (Or.inl rfl) (Or.inl rfl) (tyX4_ok 2 (by decide)) rfl rfl hK kk
theorem gf_X6_297 {k : KT} {μ : MT} {Z : ZT} {pc : Nat} {lv : List (Nat × Value)} {rest : List Value} {S : HS} {cells slots a : Nat} (hy : μ.2.1.cls = RX6) (hd : decode μ.2.2.1 pc = .ok (.getfield 297, 3)) (hK : gK S a = 6) (kk : X k μ Z (pc + 3) lv (va_rf (gP S 161 a) :: rest) S cells slots) : X k μ Z pc lv (.ref a :: rest) S cells slots := x_get 5 1 hd rfl (by decide) (by decide) rfl inlX4 (by rw [hy]; exact tw_21_0) (Or.inl rfl) hK kk
theorem gf_X6_193 {k : KT} {μ : MT} {Z : ZT} {pc : Nat} {lv : List (Nat × Value)} {rest : List Value} {S : HS} {cells slots a : Nat} (hy : μ.2.1.cls = RX6) (hd : decode μ.2.2.1 pc = .ok (.getfield 193, 3)) (hK : gK S a = 4) (kk : X k μ Z (pc + 3) lv (.int (gI S 103 a) :: rest) S cells slots) : X k μ Z pc lv (.ref a :: rest) S cells slots := x_get 3 7 hd rfl (by decide) (by decide) rfl inlX2 (by rw [hy]; exact tw_21_2) (Or.inl rfl) hK kk
theorem pf_X6_193 {k : KT} {μ : MT} {Z : ZT} {pc : Nat} {lv : List (Nat × Value)} {rest : List Value} {S : HS} {cells slots a : Nat} {v : Int32} (hy : μ.2.1.cls = RX6) (hd : decode μ.2.2.1 pc = .ok (.putfield 193, 3)) (hK : gK S a = 4) (kk : X k μ Z (pc + 3) lv rest (uI S 103 a v) cells slots) : X k μ Z pc lv (.int v :: .ref a :: rest) S cells slots := x_putI 3 7 tyX2 hd rfl (by decide) (by decide) rfl inlX2 tyX2_ok nmX2 (by rw [hy]; exact tw_21_2) (Or.inl rfl) (Or.inl rfl) (tyX2_ok 7 (by decide)) rfl rfl hK kk
theorem gf_X6_196 {k : KT} {μ : MT} {Z : ZT} {pc : Nat} {lv : List (Nat × Value)} {rest : List Value} {S : HS} {cells slots a : Nat} (hy : μ.2.1.cls = RX6) (hd : decode μ.2.2.1 pc = .ok (.getfield 196, 3)) (hK : gK S a = 3) (kk : X k μ Z (pc + 3) lv (.int (gI S 66 a) :: rest) S cells slots) : X k μ Z pc lv (.ref a :: rest) S cells slots := x_get 2 2 hd rfl (by decide) (by decide) rfl inlX1 (by rw [hy]; exact tw_21_3) (Or.inl rfl) hK kk
theorem pf_X6_196 {k : KT} {μ : MT} {Z : ZT} {pc : Nat} {lv : List (Nat × Value)} {rest : List Value} {S : HS} {cells slots a : Nat} {v : Int32} (hy : μ.2.1.cls = RX6) (hd : decode μ.2.2.1 pc = .ok (.putfield 196, 3)) (hK : gK S a = 3) (kk : X k μ Z (pc + 3) lv rest (uI S 66 a v) cells slots) : X k μ Z pc lv (.int v :: .ref a :: rest) S cells slots := x_putI 2 2 tyX1 hd rfl (by decide) (by decide) rfl inlX1 tyX1_ok nmX1 (by rw [hy]; exact tw_21_3) (Or.inl rfl) (Or.inl rfl) (tyX1_ok 2 (by decide)) rfl rfl hK kk
theorem gf_X6_308 {k : KT} {μ : MT} {Z : ZT} {pc : Nat} {lv : List (Nat × Value)} {rest : List Value} {S : HS} {cells slots a : Nat} (hy : μ.2.1.cls = RX6) (hd : decode μ.2.2.1 pc = .ok (.getfield 308, 3)) (hK : gK S a = 6) (kk : X k μ Z (pc + 3) lv (va_rf (gP S 160 a) :: rest) S cells slots) : X k μ Z pc lv (.ref a :: rest) S cells slots := x_get 5 0 hd rfl (by decide) (by decide) rfl inlX4 (by rw [hy]; exact tw_21_7) (Or.inl rfl) hK kk
theorem gf_X4_24 {k : KT} {μ : MT} {Z : ZT} {pc : Nat} {lv : List (Nat × Value)} {rest : List Value} {S : HS} {cells slots a : Nat} (hy : μ.2.1.cls = RX4) (hd : decode μ.2.2.1 pc = .ok (.getfield 24, 3)) (hK : gK S a = 6) (kk : X k μ Z (pc + 3) lv (.int (gI S 162 a) :: rest) S cells slots) : X k μ Z pc lv (.ref a :: rest) S cells slots := x_get 5 2 hd rfl (by decide) (by decide) rfl inlX4 (by rw [hy]; exact tw_21_13) (Or.inl rfl) hK kk
theorem pf_X4_24 {k : KT} {μ : MT} {Z : ZT} {pc : Nat} {lv : List (Nat × Value)} {rest : List Value} {S : HS} {cells slots a : Nat} {v : Int32} (hy : μ.2.1.cls = RX4) (hd : decode μ.2.2.1 pc = .ok (.putfield 24, 3)) (hK : gK S a = 6) (kk : X k μ Z (pc + 3) lv rest (uI S 162 a v) cells slots) : X k μ Z pc lv (.int v :: .ref a :: rest) S cells slots := x_putI 5 2 tyX4 hd rfl (by decide) (by decide) rfl inlX4 tyX4_ok nmX4 (by rw [hy]; exact tw_21_13) (Or.inl rfl) (Or.inl rfl) (tyX4_ok 2 (by decide)) rfl rfl hK kk
theorem gf_X2_30 {k : KT} {μ : MT} {Z : ZT} {pc : Nat} {lv : List (Nat × Value)} {rest : List Value} {S : HS} {cells slots a : Nat} (hy : μ.2.1.cls = RX2) (hd : decode μ.2.2.1 pc = .ok (.getfield 30, 3)) (hK : gK S a = 4) (kk : X k μ Z (pc + 3) lv (.int (gI S 102 a) :: rest) S cells slots) : X k μ Z pc lv (.ref a :: rest) S cells slots := x_get 3 6 hd rfl (by decide) (by decide) rfl inlX2 (by rw [hy]; exact tw_21_18) (Or.inl rfl) hK kk
theorem pf_X2_30 {k : KT} {μ : MT} {Z : ZT} {pc : Nat} {lv : List (Nat × Value)} {rest : List Value} {S : HS} {cells slots a : Nat} {v : Int32} (hy : μ.2.1.cls = RX2) (hd : decode μ.2.2.1 pc = .ok (.putfield 30, 3)) (hK : gK S a = 4) (kk : X k μ Z (pc + 3) lv rest (uI S 102 a v) cells slots) : X k μ Z pc lv (.int v :: .ref a :: rest) S cells slots := x_putI 3 6 tyX2 hd rfl (by decide) (by decide) rfl inlX2 tyX2_ok nmX2 (by rw [hy]; exact tw_21_18) (Or.inl rfl) (Or.inl rfl) (tyX2_ok 6 (by decide)) rfl rfl hK kk
theorem gf_X7_133 {k : KT} {μ : MT} {Z : ZT} {pc : Nat} {lv : List (Nat × Value)} {rest : List Value} {S : HS} {cells slots a : Nat} (hy : μ.2.1.cls = RX7) (hd : decode μ.2.2.1 pc = .ok (.getfield 133, 3)) (hK : gK S a = 9) (kk : X k μ Z (pc + 3) lv (.int (gI S 268 a) :: rest) S cells slots) : X k μ Z pc lv (.ref a :: rest) S cells slots := x_get 8 12 hd rfl (by decide) (by decide) rfl inlX7 (by rw [hy]; exact tw_22_13) (Or.inl rfl) hK kk
theorem pf_X7_133 {k : KT} {μ : MT} {Z : ZT} {pc : Nat} {lv : List (Nat × Value)} {rest : List Value} {S : HS} {cells slots a : Nat} {v : Int32} (hy : μ.2.1.cls = RX7) (hd : decode μ.2.2.1 pc = .ok (.putfield 133, 3)) (hK : gK S a = 9) (kk : X k μ Z (pc + 3) lv rest (uI S 268 a v) cells slots) : X k μ Z pc lv (.int v :: .ref a :: rest) S cells slots := x_putI 8 12 tyX7 hd rfl (by decide) (by decide) rfl inlX7 tyX7_ok nmX7 (by rw [hy]; exact tw_22_13) (Or.inl rfl) (Or.inl rfl) (tyX7_ok 12 (by decide)) rfl rfl hK kk
theorem gf_X6_180 {k : KT} {μ : MT} {Z : ZT} {pc : Nat} {lv : List (Nat × Value)} {rest : List Value} {S : HS} {cells slots a : Nat} (hy : μ.2.1.cls = RX6) (hd : decode μ.2.2.1 pc = .ok (.getfield 180, 3)) (hK : gK S a = 4) (kk : X k μ Z (pc + 3) lv (.int (gI S 104 a) :: rest) S cells slots) : X k μ Z pc lv (.ref a :: rest) S cells slots := x_get 3 8 hd rfl (by decide) (by decide) rfl inlX2 (by rw [hy]; exact tw_22_22) (Or.inl rfl) hK kk
theorem pf_X6_180 {k : KT} {μ : MT} {Z : ZT} {pc : Nat} {lv : List (Nat × Value)} {rest : List Value} {S : HS} {cells slots a : Nat} {v : Int32} (hy : μ.2.1.cls = RX6) (hd : decode μ.2.2.1 pc = .ok (.putfield 180, 3)) (hv : v = 0 ∨ v = 1) (hK : gK S a = 4) (kk : X k μ Z (pc + 3) lv rest (uI S 104 a v) cells slots) : X k μ Z pc lv (.int v :: .ref a :: rest) S cells slots := x_putI 3 8 tyX2 hd rfl (by decide) (by decide) rfl inlX2 tyX2_ok nmX2 (by rw [hy]; exact tw_22_22) (Or.inl rfl) (Or.inl rfl) (tyX2_ok 8 (by decide)) (by rcases hv with rfl | rfl <;> decide) (by rcases hv with rfl | rfl <;> decide) hK kk
theorem gf_X6_183 {k : KT} {μ : MT} {Z : ZT} {pc : Nat} {lv : List (Nat × Value)} {rest : List Value} {S : HS} {cells slots a : Nat} (hy : μ.2.1.cls = RX6) (hd : decode μ.2.2.1 pc = .ok (.getfield 183, 3)) (hK : gK S a = 4) (kk : X k μ Z (pc + 3) lv (.int (gI S 96 a) :: rest) S cells slots) : X k μ Z pc lv (.ref a :: rest) S cells slots := x_get 3 0 hd rfl (by decide) (by decide) rfl inlX2 (by rw [hy]; exact tw_22_23) (Or.inl rfl) hK kk
theorem gf_X7_154 {k : KT} {μ : MT} {Z : ZT} {pc : Nat} {lv : List (Nat × Value)} {rest : List Value} {S : HS} {cells slots a : Nat} (hy : μ.2.1.cls = RX7) (hd : decode μ.2.2.1 pc = .ok (.getfield 154, 3)) (hK : gK S a = 9) (kk : X k μ Z (pc + 3) lv (.int (gI S 281 a) :: rest) S cells slots) : X k μ Z pc lv (.ref a :: rest) S cells slots := x_get 8 25 hd rfl (by decide) (by decide) rfl inlX7 (by rw [hy]; exact tw_25_15) (Or.inl rfl) hK kk
theorem pf_X7_154 {k : KT} {μ : MT} {Z : ZT} {pc : Nat} {lv : List (Nat × Value)} {rest : List Value} {S : HS} {cells slots a : Nat} {v : Int32} (hy : μ.2.1.cls = RX7) (hd : decode μ.2.2.1 pc = .ok (.putfield 154, 3)) (hK : gK S a = 9) (kk : X k μ Z (pc + 3) lv rest (uI S 281 a v) cells slots) : X k μ Z pc lv (.int v :: .ref a :: rest) S cells slots := x_putI 8 25 tyX7 hd rfl (by decide) (by decide) rfl inlX7 tyX7_ok nmX7 (by rw [hy]; exact tw_25_15) (Or.inl rfl) (Or.inl rfl) (tyX7_ok 25 (by decide)) rfl rfl hK kk
theorem gf_X6_199 {k : KT} {μ : MT} {Z : ZT} {pc : Nat} {lv : List (Nat × Value)} {rest : List Value} {S : HS} {cells slots a : Nat} (hy : μ.2.1.cls = RX6) (hd : decode μ.2.2.1 pc = .ok (.getfield 199, 3)) (hK : gK S a = 4) (kk : X k μ Z (pc + 3) lv (.int (gI S 97 a) :: rest) S cells slots) : X k μ Z pc lv (.ref a :: rest) S cells slots := x_get 3 1 hd rfl (by decide) (by decide) rfl inlX2 (by rw [hy]; exact tw_26_12) (Or.inl rfl) hK kk
theorem gf_X6_202 {k : KT} {μ : MT} {Z : ZT} {pc : Nat} {lv : List (Nat × Value)} {rest : List Value} {S : HS} {cells slots a : Nat} (hy : μ.2.1.cls = RX6) (hd : decode μ.2.2.1 pc = .ok (.getfield 202, 3)) (hK : gK S a = 4) (kk : X k μ Z (pc + 3) lv (.int (gI S 98 a) :: rest) S cells slots) : X k μ Z pc lv (.ref a :: rest) S cells slots := x_get 3 2 hd rfl (by decide) (by decide) rfl inlX2 (by rw [hy]; exact tw_26_13) (Or.inl rfl) hK kk
theorem gf_X6_205 {k : KT} {μ : MT} {Z : ZT} {pc : Nat} {lv : List (Nat × Value)} {rest : List Value} {S : HS} {cells slots a : Nat} (hy : μ.2.1.cls = RX6) (hd : decode μ.2.2.1 pc = .ok (.getfield 205, 3)) (hK : gK S a = 4) (kk : X k μ Z (pc + 3) lv (.int (gI S 100 a) :: rest) S cells slots) : X k μ Z pc lv (.ref a :: rest) S cells slots := x_get 3 4 hd rfl (by decide) (by decide) rfl inlX2 (by rw [hy]; exact tw_26_14) (Or.inl rfl) hK kk
theorem gf_X6_208 {k : KT} {μ : MT} {Z : ZT} {pc : Nat} {lv : List (Nat × Value)} {rest : List Value} {S : HS} {cells slots a : Nat} (hy : μ.2.1.cls = RX6) (hd : decode μ.2.2.1 pc = .ok (.getfield 208, 3)) (hK : gK S a = 4) (kk : X k μ Z (pc + 3) lv (.int (gI S 101 a) :: rest) S cells slots) : X k μ Z pc lv (.ref a :: rest) S cells slots := x_get 3 5 hd rfl (by decide) (by decide) rfl inlX2 (by rw [hy]; exact tw_26_15) (Or.inl rfl) hK kk
theorem gf_X6_211 {k : KT} {μ : MT} {Z : ZT} {pc : Nat} {lv : List (Nat × Value)} {rest : List Value} {S : HS} {cells slots a : Nat} (hy : μ.2.1.cls = RX6) (hd : decode μ.2.2.1 pc = .ok (.getfield 211, 3)) (hK : gK S a = 8) (kk : X k μ Z (pc + 3) lv (.int (gI S 232 a) :: rest) S cells slots) : X k μ Z pc lv (.ref a :: rest) S cells slots := x_get 7 8 hd rfl (by decide) (by decide) rfl inlX6 (by rw [hy]; exact tw_27_8) (Or.inl rfl) hK kk
theorem pf_X6_211 {k : KT} {μ : MT} {Z : ZT} {pc : Nat} {lv : List (Nat × Value)} {rest : List Value} {S : HS} {cells slots a : Nat} {v : Int32} (hy : μ.2.1.cls = RX6) (hd : decode μ.2.2.1 pc = .ok (.putfield 211, 3)) (hK : gK S a = 8) (kk : X k μ Z (pc + 3) lv rest (uI S 232 a v) cells slots) : X k μ Z pc lv (.int v :: .ref a :: rest) S cells slots := x_putI 7 8 tyX6 hd rfl (by decide) (by decide) rfl inlX6 tyX6_ok nmX6 (by rw [hy]; exact tw_27_8) (Or.inl rfl) (Or.inl rfl) (tyX6_ok 8 (by decide)) rfl rfl hK kk
theorem gf_X6_214 {k : KT} {μ : MT} {Z : ZT} {pc : Nat} {lv : List (Nat × Value)} {rest : List Value} {S : HS} {cells slots a : Nat} (hy : μ.2.1.cls = RX6) (hd : decode μ.2.2.1 pc = .ok (.getfield 214, 3)) (hK : gK S a = 3) (kk : X k μ Z (pc + 3) lv (.int (gI S 68 a) :: rest) S cells slots) : X k μ Z pc lv (.ref a :: rest) S cells slots := x_get 2 4 hd rfl (by decide) (by decide) rfl inlX1 (by rw [hy]; exact tw_27_9) (Or.inl rfl) hK kk
theorem pf_X6_214 {k : KT} {μ : MT} {Z : ZT} {pc : Nat} {lv : List (Nat × Value)} {rest : List Value} {S : HS} {cells slots a : Nat} {v : Int32} (hy : μ.2.1.cls = RX6) (hd : decode μ.2.2.1 pc = .ok (.putfield 214, 3)) (hK : gK S a = 3) (kk : X k μ Z (pc + 3) lv rest (uI S 68 a v) cells slots) : X k μ Z pc lv (.int v :: .ref a :: rest) S cells slots := x_putI 2 4 tyX1 hd rfl (by decide) (by decide) rfl inlX1 tyX1_ok nmX1 (by rw [hy]; exact tw_27_9) (Or.inl rfl) (Or.inl rfl) (tyX1_ok 4 (by decide)) rfl rfl hK kk
theorem gf_X7_167 {k : KT} {μ : MT} {Z : ZT} {pc : Nat} {lv : List (Nat × Value)} {rest : List Value} {S : HS} {cells slots a : Nat} (hy : μ.2.1.cls = RX7) (hd : decode μ.2.2.1 pc = .ok (.getfield 167, 3)) (hK : gK S a = 9) (kk : X k μ Z (pc + 3) lv (.int (gI S 277 a) :: rest) S cells slots) : X k μ Z pc lv (.ref a :: rest) S cells slots := x_get 8 21 hd rfl (by decide) (by decide) rfl inlX7 (by rw [hy]; exact tw_27_14) (Or.inl rfl) hK kk
theorem pf_X7_167 {k : KT} {μ : MT} {Z : ZT} {pc : Nat} {lv : List (Nat × Value)} {rest : List Value} {S : HS} {cells slots a : Nat} {v : Int32} (hy : μ.2.1.cls = RX7) (hd : decode μ.2.2.1 pc = .ok (.putfield 167, 3)) (hK : gK S a = 9) (kk : X k μ Z (pc + 3) lv rest (uI S 277 a v) cells slots) : X k μ Z pc lv (.int v :: .ref a :: rest) S cells slots := x_putI 8 21 tyX7 hd rfl (by decide) (by decide) rfl inlX7 tyX7_ok nmX7 (by rw [hy]; exact tw_27_14) (Or.inl rfl) (Or.inl rfl) (tyX7_ok 21 (by decide)) rfl rfl hK kk
theorem nw_L_7 {k : KT} {μ : MT} {Z : ZT} {pc : Nat} {lv : List (Nat × Value)} {rest : List Value} {S : HS} {cells slots : Nat} (hy : μ.2.1.cls = RL) (hd : decode μ.2.2.1 pc = .ok (.new 7, 3)) (hce : cells + 1 ≤ μ.1.cells) (hsl : slots + 9 ≤ μ.1.slots) (kk : X k μ Z (pc + 3) lv (.ref (gN S) :: rest) (nO S 7) (cells + 1) (slots + 9)) : X k μ Z pc lv rest S cells slots := x_new 7 tyX6 hd rfl (by decide) inlX6 tyX6_ok (by rw [hy]; exact tw_1_0) tw_1_1 tw_1_2 (by decide +kernel) hce hsl kk
theorem nw_L_18 {k : KT} {μ : MT} {Z : ZT} {pc : Nat} {lv : List (Nat × Value)} {rest : List Value} {S : HS} {cells slots : Nat} (hy : μ.2.1.cls = RL) (hd : decode μ.2.2.1 pc = .ok (.new 18, 3)) (hce : cells + 1 ≤ μ.1.cells) (hsl : slots + 26 ≤ μ.1.slots) (kk : X k μ Z (pc + 3) lv (.ref (gN S) :: rest) (nO S 8) (cells + 1) (slots + 26)) : X k μ Z pc lv rest S cells slots := x_new 8 tyX7 hd rfl (by decide) inlX7 tyX7_ok (by rw [hy]; exact tw_1_3) tw_1_4 tw_1_5 (by decide +kernel) hce hsl kk
theorem nw_X6_9 {k : KT} {μ : MT} {Z : ZT} {pc : Nat} {lv : List (Nat × Value)} {rest : List Value} {S : HS} {cells slots : Nat} (hy : μ.2.1.cls = RX6) (hd : decode μ.2.2.1 pc = .ok (.new 9, 3)) (hce : cells + 1 ≤ μ.1.cells) (hsl : slots + 3 ≤ μ.1.slots) (kk : X k μ Z (pc + 3) lv (.ref (gN S) :: rest) (nO S 0) (cells + 1) (slots + 3)) : X k μ Z pc lv rest S cells slots := x_new 0 tyJx4a65c hd rfl (by decide) inlJx4a65c tyJx4a65c_ok (by rw [hy]; exact tw_1_16) tw_1_17 tw_1_18 (by decide +kernel) hce hsl kk
theorem nw_X6_19 {k : KT} {μ : MT} {Z : ZT} {pc : Nat} {lv : List (Nat × Value)} {rest : List Value} {S : HS} {cells slots : Nat} (hy : μ.2.1.cls = RX6) (hd : decode μ.2.2.1 pc = .ok (.new 19, 3)) (hce : cells + 1 ≤ μ.1.cells) (hsl : slots + 3 ≤ μ.1.slots) (kk : X k μ Z (pc + 3) lv (.ref (gN S) :: rest) (nO S 5) (cells + 1) (slots + 3)) : X k μ Z pc lv rest S cells slots := x_new 5 tyX4 hd rfl (by decide) inlX4 tyX4_ok (by rw [hy]; exact tw_1_21) tw_1_22 tw_1_23 (by decide +kernel) hce hsl kk
theorem nw_X6_34 {k : KT} {μ : MT} {Z : ZT} {pc : Nat} {lv : List (Nat × Value)} {rest : List Value} {S : HS} {cells slots : Nat} (hy : μ.2.1.cls = RX6) (hd : decode μ.2.2.1 pc = .ok (.new 34, 3)) (hce : cells + 1 ≤ μ.1.cells) (hsl : slots + 5 ≤ μ.1.slots) (kk : X k μ Z (pc + 3) lv (.ref (gN S) :: rest) (nO S 2) (cells + 1) (slots + 5)) : X k μ Z pc lv rest S cells slots := x_new 2 tyX1 hd rfl (by decide) inlX1 tyX1_ok (by rw [hy]; exact tw_2_2) tw_2_4 tw_2_5 (by decide +kernel) hce hsl kk
theorem nw_X1_7 {k : KT} {μ : MT} {Z : ZT} {pc : Nat} {lv : List (Nat × Value)} {rest : List Value} {S : HS} {cells slots : Nat} (hy : μ.2.1.cls = RX1) (hd : decode μ.2.2.1 pc = .ok (.new 7, 3)) (hce : cells + 1 ≤ μ.1.cells) (hsl : slots + 3 ≤ μ.1.slots) (kk : X k μ Z (pc + 3) lv (.ref (gN S) :: rest) (nO S 0) (cells + 1) (slots + 3)) : X k μ Z pc lv rest S cells slots := x_new 0 tyJx4a65c hd rfl (by decide) inlJx4a65c tyJx4a65c_ok (by rw [hy]; exact tw_3_10) tw_1_17 tw_1_18 (by decide +kernel) hce hsl kk
theorem nw_X6_61 {k : KT} {μ : MT} {Z : ZT} {pc : Nat} {lv : List (Nat × Value)} {rest : List Value} {S : HS} {cells slots : Nat} (hy : μ.2.1.cls = RX6) (hd : decode μ.2.2.1 pc = .ok (.new 61, 3)) (hce : cells + 1 ≤ μ.1.cells) (hsl : slots + 2 ≤ μ.1.slots) (kk : X k μ Z (pc + 3) lv (.ref (gN S) :: rest) (nO S 1) (cells + 1) (slots + 2)) : X k μ Z pc lv rest S cells slots := x_new 1 tyX0 hd rfl (by decide) inlX0 tyX0_ok (by rw [hy]; exact tw_6_17) tw_6_18 tw_6_19 (by decide +kernel) hce hsl kk
theorem nw_X6_77 {k : KT} {μ : MT} {Z : ZT} {pc : Nat} {lv : List (Nat × Value)} {rest : List Value} {S : HS} {cells slots : Nat} (hy : μ.2.1.cls = RX6) (hd : decode μ.2.2.1 pc = .ok (.new 77, 3)) (hce : cells + 1 ≤ μ.1.cells) (hsl : slots + 5 ≤ μ.1.slots) (kk : X k μ Z (pc + 3) lv (.ref (gN S) :: rest) (nO S 6) (cells + 1) (slots + 5)) : X k μ Z pc lv rest S cells slots := x_new 6 tyX5 hd rfl (by decide) inlX5 tyX5_ok (by rw [hy]; exact tw_10_1) tw_10_2 tw_10_3 (by decide +kernel) hce hsl kk
theorem nw_X6_117 {k : KT} {μ : MT} {Z : ZT} {pc : Nat} {lv : List (Nat × Value)} {rest : List Value} {S : HS} {cells slots : Nat} (hy : μ.2.1.cls = RX6) (hd : decode μ.2.2.1 pc = .ok (.new 117, 3)) (hce : cells + 1 ≤ μ.1.cells) (hsl : slots + 5 ≤ μ.1.slots) (kk : X k μ Z (pc + 3) lv (.ref (gN S) :: rest) (nO S 4) (cells + 1) (slots + 5)) : X k μ Z pc lv rest S cells slots := x_new 4 tyX3 hd rfl (by decide) inlX3 tyX3_ok (by rw [hy]; exact tw_12_20) tw_12_21 tw_12_22 (by decide +kernel) hce hsl kk
theorem nw_X6_160 {k : KT} {μ : MT} {Z : ZT} {pc : Nat} {lv : List (Nat × Value)} {rest : List Value} {S : HS} {cells slots : Nat} (hy : μ.2.1.cls = RX6) (hd : decode μ.2.2.1 pc = .ok (.new 160, 3)) (hce : cells + 1 ≤ μ.1.cells) (hsl : slots + 9 ≤ μ.1.slots) (kk : X k μ Z (pc + 3) lv (.ref (gN S) :: rest) (nO S 3) (cells + 1) (slots + 9)) : X k μ Z pc lv rest S cells slots := x_new 3 tyX2 hd rfl (by decide) inlX2 tyX2_ok (by rw [hy]; exact tw_19_8) tw_19_9 tw_19_10 (by decide +kernel) hce hsl kk
theorem cc_X6_61 {k : KT} {μ : MT} {Z : ZT} {pc : Nat} {lv : List (Nat × Value)} {rest : List Value} {S : HS} {cells slots a : Nat} (hy : μ.2.1.cls = RX6) (hd : decode μ.2.2.1 pc = .ok (.checkcast 61, 3)) (hK : gK S a = 2) (kk : X k μ Z (pc + 3) lv (.ref a :: rest) S cells slots) : X k μ Z pc lv (.ref a :: rest) S cells slots := x_cast (q := (RX0, TX0, 2)) 1 hd rfl (by decide) (by rw [hy]; exact tw_6_17) hK kk
theorem cc_X6_117 {k : KT} {μ : MT} {Z : ZT} {pc : Nat} {lv : List (Nat × Value)} {rest : List Value} {S : HS} {cells slots a : Nat} (hy : μ.2.1.cls = RX6) (hd : decode μ.2.2.1 pc = .ok (.checkcast 117, 3)) (hK : gK S a = 5) (kk : X k μ Z (pc + 3) lv (.ref a :: rest) S cells slots) : X k μ Z pc lv (.ref a :: rest) S cells slots := x_cast (q := (RX3, TX3, 5)) 4 hd rfl (by decide) (by rw [hy]; exact tw_12_20) hK kk
theorem cc_X6_160 {k : KT} {μ : MT} {Z : ZT} {pc : Nat} {lv : List (Nat × Value)} {rest : List Value} {S : HS} {cells slots a : Nat} (hy : μ.2.1.cls = RX6) (hd : decode μ.2.2.1 pc = .ok (.checkcast 160, 3)) (hK : gK S a = 4) (kk : X k μ Z (pc + 3) lv (.ref a :: rest) S cells slots) : X k μ Z pc lv (.ref a :: rest) S cells slots := x_cast (q := (RX2, TX2, 9)) 3 hd rfl (by decide) (by rw [hy]; exact tw_19_8) hK kk
theorem ca_L_9 {k : KT} {μ : MT} {Z : ZT} {Q : Option Value → HS → Prop} {pc : Nat} {lv : List (Nat × Value)} {st : List Value} {S : HS} {cells slots : Nat} {R : Room} (As rest : List Value) (hC : Ct k (mt_L_cell R) As S Q) (hy : μ.2.1.cls = RL) (hd : decode μ.2.2.1 pc = .ok (.invokestatic 9, 3)) (hst : st = As.reverse ++ rest) (hn : As.length = 2) (hrm : okR (mt_L_cell R) μ cells slots rest) (kk : ∀ v S', Q v S' → X k μ Z (pc + 3) lv (v.toList ++ rest) S' (cells + R.cells) (slots + R.slots)) : X k μ Z pc lv st S cells slots := x_static (mt_L_cell R) As rest hd hst hC (by rw [hy]; exact tw_1_6) tw_1_7 tw_1_8 tw_1_9 (by rw [hn]; exact (by decide +kernel : okN yL_cell 2)) hrm kk
theorem ca_L_15 {k : KT} {μ : MT} {Z : ZT} {Q : Option Value → HS → Prop} {pc : Nat} {lv : List (Nat × Value)} {st : List Value} {S : HS} {cells slots : Nat} {R : Room} {b : Nat} (As rest : List Value) (hC : Ct k (mt_X6_init R) (.ref b :: As) S Q) (hy : μ.2.1.cls = RL) (hd : decode μ.2.2.1 pc = .ok (.invokespecial 15, 3)) (hst : st = As.reverse ++ .ref b :: rest) (hn : As.length = 1) (hrm : okR (mt_X6_init R) μ cells slots rest) (kk : ∀ v S', Q v S' → X k μ Z (pc + 3) lv (v.toList ++ rest) S' (cells + R.cells) (slots + R.slots)) : X k μ Z pc lv st S cells slots := x_special (mt_X6_init R) As rest hd hst hC rfl rfl (by rw [hy]; exact tw_1_10) tw_1_11 tw_1_2 tw_1_12 (by rw [hn]; exact (by decide +kernel : okN yX6_init 1)) hrm kk
theorem ca_X6_11 {k : KT} {μ : MT} {Z : ZT} {Q : Option Value → HS → Prop} {pc : Nat} {lv : List (Nat × Value)} {st : List Value} {S : HS} {cells slots : Nat} {R : Room} {b : Nat} (As rest : List Value) (hC : Ct k (mt_Jx4a65c_init_da8c8 R) (.ref b :: As) S Q) (hy : μ.2.1.cls = RX6) (hd : decode μ.2.2.1 pc = .ok (.invokespecial 11, 3)) (hst : st = As.reverse ++ .ref b :: rest) (hn : As.length = 0) (hrm : okR (mt_Jx4a65c_init_da8c8 R) μ cells slots rest) (kk : ∀ v S', Q v S' → X k μ Z (pc + 3) lv (v.toList ++ rest) S' (cells + R.cells) (slots + R.slots)) : X k μ Z pc lv st S cells slots := x_special (mt_Jx4a65c_init_da8c8 R) As rest hd hst hC rfl rfl (by rw [hy]; exact tw_2_6) tw_2_7 tw_1_18 tw_2_8 (by rw [hn]; exact (by decide +kernel : okN yJx4a65c_init_da8c8 0)) hrm kk
theorem ca_Jx4a65c_1 {k : KT} {μ : MT} {Z : ZT} {Q : Option Value → HS → Prop} {pc : Nat} {lv : List (Nat × Value)} {st : List Value} {S : HS} {cells slots : Nat} {R : Room} {b : Nat} (As rest : List Value) (hC : Ct k (mt_Jxc12de_init_da8c8 R) (.ref b :: As) S Q) (hy : μ.2.1.cls = RJx4a65c) (hd : decode μ.2.2.1 pc = .ok (.invokespecial 1, 3)) (hst : st = As.reverse ++ .ref b :: rest) (hn : As.length = 0) (hrm : okR (mt_Jxc12de_init_da8c8 R) μ cells slots rest) (kk : ∀ v S', Q v S' → X k μ Z (pc + 3) lv (v.toList ++ rest) S' (cells + R.cells) (slots + R.slots)) : X k μ Z pc lv st S cells slots := x_special (mt_Jxc12de_init_da8c8 R) As rest hd hst hC rfl rfl (by rw [hy]; exact tw_2_11) tw_2_12 tw_2_13 tw_2_14 (by rw [hn]; exact (by decide +kernel : okN yJxc12de_init_da8c8 0)) hrm kk
theorem ca_Jxc12de_1 {k : KT} {μ : MT} {Z : ZT} {Q : Option Value → HS → Prop} {pc : Nat} {lv : List (Nat × Value)} {st : List Value} {S : HS} {cells slots : Nat} {R : Room} {b : Nat} (As rest : List Value) (hC : Ct k (mt_Jxa1e45_init_da8c8 R) (.ref b :: As) S Q) (hy : μ.2.1.cls = RJxc12de) (hd : decode μ.2.2.1 pc = .ok (.invokespecial 1, 3)) (hst : st = As.reverse ++ .ref b :: rest) (hn : As.length = 0) (hrm : okR (mt_Jxa1e45_init_da8c8 R) μ cells slots rest) (kk : ∀ v S', Q v S' → X k μ Z (pc + 3) lv (v.toList ++ rest) S' (cells + R.cells) (slots + R.slots)) : X k μ Z pc lv st S cells slots := x_special (mt_Jxa1e45_init_da8c8 R) As rest hd hst hC rfl rfl (by rw [hy]; exact tw_2_16) tw_2_17 tw_2_18 tw_2_19 (by rw [hn]; exact (by decide +kernel : okN yJxa1e45_init_da8c8 0)) hrm kk
theorem ca_X6_26 {k : KT} {μ : MT} {Z : ZT} {Q : Option Value → HS → Prop} {pc : Nat} {lv : List (Nat × Value)} {st : List Value} {S : HS} {cells slots : Nat} {R : Room} (As rest : List Value) (hC : Ct k (mt_X6_goreNumber R) As S Q) (hy : μ.2.1.cls = RX6) (hd : decode μ.2.2.1 pc = .ok (.invokestatic 26, 3)) (hst : st = As.reverse ++ rest) (hn : As.length = 1) (hrm : okR (mt_X6_goreNumber R) μ cells slots rest) (kk : ∀ v S', Q v S' → X k μ Z (pc + 3) lv (v.toList ++ rest) S' (cells + R.cells) (slots + R.slots)) : X k μ Z pc lv st S cells slots := x_static (mt_X6_goreNumber R) As rest hd hst hC (by rw [hy]; exact tw_3_3) tw_3_4 tw_1_2 tw_3_5 (by rw [hn]; exact (by decide +kernel : okN yX6_goreNumber 1)) hrm kk
theorem ca_X1_9 {k : KT} {μ : MT} {Z : ZT} {Q : Option Value → HS → Prop} {pc : Nat} {lv : List (Nat × Value)} {st : List Value} {S : HS} {cells slots : Nat} {R : Room} {b : Nat} (As rest : List Value) (hC : Ct k (mt_Jx4a65c_init_da8c8 R) (.ref b :: As) S Q) (hy : μ.2.1.cls = RX1) (hd : decode μ.2.2.1 pc = .ok (.invokespecial 9, 3)) (hst : st = As.reverse ++ .ref b :: rest) (hn : As.length = 0) (hrm : okR (mt_Jx4a65c_init_da8c8 R) μ cells slots rest) (kk : ∀ v S', Q v S' → X k μ Z (pc + 3) lv (v.toList ++ rest) S' (cells + R.cells) (slots + R.slots)) : X k μ Z pc lv st S cells slots := x_special (mt_Jx4a65c_init_da8c8 R) As rest hd hst hC rfl rfl (by rw [hy]; exact tw_3_14) tw_2_7 tw_1_18 tw_2_8 (by rw [hn]; exact (by decide +kernel : okN yJx4a65c_init_da8c8 0)) hrm kk
theorem ca_L_20 {k : KT} {μ : MT} {Z : ZT} {Q : Option Value → HS → Prop} {pc : Nat} {lv : List (Nat × Value)} {st : List Value} {S : HS} {cells slots : Nat} {R : Room} {b : Nat} (As rest : List Value) (hC : Ct k (mt_X7_init R) (.ref b :: As) S Q) (hy : μ.2.1.cls = RL) (hd : decode μ.2.2.1 pc = .ok (.invokespecial 20, 3)) (hst : st = As.reverse ++ .ref b :: rest) (hn : As.length = 1) (hrm : okR (mt_X7_init R) μ cells slots rest) (kk : ∀ v S', Q v S' → X k μ Z (pc + 3) lv (v.toList ++ rest) S' (cells + R.cells) (slots + R.slots)) : X k μ Z pc lv st S cells slots := x_special (mt_X7_init R) As rest hd hst hC rfl rfl (by rw [hy]; exact tw_3_15) tw_3_16 tw_1_5 tw_3_17 (by rw [hn]; exact (by decide +kernel : okN yX7_init 1)) hrm kk
theorem ca_L_21 {k : KT} {μ : MT} {Z : ZT} {Q : Option Value → HS → Prop} {pc : Nat} {lv : List (Nat × Value)} {st : List Value} {S : HS} {cells slots : Nat} {R : Room} {b : Nat} (As rest : List Value) (hC : Ct k (mt_X6_narrow R) (.ref b :: As) S Q) (hK : gK S b = 8) (hy : μ.2.1.cls = RL) (hd : decode μ.2.2.1 pc = .ok (.invokevirtual 21, 3)) (hst : st = As.reverse ++ .ref b :: rest) (hn : As.length = 1) (hrm : okR (mt_X6_narrow R) μ cells slots rest) (kk : ∀ v S', Q v S' → X k μ Z (pc + 3) lv (v.toList ++ rest) S' (cells + R.cells) (slots + R.slots)) : X k μ Z pc lv st S cells slots := x_virtual (q := (RX6, TX6, 9)) 7 (mt_X6_narrow R) As rest hd hst hC hK (by decide) rfl rfl (by rw [hy]; exact tw_4_15) tw_4_16 tw_4_17 tw_1_2 tw_4_18 (by rw [hn]; exact (by decide +kernel : okN yX6_narrow 1)) hrm kk
theorem ca_X6_41 {k : KT} {μ : MT} {Z : ZT} {Q : Option Value → HS → Prop} {pc : Nat} {lv : List (Nat × Value)} {st : List Value} {S : HS} {cells slots : Nat} {R : Room} (As rest : List Value) (hC : Ct k (mt_X6_isHeight R) As S Q) (hy : μ.2.1.cls = RX6) (hd : decode μ.2.2.1 pc = .ok (.invokestatic 41, 3)) (hst : st = As.reverse ++ rest) (hn : As.length = 1) (hrm : okR (mt_X6_isHeight R) μ cells slots rest) (kk : ∀ v S', Q v S' → X k μ Z (pc + 3) lv (v.toList ++ rest) S' (cells + R.cells) (slots + R.slots)) : X k μ Z pc lv st S cells slots := x_static (mt_X6_isHeight R) As rest hd hst hC (by rw [hy]; exact tw_4_19) tw_4_20 tw_1_2 tw_4_21 (by rw [hn]; exact (by decide +kernel : okN yX6_isHeight 1)) hrm kk
theorem ca_X6_45 {k : KT} {μ : MT} {Z : ZT} {Q : Option Value → HS → Prop} {pc : Nat} {lv : List (Nat × Value)} {st : List Value} {S : HS} {cells slots : Nat} {R : Room} (As rest : List Value) (hC : Ct k (mt_X6_narrowAt R) As S Q) (hy : μ.2.1.cls = RX6) (hd : decode μ.2.2.1 pc = .ok (.invokestatic 45, 3)) (hst : st = As.reverse ++ rest) (hn : As.length = 1) (hrm : okR (mt_X6_narrowAt R) μ cells slots rest) (kk : ∀ v S', Q v S' → X k μ Z (pc + 3) lv (v.toList ++ rest) S' (cells + R.cells) (slots + R.slots)) : X k μ Z pc lv st S cells slots := x_static (mt_X6_narrowAt R) As rest hd hst hC (by rw [hy]; exact tw_4_22) tw_4_23 tw_1_2 tw_5_0 (by rw [hn]; exact (by decide +kernel : okN yX6_narrowAt 1)) hrm kk
theorem ca_X6_238 {k : KT} {μ : MT} {Z : ZT} {Q : Option Value → HS → Prop} {pc : Nat} {lv : List (Nat × Value)} {st : List Value} {S : HS} {cells slots : Nat} {R : Room} (As rest : List Value) (hC : Ct k (mt_X6_cosOf R) As S Q) (hy : μ.2.1.cls = RX6) (hd : decode μ.2.2.1 pc = .ok (.invokestatic 238, 3)) (hst : st = As.reverse ++ rest) (hn : As.length = 1) (hrm : okR (mt_X6_cosOf R) μ cells slots rest) (kk : ∀ v S', Q v S' → X k μ Z (pc + 3) lv (v.toList ++ rest) S' (cells + R.cells) (slots + R.slots)) : X k μ Z pc lv st S cells slots := x_static (mt_X6_cosOf R) As rest hd hst hC (by rw [hy]; exact tw_5_5) tw_5_6 tw_1_2 tw_5_7 (by rw [hn]; exact (by decide +kernel : okN yX6_cosOf 1)) hrm kk
theorem ca_L_25 {k : KT} {μ : MT} {Z : ZT} {Q : Option Value → HS → Prop} {pc : Nat} {lv : List (Nat × Value)} {st : List Value} {S : HS} {cells slots : Nat} {R : Room} {b : Nat} (As rest : List Value) (hC : Ct k (mt_X7_narrow R) (.ref b :: As) S Q) (hK : gK S b = 9) (hy : μ.2.1.cls = RL) (hd : decode μ.2.2.1 pc = .ok (.invokevirtual 25, 3)) (hst : st = As.reverse ++ .ref b :: rest) (hn : As.length = 1) (hrm : okR (mt_X7_narrow R) μ cells slots rest) (kk : ∀ v S', Q v S' → X k μ Z (pc + 3) lv (v.toList ++ rest) S' (cells + R.cells) (slots + R.slots)) : X k μ Z pc lv st S cells slots := x_virtual (q := (RX7, TX7, 26)) 8 (mt_X7_narrow R) As rest hd hst hC hK (by decide) rfl rfl (by rw [hy]; exact tw_5_9) tw_5_10 tw_5_11 tw_1_5 tw_5_12 (by rw [hn]; exact (by decide +kernel : okN yX7_narrow 1)) hrm kk
theorem ca_X7_69 {k : KT} {μ : MT} {Z : ZT} {Q : Option Value → HS → Prop} {pc : Nat} {lv : List (Nat × Value)} {st : List Value} {S : HS} {cells slots : Nat} {R : Room} (As rest : List Value) (hC : Ct k (mt_X7_in R) As S Q) (hy : μ.2.1.cls = RX7) (hd : decode μ.2.2.1 pc = .ok (.invokestatic 69, 3)) (hst : st = As.reverse ++ rest) (hn : As.length = 3) (hrm : okR (mt_X7_in R) μ cells slots rest) (kk : ∀ v S', Q v S' → X k μ Z (pc + 3) lv (v.toList ++ rest) S' (cells + R.cells) (slots + R.slots)) : X k μ Z pc lv st S cells slots := x_static (mt_X7_in R) As rest hd hst hC (by rw [hy]; exact tw_5_13) tw_5_14 tw_1_5 tw_5_15 (by rw [hn]; exact (by decide +kernel : okN yX7_in 3)) hrm kk
theorem ca_X7_73 {k : KT} {μ : MT} {Z : ZT} {Q : Option Value → HS → Prop} {pc : Nat} {lv : List (Nat × Value)} {st : List Value} {S : HS} {cells slots : Nat} {R : Room} {b : Nat} (As rest : List Value) (hC : Ct k (mt_X7_narrowOf R) (.ref b :: As) S Q) (hK : gK S b = 9) (hy : μ.2.1.cls = RX7) (hd : decode μ.2.2.1 pc = .ok (.invokevirtual 73, 3)) (hst : st = As.reverse ++ .ref b :: rest) (hn : As.length = 1) (hrm : okR (mt_X7_narrowOf R) μ cells slots rest) (kk : ∀ v S', Q v S' → X k μ Z (pc + 3) lv (v.toList ++ rest) S' (cells + R.cells) (slots + R.slots)) : X k μ Z pc lv st S cells slots := x_virtual (q := (RX7, TX7, 26)) 8 (mt_X7_narrowOf R) As rest hd hst hC hK (by decide) rfl rfl (by rw [hy]; exact tw_5_16) tw_5_17 tw_5_18 tw_1_5 tw_5_19 (by rw [hn]; exact (by decide +kernel : okN yX7_narrowOf 1)) hrm kk
theorem ca_L_26 {k : KT} {μ : MT} {Z : ZT} {Q : Option Value → HS → Prop} {pc : Nat} {lv : List (Nat × Value)} {st : List Value} {S : HS} {cells slots : Nat} {R : Room} {b : Nat} (As rest : List Value) (hC : Ct k (mt_X6_across R) (.ref b :: As) S Q) (hK : gK S b = 8) (hy : μ.2.1.cls = RL) (hd : decode μ.2.2.1 pc = .ok (.invokevirtual 26, 3)) (hst : st = As.reverse ++ .ref b :: rest) (hn : As.length = 2) (hrm : okR (mt_X6_across R) μ cells slots rest) (kk : ∀ v S', Q v S' → X k μ Z (pc + 3) lv (v.toList ++ rest) S' (cells + R.cells) (slots + R.slots)) : X k μ Z pc lv st S cells slots := x_virtual (q := (RX6, TX6, 9)) 7 (mt_X6_across R) As rest hd hst hC hK (by decide) rfl rfl (by rw [hy]; exact tw_5_20) tw_5_21 tw_5_22 tw_1_2 tw_5_23 (by rw [hn]; exact (by decide +kernel : okN yX6_across 2)) hrm kk
theorem ca_X6_48 {k : KT} {μ : MT} {Z : ZT} {Q : Option Value → HS → Prop} {pc : Nat} {lv : List (Nat × Value)} {st : List Value} {S : HS} {cells slots : Nat} {R : Room} (As rest : List Value) (hC : Ct k (mt_X6_xOf R) As S Q) (hy : μ.2.1.cls = RX6) (hd : decode μ.2.2.1 pc = .ok (.invokestatic 48, 3)) (hst : st = As.reverse ++ rest) (hn : As.length = 2) (hrm : okR (mt_X6_xOf R) μ cells slots rest) (kk : ∀ v S', Q v S' → X k μ Z (pc + 3) lv (v.toList ++ rest) S' (cells + R.cells) (slots + R.slots)) : X k μ Z pc lv st S cells slots := x_static (mt_X6_xOf R) As rest hd hst hC (by rw [hy]; exact tw_6_1) tw_6_2 tw_1_2 tw_6_3 (by rw [hn]; exact (by decide +kernel : okN yX6_xOf 2)) hrm kk
theorem ca_L_30 {k : KT} {μ : MT} {Z : ZT} {Q : Option Value → HS → Prop} {pc : Nat} {lv : List (Nat × Value)} {st : List Value} {S : HS} {cells slots : Nat} {R : Room} {b : Nat} (As rest : List Value) (hC : Ct k (mt_X7_across R) (.ref b :: As) S Q) (hK : gK S b = 9) (hy : μ.2.1.cls = RL) (hd : decode μ.2.2.1 pc = .ok (.invokevirtual 30, 3)) (hst : st = As.reverse ++ .ref b :: rest) (hn : As.length = 2) (hrm : okR (mt_X7_across R) μ cells slots rest) (kk : ∀ v S', Q v S' → X k μ Z (pc + 3) lv (v.toList ++ rest) S' (cells + R.cells) (slots + R.slots)) : X k μ Z pc lv st S cells slots := x_virtual (q := (RX7, TX7, 26)) 8 (mt_X7_across R) As rest hd hst hC hK (by decide) rfl rfl (by rw [hy]; exact tw_6_4) tw_6_5 tw_6_6 tw_1_5 tw_6_7 (by rw [hn]; exact (by decide +kernel : okN yX7_across 2)) hrm kk
theorem ca_X7_77 {k : KT} {μ : MT} {Z : ZT} {Q : Option Value → HS → Prop} {pc : Nat} {lv : List (Nat × Value)} {st : List Value} {S : HS} {cells slots : Nat} {R : Room} {b : Nat} (As rest : List Value) (hC : Ct k (mt_X7_acrossOf R) (.ref b :: As) S Q) (hK : gK S b = 9) (hy : μ.2.1.cls = RX7) (hd : decode μ.2.2.1 pc = .ok (.invokevirtual 77, 3)) (hst : st = As.reverse ++ .ref b :: rest) (hn : As.length = 2) (hrm : okR (mt_X7_acrossOf R) μ cells slots rest) (kk : ∀ v S', Q v S' → X k μ Z (pc + 3) lv (v.toList ++ rest) S' (cells + R.cells) (slots + R.slots)) : X k μ Z pc lv st S cells slots := x_virtual (q := (RX7, TX7, 26)) 8 (mt_X7_acrossOf R) As rest hd hst hC hK (by decide) rfl rfl (by rw [hy]; exact tw_6_9) tw_6_10 tw_6_11 tw_1_5 tw_6_12 (by rw [hn]; exact (by decide +kernel : okN yX7_acrossOf 2)) hrm kk
theorem ca_L_31 {k : KT} {μ : MT} {Z : ZT} {Q : Option Value → HS → Prop} {pc : Nat} {lv : List (Nat × Value)} {st : List Value} {S : HS} {cells slots : Nat} {R : Room} {b : Nat} (As rest : List Value) (hC : Ct k (mt_X6_coast R) (.ref b :: As) S Q) (hK : gK S b = 8) (hy : μ.2.1.cls = RL) (hd : decode μ.2.2.1 pc = .ok (.invokevirtual 31, 3)) (hst : st = As.reverse ++ .ref b :: rest) (hn : As.length = 2) (hrm : okR (mt_X6_coast R) μ cells slots rest) (kk : ∀ v S', Q v S' → X k μ Z (pc + 3) lv (v.toList ++ rest) S' (cells + R.cells) (slots + R.slots)) : X k μ Z pc lv st S cells slots := x_virtual (q := (RX6, TX6, 9)) 7 (mt_X6_coast R) As rest hd hst hC hK (by decide) rfl rfl (by rw [hy]; exact tw_6_13) tw_6_14 tw_6_15 tw_1_2 tw_6_16 (by rw [hn]; exact (by decide +kernel : okN yX6_coast 2)) hrm kk
theorem ca_X6_53 {k : KT} {μ : MT} {Z : ZT} {Q : Option Value → HS → Prop} {pc : Nat} {lv : List (Nat × Value)} {st : List Value} {S : HS} {cells slots : Nat} {R : Room} (As rest : List Value) (hC : Ct k (mt_X6_isPlace R) As S Q) (hy : μ.2.1.cls = RX6) (hd : decode μ.2.2.1 pc = .ok (.invokestatic 53, 3)) (hst : st = As.reverse ++ rest) (hn : As.length = 2) (hrm : okR (mt_X6_isPlace R) μ cells slots rest) (kk : ∀ v S', Q v S' → X k μ Z (pc + 3) lv (v.toList ++ rest) S' (cells + R.cells) (slots + R.slots)) : X k μ Z pc lv st S cells slots := x_static (mt_X6_isPlace R) As rest hd hst hC (by rw [hy]; exact tw_6_20) tw_6_21 tw_1_2 tw_6_22 (by rw [hn]; exact (by decide +kernel : okN yX6_isPlace 2)) hrm kk
theorem ca_X6_57 {k : KT} {μ : MT} {Z : ZT} {Q : Option Value → HS → Prop} {pc : Nat} {lv : List (Nat × Value)} {st : List Value} {S : HS} {cells slots : Nat} {R : Room} {b : Nat} (As rest : List Value) (hC : Ct k (mt_Jx4a65c_size_8abf5 R) (.ref b :: As) S Q) (hK : gK S b = 1) (hy : μ.2.1.cls = RX6) (hd : decode μ.2.2.1 pc = .ok (.invokevirtual 57, 3)) (hst : st = As.reverse ++ .ref b :: rest) (hn : As.length = 0) (hrm : okR (mt_Jx4a65c_size_8abf5 R) μ cells slots rest) (kk : ∀ v S', Q v S' → X k μ Z (pc + 3) lv (v.toList ++ rest) S' (cells + R.cells) (slots + R.slots)) : X k μ Z pc lv st S cells slots := x_virtual (q := (RJx4a65c, TJx4a65c, 3)) 0 (mt_Jx4a65c_size_8abf5 R) As rest hd hst hC hK (by decide) rfl rfl (by rw [hy]; exact tw_6_23) tw_7_0 tw_7_1 tw_1_18 tw_7_2 (by rw [hn]; exact (by decide +kernel : okN yJx4a65c_size_8abf5 0)) hrm kk
theorem ca_X6_63 {k : KT} {μ : MT} {Z : ZT} {Q : Option Value → HS → Prop} {pc : Nat} {lv : List (Nat × Value)} {st : List Value} {S : HS} {cells slots : Nat} {R : Room} {b : Nat} (As rest : List Value) (hC : Ct k (mt_X0_init R) (.ref b :: As) S Q) (hy : μ.2.1.cls = RX6) (hd : decode μ.2.2.1 pc = .ok (.invokespecial 63, 3)) (hst : st = As.reverse ++ .ref b :: rest) (hn : As.length = 2) (hrm : okR (mt_X0_init R) μ cells slots rest) (kk : ∀ v S', Q v S' → X k μ Z (pc + 3) lv (v.toList ++ rest) S' (cells + R.cells) (slots + R.slots)) : X k μ Z pc lv st S cells slots := x_special (mt_X0_init R) As rest hd hst hC rfl rfl (by rw [hy]; exact tw_7_4) tw_7_5 tw_6_19 tw_7_6 (by rw [hn]; exact (by decide +kernel : okN yX0_init 2)) hrm kk
theorem ca_X6_66 {k : KT} {μ : MT} {Z : ZT} {Q : Option Value → HS → Prop} {pc : Nat} {lv : List (Nat × Value)} {st : List Value} {S : HS} {cells slots : Nat} {R : Room} {b : Nat} (As rest : List Value) (hC : Ct k (mt_Jx4a65c_add_9ea2d R) (.ref b :: As) S Q) (hK : gK S b = 1) (hy : μ.2.1.cls = RX6) (hd : decode μ.2.2.1 pc = .ok (.invokevirtual 66, 3)) (hst : st = As.reverse ++ .ref b :: rest) (hn : As.length = 1) (hrm : okR (mt_Jx4a65c_add_9ea2d R) μ cells slots rest) (kk : ∀ v S', Q v S' → X k μ Z (pc + 3) lv (v.toList ++ rest) S' (cells + R.cells) (slots + R.slots)) : X k μ Z pc lv st S cells slots := x_virtual (q := (RJx4a65c, TJx4a65c, 3)) 0 (mt_Jx4a65c_add_9ea2d R) As rest hd hst hC hK (by decide) rfl rfl (by rw [hy]; exact tw_7_10) tw_7_11 tw_7_12 tw_1_18 tw_7_13 (by rw [hn]; exact (by decide +kernel : okN yJx4a65c_add_9ea2d 1)) hrm kk
theorem ca_Jx4a65c_131 {k : KT} {μ : MT} {Z : ZT} {Q : Option Value → HS → Prop} {pc : Nat} {lv : List (Nat × Value)} {st : List Value} {S : HS} {cells slots : Nat} {R : Room} {b : Nat} (As rest : List Value) (hC : Ct k (mt_Jx4a65c_add_72be8 R) (.ref b :: As) S Q) (hK : gK S b = 1) (hy : μ.2.1.cls = RJx4a65c) (hd : decode μ.2.2.1 pc = .ok (.invokevirtual 131, 3)) (hst : st = As.reverse ++ .ref b :: rest) (hn : As.length = 3) (hrm : okR (mt_Jx4a65c_add_72be8 R) μ cells slots rest) (kk : ∀ v S', Q v S' → X k μ Z (pc + 3) lv (v.toList ++ rest) S' (cells + R.cells) (slots + R.slots)) : X k μ Z pc lv st S cells slots := x_virtual (q := (RJx4a65c, TJx4a65c, 3)) 0 (mt_Jx4a65c_add_72be8 R) As rest hd hst hC hK (by decide) rfl rfl (by rw [hy]; exact tw_7_16) tw_7_17 tw_7_18 tw_1_18 tw_7_19 (by rw [hn]; exact (by decide +kernel : okN yJx4a65c_add_72be8 3)) hrm kk
theorem ca_Jx4a65c_129 {k : KT} {μ : MT} {Z : ZT} {Q : Option Value → HS → Prop} {pc : Nat} {lv : List (Nat × Value)} {st : List Value} {S : HS} {cells slots : Nat} {R : Room} {b : Nat} (As rest : List Value) (hC : Ct k (mt_Jx4a65c_grow_d5877 R) (.ref b :: As) S Q) (hK : gK S b = 1) (hy : μ.2.1.cls = RJx4a65c) (hd : decode μ.2.2.1 pc = .ok (.invokevirtual 129, 3)) (hst : st = As.reverse ++ .ref b :: rest) (hn : As.length = 0) (hrm : okR (mt_Jx4a65c_grow_d5877 R) μ cells slots rest) (kk : ∀ v S', Q v S' → X k μ Z (pc + 3) lv (v.toList ++ rest) S' (cells + R.cells) (slots + R.slots)) : X k μ Z pc lv st S cells slots := x_virtual (q := (RJx4a65c, TJx4a65c, 3)) 0 (mt_Jx4a65c_grow_d5877 R) As rest hd hst hC hK (by decide) rfl rfl (by rw [hy]; exact tw_7_20) tw_7_21 tw_7_22 tw_1_18 tw_7_23 (by rw [hn]; exact (by decide +kernel : okN yJx4a65c_grow_d5877 0)) hrm kk
theorem ca_Jx4a65c_69 {k : KT} {μ : MT} {Z : ZT} {Q : Option Value → HS → Prop} {pc : Nat} {lv : List (Nat × Value)} {st : List Value} {S : HS} {cells slots : Nat} {R : Room} {b : Nat} (As rest : List Value) (hC : Ct k (mt_Jx4a65c_grow_92f84 R) (.ref b :: As) S Q) (hK : gK S b = 1) (hy : μ.2.1.cls = RJx4a65c) (hd : decode μ.2.2.1 pc = .ok (.invokevirtual 69, 3)) (hst : st = As.reverse ++ .ref b :: rest) (hn : As.length = 1) (hrm : okR (mt_Jx4a65c_grow_92f84 R) μ cells slots rest) (kk : ∀ v S', Q v S' → X k μ Z (pc + 3) lv (v.toList ++ rest) S' (cells + R.cells) (slots + R.slots)) : X k μ Z pc lv st S cells slots := x_virtual (q := (RJx4a65c, TJx4a65c, 3)) 0 (mt_Jx4a65c_grow_92f84 R) As rest hd hst hC hK (by decide) rfl rfl (by rw [hy]; exact tw_8_0) tw_8_1 tw_8_2 tw_1_18 tw_8_3 (by rw [hn]; exact (by decide +kernel : okN yJx4a65c_grow_92f84 1)) hrm kk
theorem ca_Jx4a65c_73 {k : KT} {μ : MT} {Z : ZT} {Q : Option Value → HS → Prop} {pc : Nat} {lv : List (Nat × Value)} {st : List Value} {S : HS} {cells slots : Nat} {R : Room} (As rest : List Value) (hC : Ct k (mt_J8_newLength_cabcc R) As S Q) (hy : μ.2.1.cls = RJx4a65c) (hd : decode μ.2.2.1 pc = .ok (.invokestatic 73, 3)) (hst : st = As.reverse ++ rest) (hn : As.length = 3) (hrm : okR (mt_J8_newLength_cabcc R) μ cells slots rest) (kk : ∀ v S', Q v S' → X k μ Z (pc + 3) lv (v.toList ++ rest) S' (cells + R.cells) (slots + R.slots)) : X k μ Z pc lv st S cells slots := x_static (mt_J8_newLength_cabcc R) As rest hd hst hC (by rw [hy]; exact tw_8_8) tw_8_9 tw_8_10 tw_8_11 (by rw [hn]; exact (by decide +kernel : okN yJ8_newLength_cabcc 3)) hrm kk
theorem ca_J8_201 {k : KT} {μ : MT} {Z : ZT} {Q : Option Value → HS → Prop} {pc : Nat} {lv : List (Nat × Value)} {st : List Value} {S : HS} {cells slots : Nat} {R : Room} (As rest : List Value) (hC : Ct k (mt_J8_hugeLength_7cf53 R) As S Q) (hy : μ.2.1.cls = RJ8) (hd : decode μ.2.2.1 pc = .ok (.invokestatic 201, 3)) (hst : st = As.reverse ++ rest) (hn : As.length = 2) (hrm : okR (mt_J8_hugeLength_7cf53 R) μ cells slots rest) (kk : ∀ v S', Q v S' → X k μ Z (pc + 3) lv (v.toList ++ rest) S' (cells + R.cells) (slots + R.slots)) : X k μ Z pc lv st S cells slots := x_static (mt_J8_hugeLength_7cf53 R) As rest hd hst hC (by rw [hy]; exact tw_8_14) tw_8_15 tw_8_10 tw_8_16 (by rw [hn]; exact (by decide +kernel : okN yJ8_hugeLength_7cf53 2)) hrm kk
theorem ca_Jx4a65c_66 {k : KT} {μ : MT} {Z : ZT} {Q : Option Value → HS → Prop} {pc : Nat} {lv : List (Nat × Value)} {st : List Value} {S : HS} {cells slots : Nat} {R : Room} (As rest : List Value) (hC : Ct k (mt_J7_copyOf_1904c R) As S Q) (hy : μ.2.1.cls = RJx4a65c) (hd : decode μ.2.2.1 pc = .ok (.invokestatic 66, 3)) (hst : st = As.reverse ++ rest) (hn : As.length = 2) (hrm : okR (mt_J7_copyOf_1904c R) μ cells slots rest) (kk : ∀ v S', Q v S' → X k μ Z (pc + 3) lv (v.toList ++ rest) S' (cells + R.cells) (slots + R.slots)) : X k μ Z pc lv st S cells slots := x_static (mt_J7_copyOf_1904c R) As rest hd hst hC (by rw [hy]; exact tw_8_17) tw_8_18 tw_8_19 tw_8_20 (by rw [hn]; exact (by decide +kernel : okN yJ7_copyOf_1904c 2)) hrm kk
theorem ca_J7_300 {k : KT} {μ : MT} {Z : ZT} {Q : Option Value → HS → Prop} {pc : Nat} {lv : List (Nat × Value)} {st : List Value} {S : HS} {cells slots : Nat} {R : Room} (As rest : List Value) (hC : Ct k (mt_J7_copyOf_6403c R) As S Q) (hy : μ.2.1.cls = RJ7) (hd : decode μ.2.2.1 pc = .ok (.invokestatic 300, 3)) (hst : st = As.reverse ++ rest) (hn : As.length = 3) (hrm : okR (mt_J7_copyOf_6403c R) μ cells slots rest) (kk : ∀ v S', Q v S' → X k μ Z (pc + 3) lv (v.toList ++ rest) S' (cells + R.cells) (slots + R.slots)) : X k μ Z pc lv st S cells slots := x_static (mt_J7_copyOf_6403c R) As rest hd hst hC (by rw [hy]; exact tw_9_1) tw_9_2 tw_8_19 tw_9_3 (by rw [hn]; exact (by decide +kernel : okN yJ7_copyOf_6403c 3)) hrm kk
theorem ca_L_34 {k : KT} {μ : MT} {Z : ZT} {Q : Option Value → HS → Prop} {pc : Nat} {lv : List (Nat × Value)} {st : List Value} {S : HS} {cells slots : Nat} {R : Room} {b : Nat} (As rest : List Value) (hC : Ct k (mt_X7_coast R) (.ref b :: As) S Q) (hK : gK S b = 9) (hy : μ.2.1.cls = RL) (hd : decode μ.2.2.1 pc = .ok (.invokevirtual 34, 3)) (hst : st = As.reverse ++ .ref b :: rest) (hn : As.length = 2) (hrm : okR (mt_X7_coast R) μ cells slots rest) (kk : ∀ v S', Q v S' → X k μ Z (pc + 3) lv (v.toList ++ rest) S' (cells + R.cells) (slots + R.slots)) : X k μ Z pc lv st S cells slots := x_virtual (q := (RX7, TX7, 26)) 8 (mt_X7_coast R) As rest hd hst hC hK (by decide) rfl rfl (by rw [hy]; exact tw_9_13) tw_9_14 tw_9_15 tw_1_5 tw_9_16 (by rw [hn]; exact (by decide +kernel : okN yX7_coast 2)) hrm kk
theorem ca_X7_82 {k : KT} {μ : MT} {Z : ZT} {Q : Option Value → HS → Prop} {pc : Nat} {lv : List (Nat × Value)} {st : List Value} {S : HS} {cells slots : Nat} {R : Room} (As rest : List Value) (hC : Ct k (mt_X7_isPlace R) As S Q) (hy : μ.2.1.cls = RX7) (hd : decode μ.2.2.1 pc = .ok (.invokestatic 82, 3)) (hst : st = As.reverse ++ rest) (hn : As.length = 2) (hrm : okR (mt_X7_isPlace R) μ cells slots rest) (kk : ∀ v S', Q v S' → X k μ Z (pc + 3) lv (v.toList ++ rest) S' (cells + R.cells) (slots + R.slots)) : X k μ Z pc lv st S cells slots := x_static (mt_X7_isPlace R) As rest hd hst hC (by rw [hy]; exact tw_9_18) tw_9_19 tw_1_5 tw_9_20 (by rw [hn]; exact (by decide +kernel : okN yX7_isPlace 2)) hrm kk
theorem ca_L_35 {k : KT} {μ : MT} {Z : ZT} {Q : Option Value → HS → Prop} {pc : Nat} {lv : List (Nat × Value)} {st : List Value} {S : HS} {cells slots : Nat} {R : Room} {b : Nat} (As rest : List Value) (hC : Ct k (mt_X6_to R) (.ref b :: As) S Q) (hK : gK S b = 8) (hy : μ.2.1.cls = RL) (hd : decode μ.2.2.1 pc = .ok (.invokevirtual 35, 3)) (hst : st = As.reverse ++ .ref b :: rest) (hn : As.length = 3) (hrm : okR (mt_X6_to R) μ cells slots rest) (kk : ∀ v S', Q v S' → X k μ Z (pc + 3) lv (v.toList ++ rest) S' (cells + R.cells) (slots + R.slots)) : X k μ Z pc lv st S cells slots := x_virtual (q := (RX6, TX6, 9)) 7 (mt_X6_to R) As rest hd hst hC hK (by decide) rfl rfl (by rw [hy]; exact tw_9_21) tw_9_22 tw_9_23 tw_1_2 tw_10_0 (by rw [hn]; exact (by decide +kernel : okN yX6_to 3)) hrm kk
theorem ca_X6_70 {k : KT} {μ : MT} {Z : ZT} {Q : Option Value → HS → Prop} {pc : Nat} {lv : List (Nat × Value)} {st : List Value} {S : HS} {cells slots : Nat} {R : Room} {b : Nat} (As rest : List Value) (hC : Ct k (mt_X6_coastOf R) (.ref b :: As) S Q) (hK : gK S b = 8) (hy : μ.2.1.cls = RX6) (hd : decode μ.2.2.1 pc = .ok (.invokevirtual 70, 3)) (hst : st = As.reverse ++ .ref b :: rest) (hn : As.length = 1) (hrm : okR (mt_X6_coastOf R) μ cells slots rest) (kk : ∀ v S', Q v S' → X k μ Z (pc + 3) lv (v.toList ++ rest) S' (cells + R.cells) (slots + R.slots)) : X k μ Z pc lv st S cells slots := x_virtual (q := (RX6, TX6, 9)) 7 (mt_X6_coastOf R) As rest hd hst hC hK (by decide) rfl rfl (by rw [hy]; exact tw_10_8) tw_10_9 tw_10_10 tw_1_2 tw_10_11 (by rw [hn]; exact (by decide +kernel : okN yX6_coastOf 1)) hrm kk
theorem ca_X6_113 {k : KT} {μ : MT} {Z : ZT} {Q : Option Value → HS → Prop} {pc : Nat} {lv : List (Nat × Value)} {st : List Value} {S : HS} {cells slots : Nat} {R : Room} {b : Nat} (As rest : List Value) (hC : Ct k (mt_Jx4a65c_get_915e3 R) (.ref b :: As) S Q) (hK : gK S b = 1) (hy : μ.2.1.cls = RX6) (hd : decode μ.2.2.1 pc = .ok (.invokevirtual 113, 3)) (hst : st = As.reverse ++ .ref b :: rest) (hn : As.length = 1) (hrm : okR (mt_Jx4a65c_get_915e3 R) μ cells slots rest) (kk : ∀ v S', Q v S' → X k μ Z (pc + 3) lv (v.toList ++ rest) S' (cells + R.cells) (slots + R.slots)) : X k μ Z pc lv st S cells slots := x_virtual (q := (RJx4a65c, TJx4a65c, 3)) 0 (mt_Jx4a65c_get_915e3 R) As rest hd hst hC hK (by decide) rfl rfl (by rw [hy]; exact tw_10_13) tw_10_14 tw_10_15 tw_1_18 tw_10_16 (by rw [hn]; exact (by decide +kernel : okN yJx4a65c_get_915e3 1)) hrm kk
theorem ca_Jx4a65c_118 {k : KT} {μ : MT} {Z : ZT} {Q : Option Value → HS → Prop} {pc : Nat} {lv : List (Nat × Value)} {st : List Value} {S : HS} {cells slots : Nat} {R : Room} (As rest : List Value) (hC : Ct k (mt_J15_checkIndex_7cf53 R) As S Q) (hy : μ.2.1.cls = RJx4a65c) (hd : decode μ.2.2.1 pc = .ok (.invokestatic 118, 3)) (hst : st = As.reverse ++ rest) (hn : As.length = 2) (hrm : okR (mt_J15_checkIndex_7cf53 R) μ cells slots rest) (kk : ∀ v S', Q v S' → X k μ Z (pc + 3) lv (v.toList ++ rest) S' (cells + R.cells) (slots + R.slots)) : X k μ Z pc lv st S cells slots := x_static (mt_J15_checkIndex_7cf53 R) As rest hd hst hC (by rw [hy]; exact tw_10_17) tw_10_18 tw_10_19 tw_10_20 (by rw [hn]; exact (by decide +kernel : okN yJ15_checkIndex_7cf53 2)) hrm kk
theorem ca_J15_105 {k : KT} {μ : MT} {Z : ZT} {Q : Option Value → HS → Prop} {pc : Nat} {lv : List (Nat × Value)} {st : List Value} {S : HS} {cells slots : Nat} {R : Room} (As rest : List Value) (hC : Ct k (mt_J3_checkIndex_8e157 R) As S Q) (hy : μ.2.1.cls = RJ15) (hd : decode μ.2.2.1 pc = .ok (.invokestatic 105, 3)) (hst : st = As.reverse ++ rest) (hn : As.length = 3) (hrm : okR (mt_J3_checkIndex_8e157 R) μ cells slots rest) (kk : ∀ v S', Q v S' → X k μ Z (pc + 3) lv (v.toList ++ rest) S' (cells + R.cells) (slots + R.slots)) : X k μ Z pc lv st S cells slots := x_static (mt_J3_checkIndex_8e157 R) As rest hd hst hC (by rw [hy]; exact tw_10_21) tw_10_22 tw_10_23 tw_11_0 (by rw [hn]; exact (by decide +kernel : okN yJ3_checkIndex_8e157 3)) hrm kk
theorem ca_Jx4a65c_123 {k : KT} {μ : MT} {Z : ZT} {Q : Option Value → HS → Prop} {pc : Nat} {lv : List (Nat × Value)} {st : List Value} {S : HS} {cells slots : Nat} {R : Room} {b : Nat} (As rest : List Value) (hC : Ct k (mt_Jx4a65c_elementData_915e3 R) (.ref b :: As) S Q) (hK : gK S b = 1) (hy : μ.2.1.cls = RJx4a65c) (hd : decode μ.2.2.1 pc = .ok (.invokevirtual 123, 3)) (hst : st = As.reverse ++ .ref b :: rest) (hn : As.length = 1) (hrm : okR (mt_Jx4a65c_elementData_915e3 R) μ cells slots rest) (kk : ∀ v S', Q v S' → X k μ Z (pc + 3) lv (v.toList ++ rest) S' (cells + R.cells) (slots + R.slots)) : X k μ Z pc lv st S cells slots := x_virtual (q := (RJx4a65c, TJx4a65c, 3)) 0 (mt_Jx4a65c_elementData_915e3 R) As rest hd hst hC hK (by decide) rfl rfl (by rw [hy]; exact tw_11_1) tw_11_2 tw_11_3 tw_1_18 tw_11_4 (by rw [hn]; exact (by decide +kernel : okN yJx4a65c_elementData_915e3 1)) hrm kk
theorem ca_X6_74 {k : KT} {μ : MT} {Z : ZT} {Q : Option Value → HS → Prop} {pc : Nat} {lv : List (Nat × Value)} {st : List Value} {S : HS} {cells slots : Nat} {R : Room} {b : Nat} (As rest : List Value) (hC : Ct k (mt_X0_isAt R) (.ref b :: As) S Q) (hK : gK S b = 2) (hy : μ.2.1.cls = RX6) (hd : decode μ.2.2.1 pc = .ok (.invokevirtual 74, 3)) (hst : st = As.reverse ++ .ref b :: rest) (hn : As.length = 2) (hrm : okR (mt_X0_isAt R) μ cells slots rest) (kk : ∀ v S', Q v S' → X k μ Z (pc + 3) lv (v.toList ++ rest) S' (cells + R.cells) (slots + R.slots)) : X k μ Z pc lv st S cells slots := x_virtual (q := (RX0, TX0, 2)) 1 (mt_X0_isAt R) As rest hd hst hC hK (by decide) rfl rfl (by rw [hy]; exact tw_11_5) tw_11_6 tw_11_7 tw_6_19 tw_11_8 (by rw [hn]; exact (by decide +kernel : okN yX0_isAt 2)) hrm kk
theorem ca_X6_79 {k : KT} {μ : MT} {Z : ZT} {Q : Option Value → HS → Prop} {pc : Nat} {lv : List (Nat × Value)} {st : List Value} {S : HS} {cells slots : Nat} {R : Room} {b : Nat} (As rest : List Value) (hC : Ct k (mt_X5_init R) (.ref b :: As) S Q) (hy : μ.2.1.cls = RX6) (hd : decode μ.2.2.1 pc = .ok (.invokespecial 79, 3)) (hst : st = As.reverse ++ .ref b :: rest) (hn : As.length = 3) (hrm : okR (mt_X5_init R) μ cells slots rest) (kk : ∀ v S', Q v S' → X k μ Z (pc + 3) lv (v.toList ++ rest) S' (cells + R.cells) (slots + R.slots)) : X k μ Z pc lv st S cells slots := x_special (mt_X5_init R) As rest hd hst hC rfl rfl (by rw [hy]; exact tw_11_9) tw_11_10 tw_10_3 tw_11_11 (by rw [hn]; exact (by decide +kernel : okN yX5_init 3)) hrm kk
theorem ca_X5_27 {k : KT} {μ : MT} {Z : ZT} {Q : Option Value → HS → Prop} {pc : Nat} {lv : List (Nat × Value)} {st : List Value} {S : HS} {cells slots : Nat} {R : Room} (As rest : List Value) (hC : Ct k (mt_J9_floorMod_7cf53 R) As S Q) (hy : μ.2.1.cls = RX5) (hd : decode μ.2.2.1 pc = .ok (.invokestatic 27, 3)) (hst : st = As.reverse ++ rest) (hn : As.length = 2) (hrm : okR (mt_J9_floorMod_7cf53 R) μ cells slots rest) (kk : ∀ v S', Q v S' → X k μ Z (pc + 3) lv (v.toList ++ rest) S' (cells + R.cells) (slots + R.slots)) : X k μ Z pc lv st S cells slots := x_static (mt_J9_floorMod_7cf53 R) As rest hd hst hC (by rw [hy]; exact tw_11_21) tw_11_22 tw_11_23 tw_12_0 (by rw [hn]; exact (by decide +kernel : okN yJ9_floorMod_7cf53 2)) hrm kk
theorem ca_X6_85 {k : KT} {μ : MT} {Z : ZT} {Q : Option Value → HS → Prop} {pc : Nat} {lv : List (Nat × Value)} {st : List Value} {S : HS} {cells slots : Nat} {R : Room} {b : Nat} (As rest : List Value) (hC : Ct k (mt_X6_piecesOf R) (.ref b :: As) S Q) (hK : gK S b = 8) (hy : μ.2.1.cls = RX6) (hd : decode μ.2.2.1 pc = .ok (.invokevirtual 85, 3)) (hst : st = As.reverse ++ .ref b :: rest) (hn : As.length = 1) (hrm : okR (mt_X6_piecesOf R) μ cells slots rest) (kk : ∀ v S', Q v S' → X k μ Z (pc + 3) lv (v.toList ++ rest) S' (cells + R.cells) (slots + R.slots)) : X k μ Z pc lv st S cells slots := x_virtual (q := (RX6, TX6, 9)) 7 (mt_X6_piecesOf R) As rest hd hst hC hK (by decide) rfl rfl (by rw [hy]; exact tw_12_1) tw_12_2 tw_12_3 tw_1_2 tw_12_4 (by rw [hn]; exact (by decide +kernel : okN yX6_piecesOf 1)) hrm kk
theorem ca_X6_248 {k : KT} {μ : MT} {Z : ZT} {Q : Option Value → HS → Prop} {pc : Nat} {lv : List (Nat × Value)} {st : List Value} {S : HS} {cells slots : Nat} {R : Room} {b : Nat} (As rest : List Value) (hC : Ct k (mt_X6_goneFromEdge R) (.ref b :: As) S Q) (hK : gK S b = 8) (hy : μ.2.1.cls = RX6) (hd : decode μ.2.2.1 pc = .ok (.invokevirtual 248, 3)) (hst : st = As.reverse ++ .ref b :: rest) (hn : As.length = 1) (hrm : okR (mt_X6_goneFromEdge R) μ cells slots rest) (kk : ∀ v S', Q v S' → X k μ Z (pc + 3) lv (v.toList ++ rest) S' (cells + R.cells) (slots + R.slots)) : X k μ Z pc lv st S cells slots := x_virtual (q := (RX6, TX6, 9)) 7 (mt_X6_goneFromEdge R) As rest hd hst hC hK (by decide) rfl rfl (by rw [hy]; exact tw_12_5) tw_12_6 tw_12_7 tw_1_2 tw_12_8 (by rw [hn]; exact (by decide +kernel : okN yX6_goneFromEdge 1)) hrm kk
theorem ca_X6_241 {k : KT} {μ : MT} {Z : ZT} {Q : Option Value → HS → Prop} {pc : Nat} {lv : List (Nat × Value)} {st : List Value} {S : HS} {cells slots : Nat} {R : Room} (As rest : List Value) (hC : Ct k (mt_J9_floorMod_7cf53 R) As S Q) (hy : μ.2.1.cls = RX6) (hd : decode μ.2.2.1 pc = .ok (.invokestatic 241, 3)) (hst : st = As.reverse ++ rest) (hn : As.length = 2) (hrm : okR (mt_J9_floorMod_7cf53 R) μ cells slots rest) (kk : ∀ v S', Q v S' → X k μ Z (pc + 3) lv (v.toList ++ rest) S' (cells + R.cells) (slots + R.slots)) : X k μ Z pc lv st S cells slots := x_static (mt_J9_floorMod_7cf53 R) As rest hd hst hC (by rw [hy]; exact tw_12_11) tw_11_22 tw_11_23 tw_12_0 (by rw [hn]; exact (by decide +kernel : okN yJ9_floorMod_7cf53 2)) hrm kk
theorem ca_X6_92 {k : KT} {μ : MT} {Z : ZT} {Q : Option Value → HS → Prop} {pc : Nat} {lv : List (Nat × Value)} {st : List Value} {S : HS} {cells slots : Nat} {R : Room} {b : Nat} (As rest : List Value) (hC : Ct k (mt_X6_cutUpright R) (.ref b :: As) S Q) (hK : gK S b = 8) (hy : μ.2.1.cls = RX6) (hd : decode μ.2.2.1 pc = .ok (.invokevirtual 92, 3)) (hst : st = As.reverse ++ .ref b :: rest) (hn : As.length = 2) (hrm : okR (mt_X6_cutUpright R) μ cells slots rest) (kk : ∀ v S', Q v S' → X k μ Z (pc + 3) lv (v.toList ++ rest) S' (cells + R.cells) (slots + R.slots)) : X k μ Z pc lv st S cells slots := x_virtual (q := (RX6, TX6, 9)) 7 (mt_X6_cutUpright R) As rest hd hst hC hK (by decide) rfl rfl (by rw [hy]; exact tw_12_12) tw_12_13 tw_12_14 tw_1_2 tw_12_15 (by rw [hn]; exact (by decide +kernel : okN yX6_cutUpright 2)) hrm kk
theorem ca_X6_251 {k : KT} {μ : MT} {Z : ZT} {Q : Option Value → HS → Prop} {pc : Nat} {lv : List (Nat × Value)} {st : List Value} {S : HS} {cells slots : Nat} {R : Room} {b : Nat} (As rest : List Value) (hC : Ct k (mt_X6_layUpright R) (.ref b :: As) S Q) (hK : gK S b = 8) (hy : μ.2.1.cls = RX6) (hd : decode μ.2.2.1 pc = .ok (.invokevirtual 251, 3)) (hst : st = As.reverse ++ .ref b :: rest) (hn : As.length = 3) (hrm : okR (mt_X6_layUpright R) μ cells slots rest) (kk : ∀ v S', Q v S' → X k μ Z (pc + 3) lv (v.toList ++ rest) S' (cells + R.cells) (slots + R.slots)) : X k μ Z pc lv st S cells slots := x_virtual (q := (RX6, TX6, 9)) 7 (mt_X6_layUpright R) As rest hd hst hC hK (by decide) rfl rfl (by rw [hy]; exact tw_12_16) tw_12_17 tw_12_18 tw_1_2 tw_12_19 (by rw [hn]; exact (by decide +kernel : okN yX6_layUpright 3)) hrm kk
theorem ca_X6_157 {k : KT} {μ : MT} {Z : ZT} {Q : Option Value → HS → Prop} {pc : Nat} {lv : List (Nat × Value)} {st : List Value} {S : HS} {cells slots : Nat} {R : Room} {b : Nat} (As rest : List Value) (hC : Ct k (mt_X6_sideOf R) (.ref b :: As) S Q) (hK : gK S b = 8) (hy : μ.2.1.cls = RX6) (hd : decode μ.2.2.1 pc = .ok (.invokevirtual 157, 3)) (hst : st = As.reverse ++ .ref b :: rest) (hn : As.length = 2) (hrm : okR (mt_X6_sideOf R) μ cells slots rest) (kk : ∀ v S', Q v S' → X k μ Z (pc + 3) lv (v.toList ++ rest) S' (cells + R.cells) (slots + R.slots)) : X k μ Z pc lv st S cells slots := x_virtual (q := (RX6, TX6, 9)) 7 (mt_X6_sideOf R) As rest hd hst hC hK (by decide) rfl rfl (by rw [hy]; exact tw_13_1) tw_13_2 tw_13_3 tw_1_2 tw_13_4 (by rw [hn]; exact (by decide +kernel : okN yX6_sideOf 2)) hrm kk
theorem ca_X6_258 {k : KT} {μ : MT} {Z : ZT} {Q : Option Value → HS → Prop} {pc : Nat} {lv : List (Nat × Value)} {st : List Value} {S : HS} {cells slots : Nat} {R : Room} {b : Nat} (As rest : List Value) (hC : Ct k (mt_X3_init R) (.ref b :: As) S Q) (hy : μ.2.1.cls = RX6) (hd : decode μ.2.2.1 pc = .ok (.invokespecial 258, 3)) (hst : st = As.reverse ++ .ref b :: rest) (hn : As.length = 5) (hrm : okR (mt_X3_init R) μ cells slots rest) (kk : ∀ v S', Q v S' → X k μ Z (pc + 3) lv (v.toList ++ rest) S' (cells + R.cells) (slots + R.slots)) : X k μ Z pc lv st S cells slots := x_special (mt_X3_init R) As rest hd hst hC rfl rfl (by rw [hy]; exact tw_13_5) tw_13_6 tw_12_22 tw_13_7 (by rw [hn]; exact (by decide +kernel : okN yX3_init 5)) hrm kk
theorem ca_X6_261 {k : KT} {μ : MT} {Z : ZT} {Q : Option Value → HS → Prop} {pc : Nat} {lv : List (Nat × Value)} {st : List Value} {S : HS} {cells slots : Nat} {R : Room} {b : Nat} (As rest : List Value) (hC : Ct k (mt_X6_lay R) (.ref b :: As) S Q) (hK : gK S b = 8) (hy : μ.2.1.cls = RX6) (hd : decode μ.2.2.1 pc = .ok (.invokevirtual 261, 3)) (hst : st = As.reverse ++ .ref b :: rest) (hn : As.length = 2) (hrm : okR (mt_X6_lay R) μ cells slots rest) (kk : ∀ v S', Q v S' → X k μ Z (pc + 3) lv (v.toList ++ rest) S' (cells + R.cells) (slots + R.slots)) : X k μ Z pc lv st S cells slots := x_virtual (q := (RX6, TX6, 9)) 7 (mt_X6_lay R) As rest hd hst hC hK (by decide) rfl rfl (by rw [hy]; exact tw_13_14) tw_13_15 tw_13_16 tw_1_2 tw_13_17 (by rw [hn]; exact (by decide +kernel : okN yX6_lay 2)) hrm kk
theorem ca_X6_106 {k : KT} {μ : MT} {Z : ZT} {Q : Option Value → HS → Prop} {pc : Nat} {lv : List (Nat × Value)} {st : List Value} {S : HS} {cells slots : Nat} {R : Room} {b : Nat} (As rest : List Value) (hC : Ct k (mt_X6_goreOf R) (.ref b :: As) S Q) (hK : gK S b = 8) (hy : μ.2.1.cls = RX6) (hd : decode μ.2.2.1 pc = .ok (.invokevirtual 106, 3)) (hst : st = As.reverse ++ .ref b :: rest) (hn : As.length = 1) (hrm : okR (mt_X6_goreOf R) μ cells slots rest) (kk : ∀ v S', Q v S' → X k μ Z (pc + 3) lv (v.toList ++ rest) S' (cells + R.cells) (slots + R.slots)) : X k μ Z pc lv st S cells slots := x_virtual (q := (RX6, TX6, 9)) 7 (mt_X6_goreOf R) As rest hd hst hC hK (by decide) rfl rfl (by rw [hy]; exact tw_13_20) tw_13_21 tw_13_22 tw_1_2 tw_13_23 (by rw [hn]; exact (by decide +kernel : okN yX6_goreOf 1)) hrm kk
theorem ca_X6_96 {k : KT} {μ : MT} {Z : ZT} {Q : Option Value → HS → Prop} {pc : Nat} {lv : List (Nat × Value)} {st : List Value} {S : HS} {cells slots : Nat} {R : Room} {b : Nat} (As rest : List Value) (hC : Ct k (mt_X6_cutSlanting R) (.ref b :: As) S Q) (hK : gK S b = 8) (hy : μ.2.1.cls = RX6) (hd : decode μ.2.2.1 pc = .ok (.invokevirtual 96, 3)) (hst : st = As.reverse ++ .ref b :: rest) (hn : As.length = 3) (hrm : okR (mt_X6_cutSlanting R) μ cells slots rest) (kk : ∀ v S', Q v S' → X k μ Z (pc + 3) lv (v.toList ++ rest) S' (cells + R.cells) (slots + R.slots)) : X k μ Z pc lv st S cells slots := x_virtual (q := (RX6, TX6, 9)) 7 (mt_X6_cutSlanting R) As rest hd hst hC hK (by decide) rfl rfl (by rw [hy]; exact tw_14_0) tw_14_1 tw_14_2 tw_1_2 tw_14_3 (by rw [hn]; exact (by decide +kernel : okN yX6_cutSlanting 3)) hrm kk
theorem ca_X6_227 {k : KT} {μ : MT} {Z : ZT} {Q : Option Value → HS → Prop} {pc : Nat} {lv : List (Nat × Value)} {st : List Value} {S : HS} {cells slots : Nat} {R : Room} (As rest : List Value) (hC : Ct k (mt_J9_floorDiv_7cf53 R) As S Q) (hy : μ.2.1.cls = RX6) (hd : decode μ.2.2.1 pc = .ok (.invokestatic 227, 3)) (hst : st = As.reverse ++ rest) (hn : As.length = 2) (hrm : okR (mt_J9_floorDiv_7cf53 R) μ cells slots rest) (kk : ∀ v S', Q v S' → X k μ Z (pc + 3) lv (v.toList ++ rest) S' (cells + R.cells) (slots + R.slots)) : X k μ Z pc lv st S cells slots := x_static (mt_J9_floorDiv_7cf53 R) As rest hd hst hC (by rw [hy]; exact tw_14_6) tw_14_7 tw_11_23 tw_14_8 (by rw [hn]; exact (by decide +kernel : okN yJ9_floorDiv_7cf53 2)) hrm kk
theorem ca_X6_271 {k : KT} {μ : MT} {Z : ZT} {Q : Option Value → HS → Prop} {pc : Nat} {lv : List (Nat × Value)} {st : List Value} {S : HS} {cells slots : Nat} {R : Room} {b : Nat} (As rest : List Value) (hC : Ct k (mt_X5_longitudeAt R) (.ref b :: As) S Q) (hK : gK S b = 7) (hy : μ.2.1.cls = RX6) (hd : decode μ.2.2.1 pc = .ok (.invokevirtual 271, 3)) (hst : st = As.reverse ++ .ref b :: rest) (hn : As.length = 1) (hrm : okR (mt_X5_longitudeAt R) μ cells slots rest) (kk : ∀ v S', Q v S' → X k μ Z (pc + 3) lv (v.toList ++ rest) S' (cells + R.cells) (slots + R.slots)) : X k μ Z pc lv st S cells slots := x_virtual (q := (RX5, TX5, 5)) 6 (mt_X5_longitudeAt R) As rest hd hst hC hK (by decide) rfl rfl (by rw [hy]; exact tw_14_9) tw_14_10 tw_14_11 tw_10_3 tw_14_12 (by rw [hn]; exact (by decide +kernel : okN yX5_longitudeAt 1)) hrm kk
theorem ca_X6_274 {k : KT} {μ : MT} {Z : ZT} {Q : Option Value → HS → Prop} {pc : Nat} {lv : List (Nat × Value)} {st : List Value} {S : HS} {cells slots : Nat} {R : Room} {b : Nat} (As rest : List Value) (hC : Ct k (mt_X5_heightAt R) (.ref b :: As) S Q) (hK : gK S b = 7) (hy : μ.2.1.cls = RX6) (hd : decode μ.2.2.1 pc = .ok (.invokevirtual 274, 3)) (hst : st = As.reverse ++ .ref b :: rest) (hn : As.length = 1) (hrm : okR (mt_X5_heightAt R) μ cells slots rest) (kk : ∀ v S', Q v S' → X k μ Z (pc + 3) lv (v.toList ++ rest) S' (cells + R.cells) (slots + R.slots)) : X k μ Z pc lv st S cells slots := x_virtual (q := (RX5, TX5, 5)) 6 (mt_X5_heightAt R) As rest hd hst hC hK (by decide) rfl rfl (by rw [hy]; exact tw_14_13) tw_14_14 tw_14_15 tw_10_3 tw_14_16 (by rw [hn]; exact (by decide +kernel : okN yX5_heightAt 1)) hrm kk
theorem ca_L_39 {k : KT} {μ : MT} {Z : ZT} {Q : Option Value → HS → Prop} {pc : Nat} {lv : List (Nat × Value)} {st : List Value} {S : HS} {cells slots : Nat} {R : Room} {b : Nat} (As rest : List Value) (hC : Ct k (mt_X7_to R) (.ref b :: As) S Q) (hK : gK S b = 9) (hy : μ.2.1.cls = RL) (hd : decode μ.2.2.1 pc = .ok (.invokevirtual 39, 3)) (hst : st = As.reverse ++ .ref b :: rest) (hn : As.length = 3) (hrm : okR (mt_X7_to R) μ cells slots rest) (kk : ∀ v S', Q v S' → X k μ Z (pc + 3) lv (v.toList ++ rest) S' (cells + R.cells) (slots + R.slots)) : X k μ Z pc lv st S cells slots := x_virtual (q := (RX7, TX7, 26)) 8 (mt_X7_to R) As rest hd hst hC hK (by decide) rfl rfl (by rw [hy]; exact tw_14_19) tw_14_20 tw_14_21 tw_1_5 tw_14_22 (by rw [hn]; exact (by decide +kernel : okN yX7_to 3)) hrm kk
theorem ca_X7_99 {k : KT} {μ : MT} {Z : ZT} {Q : Option Value → HS → Prop} {pc : Nat} {lv : List (Nat × Value)} {st : List Value} {S : HS} {cells slots : Nat} {R : Room} {b : Nat} (As rest : List Value) (hC : Ct k (mt_X7_parts R) (.ref b :: As) S Q) (hK : gK S b = 9) (hy : μ.2.1.cls = RX7) (hd : decode μ.2.2.1 pc = .ok (.invokevirtual 99, 3)) (hst : st = As.reverse ++ .ref b :: rest) (hn : As.length = 2) (hrm : okR (mt_X7_parts R) μ cells slots rest) (kk : ∀ v S', Q v S' → X k μ Z (pc + 3) lv (v.toList ++ rest) S' (cells + R.cells) (slots + R.slots)) : X k μ Z pc lv st S cells slots := x_virtual (q := (RX7, TX7, 26)) 8 (mt_X7_parts R) As rest hd hst hC hK (by decide) rfl rfl (by rw [hy]; exact tw_15_0) tw_15_1 tw_15_2 tw_1_5 tw_15_3 (by rw [hn]; exact (by decide +kernel : okN yX7_parts 2)) hrm kk
theorem ca_X7_95 {k : KT} {μ : MT} {Z : ZT} {Q : Option Value → HS → Prop} {pc : Nat} {lv : List (Nat × Value)} {st : List Value} {S : HS} {cells slots : Nat} {R : Room} {b : Nat} (As rest : List Value) (hC : Ct k (mt_X7_isEdge R) (.ref b :: As) S Q) (hK : gK S b = 9) (hy : μ.2.1.cls = RX7) (hd : decode μ.2.2.1 pc = .ok (.invokevirtual 95, 3)) (hst : st = As.reverse ++ .ref b :: rest) (hn : As.length = 1) (hrm : okR (mt_X7_isEdge R) μ cells slots rest) (kk : ∀ v S', Q v S' → X k μ Z (pc + 3) lv (v.toList ++ rest) S' (cells + R.cells) (slots + R.slots)) : X k μ Z pc lv st S cells slots := x_virtual (q := (RX7, TX7, 26)) 8 (mt_X7_isEdge R) As rest hd hst hC hK (by decide) rfl rfl (by rw [hy]; exact tw_15_4) tw_15_5 tw_15_6 tw_1_5 tw_15_7 (by rw [hn]; exact (by decide +kernel : okN yX7_isEdge 1)) hrm kk
theorem ca_X7_102 {k : KT} {μ : MT} {Z : ZT} {Q : Option Value → HS → Prop} {pc : Nat} {lv : List (Nat × Value)} {st : List Value} {S : HS} {cells slots : Nat} {R : Room} {b : Nat} (As rest : List Value) (hC : Ct k (mt_X7_stays R) (.ref b :: As) S Q) (hK : gK S b = 9) (hy : μ.2.1.cls = RX7) (hd : decode μ.2.2.1 pc = .ok (.invokevirtual 102, 3)) (hst : st = As.reverse ++ .ref b :: rest) (hn : As.length = 4) (hrm : okR (mt_X7_stays R) μ cells slots rest) (kk : ∀ v S', Q v S' → X k μ Z (pc + 3) lv (v.toList ++ rest) S' (cells + R.cells) (slots + R.slots)) : X k μ Z pc lv st S cells slots := x_virtual (q := (RX7, TX7, 26)) 8 (mt_X7_stays R) As rest hd hst hC hK (by decide) rfl rfl (by rw [hy]; exact tw_15_8) tw_15_9 tw_15_10 tw_1_5 tw_15_11 (by rw [hn]; exact (by decide +kernel : okN yX7_stays 4)) hrm kk
theorem ca_X7_110 {k : KT} {μ : MT} {Z : ZT} {Q : Option Value → HS → Prop} {pc : Nat} {lv : List (Nat × Value)} {st : List Value} {S : HS} {cells slots : Nat} {R : Room} {b : Nat} (As rest : List Value) (hC : Ct k (mt_X7_adds R) (.ref b :: As) S Q) (hK : gK S b = 9) (hy : μ.2.1.cls = RX7) (hd : decode μ.2.2.1 pc = .ok (.invokevirtual 110, 3)) (hst : st = As.reverse ++ .ref b :: rest) (hn : As.length = 6) (hrm : okR (mt_X7_adds R) μ cells slots rest) (kk : ∀ v S', Q v S' → X k μ Z (pc + 3) lv (v.toList ++ rest) S' (cells + R.cells) (slots + R.slots)) : X k μ Z pc lv st S cells slots := x_virtual (q := (RX7, TX7, 26)) 8 (mt_X7_adds R) As rest hd hst hC hK (by decide) rfl rfl (by rw [hy]; exact tw_15_12) tw_15_13 tw_15_14 tw_1_5 tw_15_15 (by rw [hn]; exact (by decide +kernel : okN yX7_adds 6)) hrm kk
theorem ca_X7_106 {k : KT} {μ : MT} {Z : ZT} {Q : Option Value → HS → Prop} {pc : Nat} {lv : List (Nat × Value)} {st : List Value} {S : HS} {cells slots : Nat} {R : Room} {b : Nat} (As rest : List Value) (hC : Ct k (mt_X7_goes R) (.ref b :: As) S Q) (hK : gK S b = 9) (hy : μ.2.1.cls = RX7) (hd : decode μ.2.2.1 pc = .ok (.invokevirtual 106, 3)) (hst : st = As.reverse ++ .ref b :: rest) (hn : As.length = 5) (hrm : okR (mt_X7_goes R) μ cells slots rest) (kk : ∀ v S', Q v S' → X k μ Z (pc + 3) lv (v.toList ++ rest) S' (cells + R.cells) (slots + R.slots)) : X k μ Z pc lv st S cells slots := x_virtual (q := (RX7, TX7, 26)) 8 (mt_X7_goes R) As rest hd hst hC hK (by decide) rfl rfl (by rw [hy]; exact tw_15_16) tw_15_17 tw_15_18 tw_1_5 tw_15_19 (by rw [hn]; exact (by decide +kernel : okN yX7_goes 5)) hrm kk
theorem ca_X7_114 {k : KT} {μ : MT} {Z : ZT} {Q : Option Value → HS → Prop} {pc : Nat} {lv : List (Nat × Value)} {st : List Value} {S : HS} {cells slots : Nat} {R : Room} {b : Nat} (As rest : List Value) (hC : Ct k (mt_X7_sideWest R) (.ref b :: As) S Q) (hK : gK S b = 9) (hy : μ.2.1.cls = RX7) (hd : decode μ.2.2.1 pc = .ok (.invokevirtual 114, 3)) (hst : st = As.reverse ++ .ref b :: rest) (hn : As.length = 2) (hrm : okR (mt_X7_sideWest R) μ cells slots rest) (kk : ∀ v S', Q v S' → X k μ Z (pc + 3) lv (v.toList ++ rest) S' (cells + R.cells) (slots + R.slots)) : X k μ Z pc lv st S cells slots := x_virtual (q := (RX7, TX7, 26)) 8 (mt_X7_sideWest R) As rest hd hst hC hK (by decide) rfl rfl (by rw [hy]; exact tw_15_20) tw_15_21 tw_15_22 tw_1_5 tw_15_23 (by rw [hn]; exact (by decide +kernel : okN yX7_sideWest 2)) hrm kk
theorem ca_X7_117 {k : KT} {μ : MT} {Z : ZT} {Q : Option Value → HS → Prop} {pc : Nat} {lv : List (Nat × Value)} {st : List Value} {S : HS} {cells slots : Nat} {R : Room} (As rest : List Value) (hC : Ct k (mt_X7_heightAt R) As S Q) (hy : μ.2.1.cls = RX7) (hd : decode μ.2.2.1 pc = .ok (.invokestatic 117, 3)) (hst : st = As.reverse ++ rest) (hn : As.length = 4) (hrm : okR (mt_X7_heightAt R) μ cells slots rest) (kk : ∀ v S', Q v S' → X k μ Z (pc + 3) lv (v.toList ++ rest) S' (cells + R.cells) (slots + R.slots)) : X k μ Z pc lv st S cells slots := x_static (mt_X7_heightAt R) As rest hd hst hC (by rw [hy]; exact tw_16_0) tw_16_1 tw_1_5 tw_16_2 (by rw [hn]; exact (by decide +kernel : okN yX7_heightAt 4)) hrm kk
theorem ca_X7_89 {k : KT} {μ : MT} {Z : ZT} {Q : Option Value → HS → Prop} {pc : Nat} {lv : List (Nat × Value)} {st : List Value} {S : HS} {cells slots : Nat} {R : Room} (As rest : List Value) (hC : Ct k (mt_X7_round R) As S Q) (hy : μ.2.1.cls = RX7) (hd : decode μ.2.2.1 pc = .ok (.invokestatic 89, 3)) (hst : st = As.reverse ++ rest) (hn : As.length = 2) (hrm : okR (mt_X7_round R) μ cells slots rest) (kk : ∀ v S', Q v S' → X k μ Z (pc + 3) lv (v.toList ++ rest) S' (cells + R.cells) (slots + R.slots)) : X k μ Z pc lv st S cells slots := x_static (mt_X7_round R) As rest hd hst hC (by rw [hy]; exact tw_16_3) tw_16_4 tw_1_5 tw_16_5 (by rw [hn]; exact (by decide +kernel : okN yX7_round 2)) hrm kk
theorem ca_L_40 {k : KT} {μ : MT} {Z : ZT} {Q : Option Value → HS → Prop} {pc : Nat} {lv : List (Nat × Value)} {st : List Value} {S : HS} {cells slots : Nat} {R : Room} {b : Nat} (As rest : List Value) (hC : Ct k (mt_X6_pieces R) (.ref b :: As) S Q) (hK : gK S b = 8) (hy : μ.2.1.cls = RL) (hd : decode μ.2.2.1 pc = .ok (.invokevirtual 40, 3)) (hst : st = As.reverse ++ .ref b :: rest) (hn : As.length = 1) (hrm : okR (mt_X6_pieces R) μ cells slots rest) (kk : ∀ v S', Q v S' → X k μ Z (pc + 3) lv (v.toList ++ rest) S' (cells + R.cells) (slots + R.slots)) : X k μ Z pc lv st S cells slots := x_virtual (q := (RX6, TX6, 9)) 7 (mt_X6_pieces R) As rest hd hst hC hK (by decide) rfl rfl (by rw [hy]; exact tw_16_6) tw_16_7 tw_16_8 tw_1_2 tw_16_9 (by rw [hn]; exact (by decide +kernel : okN yX6_pieces 1)) hrm kk
theorem ca_L_43 {k : KT} {μ : MT} {Z : ZT} {Q : Option Value → HS → Prop} {pc : Nat} {lv : List (Nat × Value)} {st : List Value} {S : HS} {cells slots : Nat} {R : Room} {b : Nat} (As rest : List Value) (hC : Ct k (mt_X7_pieces R) (.ref b :: As) S Q) (hK : gK S b = 9) (hy : μ.2.1.cls = RL) (hd : decode μ.2.2.1 pc = .ok (.invokevirtual 43, 3)) (hst : st = As.reverse ++ .ref b :: rest) (hn : As.length = 1) (hrm : okR (mt_X7_pieces R) μ cells slots rest) (kk : ∀ v S', Q v S' → X k μ Z (pc + 3) lv (v.toList ++ rest) S' (cells + R.cells) (slots + R.slots)) : X k μ Z pc lv st S cells slots := x_virtual (q := (RX7, TX7, 26)) 8 (mt_X7_pieces R) As rest hd hst hC hK (by decide) rfl rfl (by rw [hy]; exact tw_16_10) tw_16_11 tw_16_12 tw_1_5 tw_16_13 (by rw [hn]; exact (by decide +kernel : okN yX7_pieces 1)) hrm kk
theorem ca_X7_121 {k : KT} {μ : MT} {Z : ZT} {Q : Option Value → HS → Prop} {pc : Nat} {lv : List (Nat × Value)} {st : List Value} {S : HS} {cells slots : Nat} {R : Room} {b : Nat} (As rest : List Value) (hC : Ct k (mt_X7_isGore R) (.ref b :: As) S Q) (hK : gK S b = 9) (hy : μ.2.1.cls = RX7) (hd : decode μ.2.2.1 pc = .ok (.invokevirtual 121, 3)) (hst : st = As.reverse ++ .ref b :: rest) (hn : As.length = 1) (hrm : okR (mt_X7_isGore R) μ cells slots rest) (kk : ∀ v S', Q v S' → X k μ Z (pc + 3) lv (v.toList ++ rest) S' (cells + R.cells) (slots + R.slots)) : X k μ Z pc lv st S cells slots := x_virtual (q := (RX7, TX7, 26)) 8 (mt_X7_isGore R) As rest hd hst hC hK (by decide) rfl rfl (by rw [hy]; exact tw_16_14) tw_16_15 tw_16_16 tw_1_5 tw_16_17 (by rw [hn]; exact (by decide +kernel : okN yX7_isGore 1)) hrm kk
theorem ca_L_44 {k : KT} {μ : MT} {Z : ZT} {Q : Option Value → HS → Prop} {pc : Nat} {lv : List (Nat × Value)} {st : List Value} {S : HS} {cells slots : Nat} {R : Room} {b : Nat} (As rest : List Value) (hC : Ct k (mt_X6_piece R) (.ref b :: As) S Q) (hK : gK S b = 8) (hy : μ.2.1.cls = RL) (hd : decode μ.2.2.1 pc = .ok (.invokevirtual 44, 3)) (hst : st = As.reverse ++ .ref b :: rest) (hn : As.length = 3) (hrm : okR (mt_X6_piece R) μ cells slots rest) (kk : ∀ v S', Q v S' → X k μ Z (pc + 3) lv (v.toList ++ rest) S' (cells + R.cells) (slots + R.slots)) : X k μ Z pc lv st S cells slots := x_virtual (q := (RX6, TX6, 9)) 7 (mt_X6_piece R) As rest hd hst hC hK (by decide) rfl rfl (by rw [hy]; exact tw_16_18) tw_16_19 tw_16_20 tw_1_2 tw_16_21 (by rw [hn]; exact (by decide +kernel : okN yX6_piece 3)) hrm kk
theorem ca_L_47 {k : KT} {μ : MT} {Z : ZT} {Q : Option Value → HS → Prop} {pc : Nat} {lv : List (Nat × Value)} {st : List Value} {S : HS} {cells slots : Nat} {R : Room} {b : Nat} (As rest : List Value) (hC : Ct k (mt_X7_piece R) (.ref b :: As) S Q) (hK : gK S b = 9) (hy : μ.2.1.cls = RL) (hd : decode μ.2.2.1 pc = .ok (.invokevirtual 47, 3)) (hst : st = As.reverse ++ .ref b :: rest) (hn : As.length = 3) (hrm : okR (mt_X7_piece R) μ cells slots rest) (kk : ∀ v S', Q v S' → X k μ Z (pc + 3) lv (v.toList ++ rest) S' (cells + R.cells) (slots + R.slots)) : X k μ Z pc lv st S cells slots := x_virtual (q := (RX7, TX7, 26)) 8 (mt_X7_piece R) As rest hd hst hC hK (by decide) rfl rfl (by rw [hy]; exact tw_17_4) tw_17_5 tw_17_6 tw_1_5 tw_17_7 (by rw [hn]; exact (by decide +kernel : okN yX7_piece 3)) hrm kk
theorem ca_L_48 {k : KT} {μ : MT} {Z : ZT} {Q : Option Value → HS → Prop} {pc : Nat} {lv : List (Nat × Value)} {st : List Value} {S : HS} {cells slots : Nat} {R : Room} {b : Nat} (As rest : List Value) (hC : Ct k (mt_X6_paper R) (.ref b :: As) S Q) (hK : gK S b = 8) (hy : μ.2.1.cls = RL) (hd : decode μ.2.2.1 pc = .ok (.invokevirtual 48, 3)) (hst : st = As.reverse ++ .ref b :: rest) (hn : As.length = 2) (hrm : okR (mt_X6_paper R) μ cells slots rest) (kk : ∀ v S', Q v S' → X k μ Z (pc + 3) lv (v.toList ++ rest) S' (cells + R.cells) (slots + R.slots)) : X k μ Z pc lv st S cells slots := x_virtual (q := (RX6, TX6, 9)) 7 (mt_X6_paper R) As rest hd hst hC hK (by decide) rfl rfl (by rw [hy]; exact tw_17_8) tw_17_9 tw_17_10 tw_1_2 tw_17_11 (by rw [hn]; exact (by decide +kernel : okN yX6_paper 2)) hrm kk
theorem ca_X6_134 {k : KT} {μ : MT} {Z : ZT} {Q : Option Value → HS → Prop} {pc : Nat} {lv : List (Nat × Value)} {st : List Value} {S : HS} {cells slots : Nat} {R : Room} (As rest : List Value) (hC : Ct k (mt_X6_isGrowth R) As S Q) (hy : μ.2.1.cls = RX6) (hd : decode μ.2.2.1 pc = .ok (.invokestatic 134, 3)) (hst : st = As.reverse ++ rest) (hn : As.length = 1) (hrm : okR (mt_X6_isGrowth R) μ cells slots rest) (kk : ∀ v S', Q v S' → X k μ Z (pc + 3) lv (v.toList ++ rest) S' (cells + R.cells) (slots + R.slots)) : X k μ Z pc lv st S cells slots := x_static (mt_X6_isGrowth R) As rest hd hst hC (by rw [hy]; exact tw_17_14) tw_17_15 tw_1_2 tw_17_16 (by rw [hn]; exact (by decide +kernel : okN yX6_isGrowth 1)) hrm kk
theorem ca_L_52 {k : KT} {μ : MT} {Z : ZT} {Q : Option Value → HS → Prop} {pc : Nat} {lv : List (Nat × Value)} {st : List Value} {S : HS} {cells slots : Nat} {R : Room} {b : Nat} (As rest : List Value) (hC : Ct k (mt_X7_paper R) (.ref b :: As) S Q) (hK : gK S b = 9) (hy : μ.2.1.cls = RL) (hd : decode μ.2.2.1 pc = .ok (.invokevirtual 52, 3)) (hst : st = As.reverse ++ .ref b :: rest) (hn : As.length = 2) (hrm : okR (mt_X7_paper R) μ cells slots rest) (kk : ∀ v S', Q v S' → X k μ Z (pc + 3) lv (v.toList ++ rest) S' (cells + R.cells) (slots + R.slots)) : X k μ Z pc lv st S cells slots := x_virtual (q := (RX7, TX7, 26)) 8 (mt_X7_paper R) As rest hd hst hC hK (by decide) rfl rfl (by rw [hy]; exact tw_17_17) tw_17_18 tw_17_19 tw_1_5 tw_17_20 (by rw [hn]; exact (by decide +kernel : okN yX7_paper 2)) hrm kk
theorem ca_L_53 {k : KT} {μ : MT} {Z : ZT} {Q : Option Value → HS → Prop} {pc : Nat} {lv : List (Nat × Value)} {st : List Value} {S : HS} {cells slots : Nat} {R : Room} {b : Nat} (As rest : List Value) (hC : Ct k (mt_X6_drawn R) (.ref b :: As) S Q) (hK : gK S b = 8) (hy : μ.2.1.cls = RL) (hd : decode μ.2.2.1 pc = .ok (.invokevirtual 53, 3)) (hst : st = As.reverse ++ .ref b :: rest) (hn : As.length = 2) (hrm : okR (mt_X6_drawn R) μ cells slots rest) (kk : ∀ v S', Q v S' → X k μ Z (pc + 3) lv (v.toList ++ rest) S' (cells + R.cells) (slots + R.slots)) : X k μ Z pc lv st S cells slots := x_virtual (q := (RX6, TX6, 9)) 7 (mt_X6_drawn R) As rest hd hst hC hK (by decide) rfl rfl (by rw [hy]; exact tw_17_23) tw_18_0 tw_18_1 tw_1_2 tw_18_2 (by rw [hn]; exact (by decide +kernel : okN yX6_drawn 2)) hrm kk
theorem ca_X6_147 {k : KT} {μ : MT} {Z : ZT} {Q : Option Value → HS → Prop} {pc : Nat} {lv : List (Nat × Value)} {st : List Value} {S : HS} {cells slots : Nat} {R : Room} (As rest : List Value) (hC : Ct k (mt_X6_isOnPaper R) As S Q) (hy : μ.2.1.cls = RX6) (hd : decode μ.2.2.1 pc = .ok (.invokestatic 147, 3)) (hst : st = As.reverse ++ rest) (hn : As.length = 2) (hrm : okR (mt_X6_isOnPaper R) μ cells slots rest) (kk : ∀ v S', Q v S' → X k μ Z (pc + 3) lv (v.toList ++ rest) S' (cells + R.cells) (slots + R.slots)) : X k μ Z pc lv st S cells slots := x_static (mt_X6_isOnPaper R) As rest hd hst hC (by rw [hy]; exact tw_18_3) tw_18_4 tw_1_2 tw_18_5 (by rw [hn]; exact (by decide +kernel : okN yX6_isOnPaper 2)) hrm kk
theorem ca_X6_150 {k : KT} {μ : MT} {Z : ZT} {Q : Option Value → HS → Prop} {pc : Nat} {lv : List (Nat × Value)} {st : List Value} {S : HS} {cells slots : Nat} {R : Room} {b : Nat} (As rest : List Value) (hC : Ct k (mt_X6_grownThousand R) (.ref b :: As) S Q) (hK : gK S b = 8) (hy : μ.2.1.cls = RX6) (hd : decode μ.2.2.1 pc = .ok (.invokevirtual 150, 3)) (hst : st = As.reverse ++ .ref b :: rest) (hn : As.length = 1) (hrm : okR (mt_X6_grownThousand R) μ cells slots rest) (kk : ∀ v S', Q v S' → X k μ Z (pc + 3) lv (v.toList ++ rest) S' (cells + R.cells) (slots + R.slots)) : X k μ Z pc lv st S cells slots := x_virtual (q := (RX6, TX6, 9)) 7 (mt_X6_grownThousand R) As rest hd hst hC hK (by decide) rfl rfl (by rw [hy]; exact tw_18_6) tw_18_7 tw_18_8 tw_1_2 tw_18_9 (by rw [hn]; exact (by decide +kernel : okN yX6_grownThousand 1)) hrm kk
theorem ca_X6_153 {k : KT} {μ : MT} {Z : ZT} {Q : Option Value → HS → Prop} {pc : Nat} {lv : List (Nat × Value)} {st : List Value} {S : HS} {cells slots : Nat} {R : Room} (As rest : List Value) (hC : Ct k (mt_X6_roundBy R) As S Q) (hy : μ.2.1.cls = RX6) (hd : decode μ.2.2.1 pc = .ok (.invokestatic 153, 3)) (hst : st = As.reverse ++ rest) (hn : As.length = 2) (hrm : okR (mt_X6_roundBy R) μ cells slots rest) (kk : ∀ v S', Q v S' → X k μ Z (pc + 3) lv (v.toList ++ rest) S' (cells + R.cells) (slots + R.slots)) : X k μ Z pc lv st S cells slots := x_static (mt_X6_roundBy R) As rest hd hst hC (by rw [hy]; exact tw_18_10) tw_14_17 tw_1_2 tw_14_18 (by rw [hn]; exact (by decide +kernel : okN yX6_roundBy 2)) hrm kk
theorem ca_L_56 {k : KT} {μ : MT} {Z : ZT} {Q : Option Value → HS → Prop} {pc : Nat} {lv : List (Nat × Value)} {st : List Value} {S : HS} {cells slots : Nat} {R : Room} {b : Nat} (As rest : List Value) (hC : Ct k (mt_X7_drawn R) (.ref b :: As) S Q) (hK : gK S b = 9) (hy : μ.2.1.cls = RL) (hd : decode μ.2.2.1 pc = .ok (.invokevirtual 56, 3)) (hst : st = As.reverse ++ .ref b :: rest) (hn : As.length = 2) (hrm : okR (mt_X7_drawn R) μ cells slots rest) (kk : ∀ v S', Q v S' → X k μ Z (pc + 3) lv (v.toList ++ rest) S' (cells + R.cells) (slots + R.slots)) : X k μ Z pc lv st S cells slots := x_virtual (q := (RX7, TX7, 26)) 8 (mt_X7_drawn R) As rest hd hst hC hK (by decide) rfl rfl (by rw [hy]; exact tw_18_11) tw_18_12 tw_18_13 tw_1_5 tw_18_14 (by rw [hn]; exact (by decide +kernel : okN yX7_drawn 2)) hrm kk
theorem ca_X7_130 {k : KT} {μ : MT} {Z : ZT} {Q : Option Value → HS → Prop} {pc : Nat} {lv : List (Nat × Value)} {st : List Value} {S : HS} {cells slots : Nat} {R : Room} {b : Nat} (As rest : List Value) (hC : Ct k (mt_X7_grown R) (.ref b :: As) S Q) (hK : gK S b = 9) (hy : μ.2.1.cls = RX7) (hd : decode μ.2.2.1 pc = .ok (.invokevirtual 130, 3)) (hst : st = As.reverse ++ .ref b :: rest) (hn : As.length = 1) (hrm : okR (mt_X7_grown R) μ cells slots rest) (kk : ∀ v S', Q v S' → X k μ Z (pc + 3) lv (v.toList ++ rest) S' (cells + R.cells) (slots + R.slots)) : X k μ Z pc lv st S cells slots := x_virtual (q := (RX7, TX7, 26)) 8 (mt_X7_grown R) As rest hd hst hC hK (by decide) rfl rfl (by rw [hy]; exact tw_18_15) tw_18_16 tw_18_17 tw_1_5 tw_18_18 (by rw [hn]; exact (by decide +kernel : okN yX7_grown 1)) hrm kk
theorem ca_L_57 {k : KT} {μ : MT} {Z : ZT} {Q : Option Value → HS → Prop} {pc : Nat} {lv : List (Nat × Value)} {st : List Value} {S : HS} {cells slots : Nat} {R : Room} {b : Nat} (As rest : List Value) (hC : Ct k (mt_X6_wet R) (.ref b :: As) S Q) (hK : gK S b = 8) (hy : μ.2.1.cls = RL) (hd : decode μ.2.2.1 pc = .ok (.invokevirtual 57, 3)) (hst : st = As.reverse ++ .ref b :: rest) (hn : As.length = 2) (hrm : okR (mt_X6_wet R) μ cells slots rest) (kk : ∀ v S', Q v S' → X k μ Z (pc + 3) lv (v.toList ++ rest) S' (cells + R.cells) (slots + R.slots)) : X k μ Z pc lv st S cells slots := x_virtual (q := (RX6, TX6, 9)) 7 (mt_X6_wet R) As rest hd hst hC hK (by decide) rfl rfl (by rw [hy]; exact tw_18_19) tw_18_20 tw_18_21 tw_1_2 tw_18_22 (by rw [hn]; exact (by decide +kernel : okN yX6_wet 2)) hrm kk
theorem ca_L_60 {k : KT} {μ : MT} {Z : ZT} {Q : Option Value → HS → Prop} {pc : Nat} {lv : List (Nat × Value)} {st : List Value} {S : HS} {cells slots : Nat} {R : Room} {b : Nat} (As rest : List Value) (hC : Ct k (mt_X7_wet R) (.ref b :: As) S Q) (hK : gK S b = 9) (hy : μ.2.1.cls = RL) (hd : decode μ.2.2.1 pc = .ok (.invokevirtual 60, 3)) (hst : st = As.reverse ++ .ref b :: rest) (hn : As.length = 2) (hrm : okR (mt_X7_wet R) μ cells slots rest) (kk : ∀ v S', Q v S' → X k μ Z (pc + 3) lv (v.toList ++ rest) S' (cells + R.cells) (slots + R.slots)) : X k μ Z pc lv st S cells slots := x_virtual (q := (RX7, TX7, 26)) 8 (mt_X7_wet R) As rest hd hst hC hK (by decide) rfl rfl (by rw [hy]; exact tw_18_23) tw_19_0 tw_19_1 tw_1_5 tw_19_2 (by rw [hn]; exact (by decide +kernel : okN yX7_wet 2)) hrm kk
theorem ca_L_61 {k : KT} {μ : MT} {Z : ZT} {Q : Option Value → HS → Prop} {pc : Nat} {lv : List (Nat × Value)} {st : List Value} {S : HS} {cells slots : Nat} {R : Room} {b : Nat} (As rest : List Value) (hC : Ct k (mt_X6_name R) (.ref b :: As) S Q) (hK : gK S b = 8) (hy : μ.2.1.cls = RL) (hd : decode μ.2.2.1 pc = .ok (.invokevirtual 61, 3)) (hst : st = As.reverse ++ .ref b :: rest) (hn : As.length = 4) (hrm : okR (mt_X6_name R) μ cells slots rest) (kk : ∀ v S', Q v S' → X k μ Z (pc + 3) lv (v.toList ++ rest) S' (cells + R.cells) (slots + R.slots)) : X k μ Z pc lv st S cells slots := x_virtual (q := (RX6, TX6, 9)) 7 (mt_X6_name R) As rest hd hst hC hK (by decide) rfl rfl (by rw [hy]; exact tw_19_3) tw_19_4 tw_19_5 tw_1_2 tw_19_6 (by rw [hn]; exact (by decide +kernel : okN yX6_name 4)) hrm kk
theorem ca_X6_162 {k : KT} {μ : MT} {Z : ZT} {Q : Option Value → HS → Prop} {pc : Nat} {lv : List (Nat × Value)} {st : List Value} {S : HS} {cells slots : Nat} {R : Room} {b : Nat} (As rest : List Value) (hC : Ct k (mt_X2_init R) (.ref b :: As) S Q) (hy : μ.2.1.cls = RX6) (hd : decode μ.2.2.1 pc = .ok (.invokespecial 162, 3)) (hst : st = As.reverse ++ .ref b :: rest) (hn : As.length = 6) (hrm : okR (mt_X2_init R) μ cells slots rest) (kk : ∀ v S', Q v S' → X k μ Z (pc + 3) lv (v.toList ++ rest) S' (cells + R.cells) (slots + R.slots)) : X k μ Z pc lv st S cells slots := x_special (mt_X2_init R) As rest hd hst hC rfl rfl (by rw [hy]; exact tw_19_12) tw_19_13 tw_19_10 tw_19_14 (by rw [hn]; exact (by decide +kernel : okN yX2_init 6)) hrm kk
theorem ca_X6_165 {k : KT} {μ : MT} {Z : ZT} {Q : Option Value → HS → Prop} {pc : Nat} {lv : List (Nat × Value)} {st : List Value} {S : HS} {cells slots : Nat} {R : Room} {b : Nat} (As rest : List Value) (hC : Ct k (mt_X6_waysWithinEdges R) (.ref b :: As) S Q) (hK : gK S b = 8) (hy : μ.2.1.cls = RX6) (hd : decode μ.2.2.1 pc = .ok (.invokevirtual 165, 3)) (hst : st = As.reverse ++ .ref b :: rest) (hn : As.length = 1) (hrm : okR (mt_X6_waysWithinEdges R) μ cells slots rest) (kk : ∀ v S', Q v S' → X k μ Z (pc + 3) lv (v.toList ++ rest) S' (cells + R.cells) (slots + R.slots)) : X k μ Z pc lv st S cells slots := x_virtual (q := (RX6, TX6, 9)) 7 (mt_X6_waysWithinEdges R) As rest hd hst hC hK (by decide) rfl rfl (by rw [hy]; exact tw_19_22) tw_19_23 tw_20_0 tw_1_2 tw_20_1 (by rw [hn]; exact (by decide +kernel : okN yX6_waysWithinEdges 1)) hrm kk
theorem ca_X6_277 {k : KT} {μ : MT} {Z : ZT} {Q : Option Value → HS → Prop} {pc : Nat} {lv : List (Nat × Value)} {st : List Value} {S : HS} {cells slots : Nat} {R : Room} {b : Nat} (As rest : List Value) (hC : Ct k (mt_X2_bottom R) (.ref b :: As) S Q) (hK : gK S b = 4) (hy : μ.2.1.cls = RX6) (hd : decode μ.2.2.1 pc = .ok (.invokevirtual 277, 3)) (hst : st = As.reverse ++ .ref b :: rest) (hn : As.length = 1) (hrm : okR (mt_X2_bottom R) μ cells slots rest) (kk : ∀ v S', Q v S' → X k μ Z (pc + 3) lv (v.toList ++ rest) S' (cells + R.cells) (slots + R.slots)) : X k μ Z pc lv st S cells slots := x_virtual (q := (RX2, TX2, 9)) 3 (mt_X2_bottom R) As rest hd hst hC hK (by decide) rfl rfl (by rw [hy]; exact tw_20_2) tw_20_3 tw_20_4 tw_19_10 tw_20_5 (by rw [hn]; exact (by decide +kernel : okN yX2_bottom 1)) hrm kk
theorem ca_X6_280 {k : KT} {μ : MT} {Z : ZT} {Q : Option Value → HS → Prop} {pc : Nat} {lv : List (Nat × Value)} {st : List Value} {S : HS} {cells slots : Nat} {R : Room} {b : Nat} (As rest : List Value) (hC : Ct k (mt_X6_isWithinEdges R) (.ref b :: As) S Q) (hK : gK S b = 8) (hy : μ.2.1.cls = RX6) (hd : decode μ.2.2.1 pc = .ok (.invokevirtual 280, 3)) (hst : st = As.reverse ++ .ref b :: rest) (hn : As.length = 3) (hrm : okR (mt_X6_isWithinEdges R) μ cells slots rest) (kk : ∀ v S', Q v S' → X k μ Z (pc + 3) lv (v.toList ++ rest) S' (cells + R.cells) (slots + R.slots)) : X k μ Z pc lv st S cells slots := x_virtual (q := (RX6, TX6, 9)) 7 (mt_X6_isWithinEdges R) As rest hd hst hC hK (by decide) rfl rfl (by rw [hy]; exact tw_20_6) tw_20_7 tw_20_8 tw_1_2 tw_20_9 (by rw [hn]; exact (by decide +kernel : okN yX6_isWithinEdges 3)) hrm kk
theorem ca_X6_284 {k : KT} {μ : MT} {Z : ZT} {Q : Option Value → HS → Prop} {pc : Nat} {lv : List (Nat × Value)} {st : List Value} {S : HS} {cells slots : Nat} {R : Room} {b : Nat} (As rest : List Value) (hC : Ct k (mt_X2_left R) (.ref b :: As) S Q) (hK : gK S b = 4) (hy : μ.2.1.cls = RX6) (hd : decode μ.2.2.1 pc = .ok (.invokevirtual 284, 3)) (hst : st = As.reverse ++ .ref b :: rest) (hn : As.length = 1) (hrm : okR (mt_X2_left R) μ cells slots rest) (kk : ∀ v S', Q v S' → X k μ Z (pc + 3) lv (v.toList ++ rest) S' (cells + R.cells) (slots + R.slots)) : X k μ Z pc lv st S cells slots := x_virtual (q := (RX2, TX2, 9)) 3 (mt_X2_left R) As rest hd hst hC hK (by decide) rfl rfl (by rw [hy]; exact tw_20_10) tw_20_11 tw_20_12 tw_19_10 tw_20_13 (by rw [hn]; exact (by decide +kernel : okN yX2_left 1)) hrm kk
theorem ca_X6_287 {k : KT} {μ : MT} {Z : ZT} {Q : Option Value → HS → Prop} {pc : Nat} {lv : List (Nat × Value)} {st : List Value} {S : HS} {cells slots : Nat} {R : Room} {b : Nat} (As rest : List Value) (hC : Ct k (mt_X2_right R) (.ref b :: As) S Q) (hK : gK S b = 4) (hy : μ.2.1.cls = RX6) (hd : decode μ.2.2.1 pc = .ok (.invokevirtual 287, 3)) (hst : st = As.reverse ++ .ref b :: rest) (hn : As.length = 1) (hrm : okR (mt_X2_right R) μ cells slots rest) (kk : ∀ v S', Q v S' → X k μ Z (pc + 3) lv (v.toList ++ rest) S' (cells + R.cells) (slots + R.slots)) : X k μ Z pc lv st S cells slots := x_virtual (q := (RX2, TX2, 9)) 3 (mt_X2_right R) As rest hd hst hC hK (by decide) rfl rfl (by rw [hy]; exact tw_20_14) tw_20_15 tw_20_16 tw_19_10 tw_20_17 (by rw [hn]; exact (by decide +kernel : okN yX2_right 1)) hrm kk
theorem ca_X2_33 {k : KT} {μ : MT} {Z : ZT} {Q : Option Value → HS → Prop} {pc : Nat} {lv : List (Nat × Value)} {st : List Value} {S : HS} {cells slots : Nat} {R : Room} {b : Nat} (As rest : List Value) (hC : Ct k (mt_X2_left R) (.ref b :: As) S Q) (hK : gK S b = 4) (hy : μ.2.1.cls = RX2) (hd : decode μ.2.2.1 pc = .ok (.invokevirtual 33, 3)) (hst : st = As.reverse ++ .ref b :: rest) (hn : As.length = 1) (hrm : okR (mt_X2_left R) μ cells slots rest) (kk : ∀ v S', Q v S' → X k μ Z (pc + 3) lv (v.toList ++ rest) S' (cells + R.cells) (slots + R.slots)) : X k μ Z pc lv st S cells slots := x_virtual (q := (RX2, TX2, 9)) 3 (mt_X2_left R) As rest hd hst hC hK (by decide) rfl rfl (by rw [hy]; exact tw_20_18) tw_20_11 tw_20_12 tw_19_10 tw_20_13 (by rw [hn]; exact (by decide +kernel : okN yX2_left 1)) hrm kk
theorem ca_X6_172 {k : KT} {μ : MT} {Z : ZT} {Q : Option Value → HS → Prop} {pc : Nat} {lv : List (Nat × Value)} {st : List Value} {S : HS} {cells slots : Nat} {R : Room} {b : Nat} (As rest : List Value) (hC : Ct k (mt_X6_changeNames R) (.ref b :: As) S Q) (hK : gK S b = 8) (hy : μ.2.1.cls = RX6) (hd : decode μ.2.2.1 pc = .ok (.invokevirtual 172, 3)) (hst : st = As.reverse ++ .ref b :: rest) (hn : As.length = 1) (hrm : okR (mt_X6_changeNames R) μ cells slots rest) (kk : ∀ v S', Q v S' → X k μ Z (pc + 3) lv (v.toList ++ rest) S' (cells + R.cells) (slots + R.slots)) : X k μ Z pc lv st S cells slots := x_virtual (q := (RX6, TX6, 9)) 7 (mt_X6_changeNames R) As rest hd hst hC hK (by decide) rfl rfl (by rw [hy]; exact tw_20_19) tw_20_20 tw_20_21 tw_1_2 tw_20_22 (by rw [hn]; exact (by decide +kernel : okN yX6_changeNames 1)) hrm kk
theorem ca_X6_293 {k : KT} {μ : MT} {Z : ZT} {Q : Option Value → HS → Prop} {pc : Nat} {lv : List (Nat × Value)} {st : List Value} {S : HS} {cells slots : Nat} {R : Room} (As rest : List Value) (hC : Ct k (mt_X6_tryWays R) As S Q) (hy : μ.2.1.cls = RX6) (hd : decode μ.2.2.1 pc = .ok (.invokestatic 293, 3)) (hst : st = As.reverse ++ rest) (hn : As.length = 4) (hrm : okR (mt_X6_tryWays R) μ cells slots rest) (kk : ∀ v S', Q v S' → X k μ Z (pc + 3) lv (v.toList ++ rest) S' (cells + R.cells) (slots + R.slots)) : X k μ Z pc lv st S cells slots := x_static (mt_X6_tryWays R) As rest hd hst hC (by rw [hy]; exact tw_21_4) tw_21_5 tw_1_2 tw_21_6 (by rw [hn]; exact (by decide +kernel : okN yX6_tryWays 4)) hrm kk
theorem ca_X6_300 {k : KT} {μ : MT} {Z : ZT} {Q : Option Value → HS → Prop} {pc : Nat} {lv : List (Nat × Value)} {st : List Value} {S : HS} {cells slots : Nat} {R : Room} {b : Nat} (As rest : List Value) (hC : Ct k (mt_X4_keep R) (.ref b :: As) S Q) (hK : gK S b = 6) (hy : μ.2.1.cls = RX6) (hd : decode μ.2.2.1 pc = .ok (.invokevirtual 300, 3)) (hst : st = As.reverse ++ .ref b :: rest) (hn : As.length = 1) (hrm : okR (mt_X4_keep R) μ cells slots rest) (kk : ∀ v S', Q v S' → X k μ Z (pc + 3) lv (v.toList ++ rest) S' (cells + R.cells) (slots + R.slots)) : X k μ Z pc lv st S cells slots := x_virtual (q := (RX4, TX4, 3)) 5 (mt_X4_keep R) As rest hd hst hC hK (by decide) rfl rfl (by rw [hy]; exact tw_21_8) tw_21_9 tw_21_10 tw_1_23 tw_21_11 (by rw [hn]; exact (by decide +kernel : okN yX4_keep 1)) hrm kk
theorem ca_X6_190 {k : KT} {μ : MT} {Z : ZT} {Q : Option Value → HS → Prop} {pc : Nat} {lv : List (Nat × Value)} {st : List Value} {S : HS} {cells slots : Nat} {R : Room} {b : Nat} (As rest : List Value) (hC : Ct k (mt_X2_allows R) (.ref b :: As) S Q) (hK : gK S b = 4) (hy : μ.2.1.cls = RX6) (hd : decode μ.2.2.1 pc = .ok (.invokevirtual 190, 3)) (hst : st = As.reverse ++ .ref b :: rest) (hn : As.length = 1) (hrm : okR (mt_X2_allows R) μ cells slots rest) (kk : ∀ v S', Q v S' → X k μ Z (pc + 3) lv (v.toList ++ rest) S' (cells + R.cells) (slots + R.slots)) : X k μ Z pc lv st S cells slots := x_virtual (q := (RX2, TX2, 9)) 3 (mt_X2_allows R) As rest hd hst hC hK (by decide) rfl rfl (by rw [hy]; exact tw_21_14) tw_21_15 tw_21_16 tw_19_10 tw_21_17 (by rw [hn]; exact (by decide +kernel : okN yX2_allows 1)) hrm kk
theorem ca_X6_304 {k : KT} {μ : MT} {Z : ZT} {Q : Option Value → HS → Prop} {pc : Nat} {lv : List (Nat × Value)} {st : List Value} {S : HS} {cells slots : Nat} {R : Room} (As rest : List Value) (hC : Ct k (mt_X6_isClear R) As S Q) (hy : μ.2.1.cls = RX6) (hd : decode μ.2.2.1 pc = .ok (.invokestatic 304, 3)) (hst : st = As.reverse ++ rest) (hn : As.length = 5) (hrm : okR (mt_X6_isClear R) μ cells slots rest) (kk : ∀ v S', Q v S' → X k μ Z (pc + 3) lv (v.toList ++ rest) S' (cells + R.cells) (slots + R.slots)) : X k μ Z pc lv st S cells slots := x_static (mt_X6_isClear R) As rest hd hst hC (by rw [hy]; exact tw_21_19) tw_21_20 tw_1_2 tw_21_21 (by rw [hn]; exact (by decide +kernel : okN yX6_isClear 5)) hrm kk
theorem ca_X6_314 {k : KT} {μ : MT} {Z : ZT} {Q : Option Value → HS → Prop} {pc : Nat} {lv : List (Nat × Value)} {st : List Value} {S : HS} {cells slots : Nat} {R : Room} {b : Nat} (As rest : List Value) (hC : Ct k (mt_X2_covers R) (.ref b :: As) S Q) (hK : gK S b = 4) (hy : μ.2.1.cls = RX6) (hd : decode μ.2.2.1 pc = .ok (.invokevirtual 314, 3)) (hst : st = As.reverse ++ .ref b :: rest) (hn : As.length = 3) (hrm : okR (mt_X2_covers R) μ cells slots rest) (kk : ∀ v S', Q v S' → X k μ Z (pc + 3) lv (v.toList ++ rest) S' (cells + R.cells) (slots + R.slots)) : X k μ Z pc lv st S cells slots := x_virtual (q := (RX2, TX2, 9)) 3 (mt_X2_covers R) As rest hd hst hC hK (by decide) rfl rfl (by rw [hy]; exact tw_21_22) tw_21_23 tw_22_0 tw_19_10 tw_22_1 (by rw [hn]; exact (by decide +kernel : okN yX2_covers 3)) hrm kk
theorem ca_X2_37 {k : KT} {μ : MT} {Z : ZT} {Q : Option Value → HS → Prop} {pc : Nat} {lv : List (Nat × Value)} {st : List Value} {S : HS} {cells slots : Nat} {R : Room} {b : Nat} (As rest : List Value) (hC : Ct k (mt_X2_right R) (.ref b :: As) S Q) (hK : gK S b = 4) (hy : μ.2.1.cls = RX2) (hd : decode μ.2.2.1 pc = .ok (.invokevirtual 37, 3)) (hst : st = As.reverse ++ .ref b :: rest) (hn : As.length = 1) (hrm : okR (mt_X2_right R) μ cells slots rest) (kk : ∀ v S', Q v S' → X k μ Z (pc + 3) lv (v.toList ++ rest) S' (cells + R.cells) (slots + R.slots)) : X k μ Z pc lv st S cells slots := x_virtual (q := (RX2, TX2, 9)) 3 (mt_X2_right R) As rest hd hst hC hK (by decide) rfl rfl (by rw [hy]; exact tw_22_3) tw_20_15 tw_20_16 tw_19_10 tw_20_17 (by rw [hn]; exact (by decide +kernel : okN yX2_right 1)) hrm kk
theorem ca_X2_40 {k : KT} {μ : MT} {Z : ZT} {Q : Option Value → HS → Prop} {pc : Nat} {lv : List (Nat × Value)} {st : List Value} {S : HS} {cells slots : Nat} {R : Room} {b : Nat} (As rest : List Value) (hC : Ct k (mt_X2_bottom R) (.ref b :: As) S Q) (hK : gK S b = 4) (hy : μ.2.1.cls = RX2) (hd : decode μ.2.2.1 pc = .ok (.invokevirtual 40, 3)) (hst : st = As.reverse ++ .ref b :: rest) (hn : As.length = 1) (hrm : okR (mt_X2_bottom R) μ cells slots rest) (kk : ∀ v S', Q v S' → X k μ Z (pc + 3) lv (v.toList ++ rest) S' (cells + R.cells) (slots + R.slots)) : X k μ Z pc lv st S cells slots := x_virtual (q := (RX2, TX2, 9)) 3 (mt_X2_bottom R) As rest hd hst hC hK (by decide) rfl rfl (by rw [hy]; exact tw_22_4) tw_20_3 tw_20_4 tw_19_10 tw_20_5 (by rw [hn]; exact (by decide +kernel : okN yX2_bottom 1)) hrm kk
theorem ca_X6_311 {k : KT} {μ : MT} {Z : ZT} {Q : Option Value → HS → Prop} {pc : Nat} {lv : List (Nat × Value)} {st : List Value} {S : HS} {cells slots : Nat} {R : Room} {b : Nat} (As rest : List Value) (hC : Ct k (mt_X2_costOf R) (.ref b :: As) S Q) (hK : gK S b = 4) (hy : μ.2.1.cls = RX6) (hd : decode μ.2.2.1 pc = .ok (.invokevirtual 311, 3)) (hst : st = As.reverse ++ .ref b :: rest) (hn : As.length = 1) (hrm : okR (mt_X2_costOf R) μ cells slots rest) (kk : ∀ v S', Q v S' → X k μ Z (pc + 3) lv (v.toList ++ rest) S' (cells + R.cells) (slots + R.slots)) : X k μ Z pc lv st S cells slots := x_virtual (q := (RX2, TX2, 9)) 3 (mt_X2_costOf R) As rest hd hst hC hK (by decide) rfl rfl (by rw [hy]; exact tw_22_5) tw_22_6 tw_22_7 tw_19_10 tw_22_8 (by rw [hn]; exact (by decide +kernel : okN yX2_costOf 1)) hrm kk
theorem ca_L_65 {k : KT} {μ : MT} {Z : ZT} {Q : Option Value → HS → Prop} {pc : Nat} {lv : List (Nat × Value)} {st : List Value} {S : HS} {cells slots : Nat} {R : Room} {b : Nat} (As rest : List Value) (hC : Ct k (mt_X7_name R) (.ref b :: As) S Q) (hK : gK S b = 9) (hy : μ.2.1.cls = RL) (hd : decode μ.2.2.1 pc = .ok (.invokevirtual 65, 3)) (hst : st = As.reverse ++ .ref b :: rest) (hn : As.length = 4) (hrm : okR (mt_X7_name R) μ cells slots rest) (kk : ∀ v S', Q v S' → X k μ Z (pc + 3) lv (v.toList ++ rest) S' (cells + R.cells) (slots + R.slots)) : X k μ Z pc lv st S cells slots := x_virtual (q := (RX7, TX7, 26)) 8 (mt_X7_name R) As rest hd hst hC hK (by decide) rfl rfl (by rw [hy]; exact tw_22_9) tw_22_10 tw_22_11 tw_1_5 tw_22_12 (by rw [hn]; exact (by decide +kernel : okN yX7_name 4)) hrm kk
theorem ca_X7_136 {k : KT} {μ : MT} {Z : ZT} {Q : Option Value → HS → Prop} {pc : Nat} {lv : List (Nat × Value)} {st : List Value} {S : HS} {cells slots : Nat} {R : Room} {b : Nat} (As rest : List Value) (hC : Ct k (mt_X7_namesIn R) (.ref b :: As) S Q) (hK : gK S b = 9) (hy : μ.2.1.cls = RX7) (hd : decode μ.2.2.1 pc = .ok (.invokevirtual 136, 3)) (hst : st = As.reverse ++ .ref b :: rest) (hn : As.length = 1) (hrm : okR (mt_X7_namesIn R) μ cells slots rest) (kk : ∀ v S', Q v S' → X k μ Z (pc + 3) lv (v.toList ++ rest) S' (cells + R.cells) (slots + R.slots)) : X k μ Z pc lv st S cells slots := x_virtual (q := (RX7, TX7, 26)) 8 (mt_X7_namesIn R) As rest hd hst hC hK (by decide) rfl rfl (by rw [hy]; exact tw_22_14) tw_22_15 tw_22_16 tw_1_5 tw_22_17 (by rw [hn]; exact (by decide +kernel : okN yX7_namesIn 1)) hrm kk
theorem ca_L_66 {k : KT} {μ : MT} {Z : ZT} {Q : Option Value → HS → Prop} {pc : Nat} {lv : List (Nat × Value)} {st : List Value} {S : HS} {cells slots : Nat} {R : Room} {b : Nat} (As rest : List Value) (hC : Ct k (mt_X6_strike R) (.ref b :: As) S Q) (hK : gK S b = 8) (hy : μ.2.1.cls = RL) (hd : decode μ.2.2.1 pc = .ok (.invokevirtual 66, 3)) (hst : st = As.reverse ++ .ref b :: rest) (hn : As.length = 1) (hrm : okR (mt_X6_strike R) μ cells slots rest) (kk : ∀ v S', Q v S' → X k μ Z (pc + 3) lv (v.toList ++ rest) S' (cells + R.cells) (slots + R.slots)) : X k μ Z pc lv st S cells slots := x_virtual (q := (RX6, TX6, 9)) 7 (mt_X6_strike R) As rest hd hst hC hK (by decide) rfl rfl (by rw [hy]; exact tw_22_18) tw_22_19 tw_22_20 tw_1_2 tw_22_21 (by rw [hn]; exact (by decide +kernel : okN yX6_strike 1)) hrm kk
theorem ca_X6_176 {k : KT} {μ : MT} {Z : ZT} {Q : Option Value → HS → Prop} {pc : Nat} {lv : List (Nat × Value)} {st : List Value} {S : HS} {cells slots : Nat} {R : Room} {b : Nat} (As rest : List Value) (hC : Ct k (mt_X6_nameOf R) (.ref b :: As) S Q) (hK : gK S b = 8) (hy : μ.2.1.cls = RX6) (hd : decode μ.2.2.1 pc = .ok (.invokevirtual 176, 3)) (hst : st = As.reverse ++ .ref b :: rest) (hn : As.length = 1) (hrm : okR (mt_X6_nameOf R) μ cells slots rest) (kk : ∀ v S', Q v S' → X k μ Z (pc + 3) lv (v.toList ++ rest) S' (cells + R.cells) (slots + R.slots)) : X k μ Z pc lv st S cells slots := x_virtual (q := (RX6, TX6, 9)) 7 (mt_X6_nameOf R) As rest hd hst hC hK (by decide) rfl rfl (by rw [hy]; exact tw_23_0) tw_23_1 tw_23_2 tw_1_2 tw_23_3 (by rw [hn]; exact (by decide +kernel : okN yX6_nameOf 1)) hrm kk
theorem ca_X6_186 {k : KT} {μ : MT} {Z : ZT} {Q : Option Value → HS → Prop} {pc : Nat} {lv : List (Nat × Value)} {st : List Value} {S : HS} {cells slots : Nat} {R : Room} {b : Nat} (As rest : List Value) (hC : Ct k (mt_X1_takeOut R) (.ref b :: As) S Q) (hK : gK S b = 3) (hy : μ.2.1.cls = RX6) (hd : decode μ.2.2.1 pc = .ok (.invokevirtual 186, 3)) (hst : st = As.reverse ++ .ref b :: rest) (hn : As.length = 1) (hrm : okR (mt_X1_takeOut R) μ cells slots rest) (kk : ∀ v S', Q v S' → X k μ Z (pc + 3) lv (v.toList ++ rest) S' (cells + R.cells) (slots + R.slots)) : X k μ Z pc lv st S cells slots := x_virtual (q := (RX1, TX1, 5)) 2 (mt_X1_takeOut R) As rest hd hst hC hK (by decide) rfl rfl (by rw [hy]; exact tw_23_4) tw_23_5 tw_23_6 tw_2_5 tw_23_7 (by rw [hn]; exact (by decide +kernel : okN yX1_takeOut 1)) hrm kk
theorem ca_X1_23 {k : KT} {μ : MT} {Z : ZT} {Q : Option Value → HS → Prop} {pc : Nat} {lv : List (Nat × Value)} {st : List Value} {S : HS} {cells slots : Nat} {R : Room} {b : Nat} (As rest : List Value) (hC : Ct k (mt_Jx4a65c_size_8abf5 R) (.ref b :: As) S Q) (hK : gK S b = 1) (hy : μ.2.1.cls = RX1) (hd : decode μ.2.2.1 pc = .ok (.invokevirtual 23, 3)) (hst : st = As.reverse ++ .ref b :: rest) (hn : As.length = 0) (hrm : okR (mt_Jx4a65c_size_8abf5 R) μ cells slots rest) (kk : ∀ v S', Q v S' → X k μ Z (pc + 3) lv (v.toList ++ rest) S' (cells + R.cells) (slots + R.slots)) : X k μ Z pc lv st S cells slots := x_virtual (q := (RJx4a65c, TJx4a65c, 3)) 0 (mt_Jx4a65c_size_8abf5 R) As rest hd hst hC hK (by decide) rfl rfl (by rw [hy]; exact tw_23_8) tw_7_0 tw_7_1 tw_1_18 tw_7_2 (by rw [hn]; exact (by decide +kernel : okN yJx4a65c_size_8abf5 0)) hrm kk
theorem ca_X1_27 {k : KT} {μ : MT} {Z : ZT} {Q : Option Value → HS → Prop} {pc : Nat} {lv : List (Nat × Value)} {st : List Value} {S : HS} {cells slots : Nat} {R : Room} {b : Nat} (As rest : List Value) (hC : Ct k (mt_Jx4a65c_get_915e3 R) (.ref b :: As) S Q) (hK : gK S b = 1) (hy : μ.2.1.cls = RX1) (hd : decode μ.2.2.1 pc = .ok (.invokevirtual 27, 3)) (hst : st = As.reverse ++ .ref b :: rest) (hn : As.length = 1) (hrm : okR (mt_Jx4a65c_get_915e3 R) μ cells slots rest) (kk : ∀ v S', Q v S' → X k μ Z (pc + 3) lv (v.toList ++ rest) S' (cells + R.cells) (slots + R.slots)) : X k μ Z pc lv st S cells slots := x_virtual (q := (RJx4a65c, TJx4a65c, 3)) 0 (mt_Jx4a65c_get_915e3 R) As rest hd hst hC hK (by decide) rfl rfl (by rw [hy]; exact tw_23_9) tw_10_14 tw_10_15 tw_1_18 tw_10_16 (by rw [hn]; exact (by decide +kernel : okN yJx4a65c_get_915e3 1)) hrm kk
theorem ca_X1_31 {k : KT} {μ : MT} {Z : ZT} {Q : Option Value → HS → Prop} {pc : Nat} {lv : List (Nat × Value)} {st : List Value} {S : HS} {cells slots : Nat} {R : Room} {b : Nat} (As rest : List Value) (hC : Ct k (mt_Jx4a65c_remove_915e3 R) (.ref b :: As) S Q) (hK : gK S b = 1) (hy : μ.2.1.cls = RX1) (hd : decode μ.2.2.1 pc = .ok (.invokevirtual 31, 3)) (hst : st = As.reverse ++ .ref b :: rest) (hn : As.length = 1) (hrm : okR (mt_Jx4a65c_remove_915e3 R) μ cells slots rest) (kk : ∀ v S', Q v S' → X k μ Z (pc + 3) lv (v.toList ++ rest) S' (cells + R.cells) (slots + R.slots)) : X k μ Z pc lv st S cells slots := x_virtual (q := (RJx4a65c, TJx4a65c, 3)) 0 (mt_Jx4a65c_remove_915e3 R) As rest hd hst hC hK (by decide) rfl rfl (by rw [hy]; exact tw_23_10) tw_23_11 tw_23_12 tw_1_18 tw_23_13 (by rw [hn]; exact (by decide +kernel : okN yJx4a65c_remove_915e3 1)) hrm kk
theorem ca_Jx4a65c_144 {k : KT} {μ : MT} {Z : ZT} {Q : Option Value → HS → Prop} {pc : Nat} {lv : List (Nat × Value)} {st : List Value} {S : HS} {cells slots : Nat} {R : Room} {b : Nat} (As rest : List Value) (hC : Ct k (mt_Jx4a65c_fastRemove_b59b0 R) (.ref b :: As) S Q) (hK : gK S b = 1) (hy : μ.2.1.cls = RJx4a65c) (hd : decode μ.2.2.1 pc = .ok (.invokevirtual 144, 3)) (hst : st = As.reverse ++ .ref b :: rest) (hn : As.length = 2) (hrm : okR (mt_Jx4a65c_fastRemove_b59b0 R) μ cells slots rest) (kk : ∀ v S', Q v S' → X k μ Z (pc + 3) lv (v.toList ++ rest) S' (cells + R.cells) (slots + R.slots)) : X k μ Z pc lv st S cells slots := x_virtual (q := (RJx4a65c, TJx4a65c, 3)) 0 (mt_Jx4a65c_fastRemove_b59b0 R) As rest hd hst hC hK (by decide) rfl rfl (by rw [hy]; exact tw_23_14) tw_23_15 tw_23_16 tw_1_18 tw_23_17 (by rw [hn]; exact (by decide +kernel : okN yJx4a65c_fastRemove_b59b0 2)) hrm kk
theorem ca_L_70 {k : KT} {μ : MT} {Z : ZT} {Q : Option Value → HS → Prop} {pc : Nat} {lv : List (Nat × Value)} {st : List Value} {S : HS} {cells slots : Nat} {R : Room} {b : Nat} (As rest : List Value) (hC : Ct k (mt_X7_strike R) (.ref b :: As) S Q) (hK : gK S b = 9) (hy : μ.2.1.cls = RL) (hd : decode μ.2.2.1 pc = .ok (.invokevirtual 70, 3)) (hst : st = As.reverse ++ .ref b :: rest) (hn : As.length = 1) (hrm : okR (mt_X7_strike R) μ cells slots rest) (kk : ∀ v S', Q v S' → X k μ Z (pc + 3) lv (v.toList ++ rest) S' (cells + R.cells) (slots + R.slots)) : X k μ Z pc lv st S cells slots := x_virtual (q := (RX7, TX7, 26)) 8 (mt_X7_strike R) As rest hd hst hC hK (by decide) rfl rfl (by rw [hy]; exact tw_23_19) tw_23_20 tw_23_21 tw_1_5 tw_23_22 (by rw [hn]; exact (by decide +kernel : okN yX7_strike 1)) hrm kk
theorem ca_X7_139 {k : KT} {μ : MT} {Z : ZT} {Q : Option Value → HS → Prop} {pc : Nat} {lv : List (Nat × Value)} {st : List Value} {S : HS} {cells slots : Nat} {R : Room} {b : Nat} (As rest : List Value) (hC : Ct k (mt_X7_isName R) (.ref b :: As) S Q) (hK : gK S b = 9) (hy : μ.2.1.cls = RX7) (hd : decode μ.2.2.1 pc = .ok (.invokevirtual 139, 3)) (hst : st = As.reverse ++ .ref b :: rest) (hn : As.length = 1) (hrm : okR (mt_X7_isName R) μ cells slots rest) (kk : ∀ v S', Q v S' → X k μ Z (pc + 3) lv (v.toList ++ rest) S' (cells + R.cells) (slots + R.slots)) : X k μ Z pc lv st S cells slots := x_virtual (q := (RX7, TX7, 26)) 8 (mt_X7_isName R) As rest hd hst hC hK (by decide) rfl rfl (by rw [hy]; exact tw_23_23) tw_24_0 tw_24_1 tw_1_5 tw_24_2 (by rw [hn]; exact (by decide +kernel : okN yX7_isName 1)) hrm kk
theorem ca_L_71 {k : KT} {μ : MT} {Z : ZT} {Q : Option Value → HS → Prop} {pc : Nat} {lv : List (Nat × Value)} {st : List Value} {S : HS} {cells slots : Nat} {R : Room} {b : Nat} (As rest : List Value) (hC : Ct k (mt_X6_may R) (.ref b :: As) S Q) (hK : gK S b = 8) (hy : μ.2.1.cls = RL) (hd : decode μ.2.2.1 pc = .ok (.invokevirtual 71, 3)) (hst : st = As.reverse ++ .ref b :: rest) (hn : As.length = 2) (hrm : okR (mt_X6_may R) μ cells slots rest) (kk : ∀ v S', Q v S' → X k μ Z (pc + 3) lv (v.toList ++ rest) S' (cells + R.cells) (slots + R.slots)) : X k μ Z pc lv st S cells slots := x_virtual (q := (RX6, TX6, 9)) 7 (mt_X6_may R) As rest hd hst hC hK (by decide) rfl rfl (by rw [hy]; exact tw_24_3) tw_24_4 tw_24_5 tw_1_2 tw_24_6 (by rw [hn]; exact (by decide +kernel : okN yX6_may 2)) hrm kk
theorem ca_L_74 {k : KT} {μ : MT} {Z : ZT} {Q : Option Value → HS → Prop} {pc : Nat} {lv : List (Nat × Value)} {st : List Value} {S : HS} {cells slots : Nat} {R : Room} {b : Nat} (As rest : List Value) (hC : Ct k (mt_X7_may R) (.ref b :: As) S Q) (hK : gK S b = 9) (hy : μ.2.1.cls = RL) (hd : decode μ.2.2.1 pc = .ok (.invokevirtual 74, 3)) (hst : st = As.reverse ++ .ref b :: rest) (hn : As.length = 2) (hrm : okR (mt_X7_may R) μ cells slots rest) (kk : ∀ v S', Q v S' → X k μ Z (pc + 3) lv (v.toList ++ rest) S' (cells + R.cells) (slots + R.slots)) : X k μ Z pc lv st S cells slots := x_virtual (q := (RX7, TX7, 26)) 8 (mt_X7_may R) As rest hd hst hC hK (by decide) rfl rfl (by rw [hy]; exact tw_24_7) tw_24_8 tw_24_9 tw_1_5 tw_24_10 (by rw [hn]; exact (by decide +kernel : okN yX7_may 2)) hrm kk
theorem ca_X7_151 {k : KT} {μ : MT} {Z : ZT} {Q : Option Value → HS → Prop} {pc : Nat} {lv : List (Nat × Value)} {st : List Value} {S : HS} {cells slots : Nat} {R : Room} {b : Nat} (As rest : List Value) (hC : Ct k (mt_X7_canBe R) (.ref b :: As) S Q) (hK : gK S b = 9) (hy : μ.2.1.cls = RX7) (hd : decode μ.2.2.1 pc = .ok (.invokevirtual 151, 3)) (hst : st = As.reverse ++ .ref b :: rest) (hn : As.length = 2) (hrm : okR (mt_X7_canBe R) μ cells slots rest) (kk : ∀ v S', Q v S' → X k μ Z (pc + 3) lv (v.toList ++ rest) S' (cells + R.cells) (slots + R.slots)) : X k μ Z pc lv st S cells slots := x_virtual (q := (RX7, TX7, 26)) 8 (mt_X7_canBe R) As rest hd hst hC hK (by decide) rfl rfl (by rw [hy]; exact tw_24_11) tw_24_12 tw_24_13 tw_1_5 tw_24_14 (by rw [hn]; exact (by decide +kernel : okN yX7_canBe 2)) hrm kk
theorem ca_X7_142 {k : KT} {μ : MT} {Z : ZT} {Q : Option Value → HS → Prop} {pc : Nat} {lv : List (Nat × Value)} {st : List Value} {S : HS} {cells slots : Nat} {R : Room} {b : Nat} (As rest : List Value) (hC : Ct k (mt_X7_left R) (.ref b :: As) S Q) (hK : gK S b = 9) (hy : μ.2.1.cls = RX7) (hd : decode μ.2.2.1 pc = .ok (.invokevirtual 142, 3)) (hst : st = As.reverse ++ .ref b :: rest) (hn : As.length = 2) (hrm : okR (mt_X7_left R) μ cells slots rest) (kk : ∀ v S', Q v S' → X k μ Z (pc + 3) lv (v.toList ++ rest) S' (cells + R.cells) (slots + R.slots)) : X k μ Z pc lv st S cells slots := x_virtual (q := (RX7, TX7, 26)) 8 (mt_X7_left R) As rest hd hst hC hK (by decide) rfl rfl (by rw [hy]; exact tw_24_15) tw_24_16 tw_24_17 tw_1_5 tw_24_18 (by rw [hn]; exact (by decide +kernel : okN yX7_left 2)) hrm kk
theorem ca_X7_145 {k : KT} {μ : MT} {Z : ZT} {Q : Option Value → HS → Prop} {pc : Nat} {lv : List (Nat × Value)} {st : List Value} {S : HS} {cells slots : Nat} {R : Room} {b : Nat} (As rest : List Value) (hC : Ct k (mt_X7_low R) (.ref b :: As) S Q) (hK : gK S b = 9) (hy : μ.2.1.cls = RX7) (hd : decode μ.2.2.1 pc = .ok (.invokevirtual 145, 3)) (hst : st = As.reverse ++ .ref b :: rest) (hn : As.length = 2) (hrm : okR (mt_X7_low R) μ cells slots rest) (kk : ∀ v S', Q v S' → X k μ Z (pc + 3) lv (v.toList ++ rest) S' (cells + R.cells) (slots + R.slots)) : X k μ Z pc lv st S cells slots := x_virtual (q := (RX7, TX7, 26)) 8 (mt_X7_low R) As rest hd hst hC hK (by decide) rfl rfl (by rw [hy]; exact tw_24_19) tw_24_20 tw_24_21 tw_1_5 tw_24_22 (by rw [hn]; exact (by decide +kernel : okN yX7_low 2)) hrm kk
theorem ca_X7_148 {k : KT} {μ : MT} {Z : ZT} {Q : Option Value → HS → Prop} {pc : Nat} {lv : List (Nat × Value)} {st : List Value} {S : HS} {cells slots : Nat} {R : Room} {b : Nat} (As rest : List Value) (hC : Ct k (mt_X7_isWithin R) (.ref b :: As) S Q) (hK : gK S b = 9) (hy : μ.2.1.cls = RX7) (hd : decode μ.2.2.1 pc = .ok (.invokevirtual 148, 3)) (hst : st = As.reverse ++ .ref b :: rest) (hn : As.length = 2) (hrm : okR (mt_X7_isWithin R) μ cells slots rest) (kk : ∀ v S', Q v S' → X k μ Z (pc + 3) lv (v.toList ++ rest) S' (cells + R.cells) (slots + R.slots)) : X k μ Z pc lv st S cells slots := x_virtual (q := (RX7, TX7, 26)) 8 (mt_X7_isWithin R) As rest hd hst hC hK (by decide) rfl rfl (by rw [hy]; exact tw_24_23) tw_25_0 tw_25_1 tw_1_5 tw_25_2 (by rw [hn]; exact (by decide +kernel : okN yX7_isWithin 2)) hrm kk
theorem ca_L_75 {k : KT} {μ : MT} {Z : ZT} {Q : Option Value → HS → Prop} {pc : Nat} {lv : List (Nat × Value)} {st : List Value} {S : HS} {cells slots : Nat} {R : Room} {b : Nat} (As rest : List Value) (hC : Ct k (mt_X6_set R) (.ref b :: As) S Q) (hK : gK S b = 8) (hy : μ.2.1.cls = RL) (hd : decode μ.2.2.1 pc = .ok (.invokevirtual 75, 3)) (hst : st = As.reverse ++ .ref b :: rest) (hn : As.length = 1) (hrm : okR (mt_X6_set R) μ cells slots rest) (kk : ∀ v S', Q v S' → X k μ Z (pc + 3) lv (v.toList ++ rest) S' (cells + R.cells) (slots + R.slots)) : X k μ Z pc lv st S cells slots := x_virtual (q := (RX6, TX6, 9)) 7 (mt_X6_set R) As rest hd hst hC hK (by decide) rfl rfl (by rw [hy]; exact tw_25_3) tw_25_4 tw_25_5 tw_1_2 tw_25_6 (by rw [hn]; exact (by decide +kernel : okN yX6_set 1)) hrm kk
theorem ca_L_78 {k : KT} {μ : MT} {Z : ZT} {Q : Option Value → HS → Prop} {pc : Nat} {lv : List (Nat × Value)} {st : List Value} {S : HS} {cells slots : Nat} {R : Room} {b : Nat} (As rest : List Value) (hC : Ct k (mt_X7_set R) (.ref b :: As) S Q) (hK : gK S b = 9) (hy : μ.2.1.cls = RL) (hd : decode μ.2.2.1 pc = .ok (.invokevirtual 78, 3)) (hst : st = As.reverse ++ .ref b :: rest) (hn : As.length = 1) (hrm : okR (mt_X7_set R) μ cells slots rest) (kk : ∀ v S', Q v S' → X k μ Z (pc + 3) lv (v.toList ++ rest) S' (cells + R.cells) (slots + R.slots)) : X k μ Z pc lv st S cells slots := x_virtual (q := (RX7, TX7, 26)) 8 (mt_X7_set R) As rest hd hst hC hK (by decide) rfl rfl (by rw [hy]; exact tw_25_7) tw_25_8 tw_25_9 tw_1_5 tw_25_10 (by rw [hn]; exact (by decide +kernel : okN yX7_set 1)) hrm kk
theorem ca_X7_164 {k : KT} {μ : MT} {Z : ZT} {Q : Option Value → HS → Prop} {pc : Nat} {lv : List (Nat × Value)} {st : List Value} {S : HS} {cells slots : Nat} {R : Room} {b : Nat} (As rest : List Value) (hC : Ct k (mt_X7_sets R) (.ref b :: As) S Q) (hK : gK S b = 9) (hy : μ.2.1.cls = RX7) (hd : decode μ.2.2.1 pc = .ok (.invokevirtual 164, 3)) (hst : st = As.reverse ++ .ref b :: rest) (hn : As.length = 1) (hrm : okR (mt_X7_sets R) μ cells slots rest) (kk : ∀ v S', Q v S' → X k μ Z (pc + 3) lv (v.toList ++ rest) S' (cells + R.cells) (slots + R.slots)) : X k μ Z pc lv st S cells slots := x_virtual (q := (RX7, TX7, 26)) 8 (mt_X7_sets R) As rest hd hst hC hK (by decide) rfl rfl (by rw [hy]; exact tw_25_11) tw_25_12 tw_25_13 tw_1_5 tw_25_14 (by rw [hn]; exact (by decide +kernel : okN yX7_sets 1)) hrm kk
theorem ca_X7_157 {k : KT} {μ : MT} {Z : ZT} {Q : Option Value → HS → Prop} {pc : Nat} {lv : List (Nat × Value)} {st : List Value} {S : HS} {cells slots : Nat} {R : Room} {b : Nat} (As rest : List Value) (hC : Ct k (mt_X7_isGood R) (.ref b :: As) S Q) (hK : gK S b = 9) (hy : μ.2.1.cls = RX7) (hd : decode μ.2.2.1 pc = .ok (.invokevirtual 157, 3)) (hst : st = As.reverse ++ .ref b :: rest) (hn : As.length = 1) (hrm : okR (mt_X7_isGood R) μ cells slots rest) (kk : ∀ v S', Q v S' → X k μ Z (pc + 3) lv (v.toList ++ rest) S' (cells + R.cells) (slots + R.slots)) : X k μ Z pc lv st S cells slots := x_virtual (q := (RX7, TX7, 26)) 8 (mt_X7_isGood R) As rest hd hst hC hK (by decide) rfl rfl (by rw [hy]; exact tw_25_16) tw_25_17 tw_25_18 tw_1_5 tw_25_19 (by rw [hn]; exact (by decide +kernel : okN yX7_isGood 1)) hrm kk
theorem ca_X7_160 {k : KT} {μ : MT} {Z : ZT} {Q : Option Value → HS → Prop} {pc : Nat} {lv : List (Nat × Value)} {st : List Value} {S : HS} {cells slots : Nat} {R : Room} {b : Nat} (As rest : List Value) (hC : Ct k (mt_X7_areApart R) (.ref b :: As) S Q) (hK : gK S b = 9) (hy : μ.2.1.cls = RX7) (hd : decode μ.2.2.1 pc = .ok (.invokevirtual 160, 3)) (hst : st = As.reverse ++ .ref b :: rest) (hn : As.length = 4) (hrm : okR (mt_X7_areApart R) μ cells slots rest) (kk : ∀ v S', Q v S' → X k μ Z (pc + 3) lv (v.toList ++ rest) S' (cells + R.cells) (slots + R.slots)) : X k μ Z pc lv st S cells slots := x_virtual (q := (RX7, TX7, 26)) 8 (mt_X7_areApart R) As rest hd hst hC hK (by decide) rfl rfl (by rw [hy]; exact tw_25_20) tw_25_21 tw_25_22 tw_1_5 tw_25_23 (by rw [hn]; exact (by decide +kernel : okN yX7_areApart 4)) hrm kk
theorem ca_L_79 {k : KT} {μ : MT} {Z : ZT} {Q : Option Value → HS → Prop} {pc : Nat} {lv : List (Nat × Value)} {st : List Value} {S : HS} {cells slots : Nat} {R : Room} {b : Nat} (As rest : List Value) (hC : Ct k (mt_X6_cost R) (.ref b :: As) S Q) (hK : gK S b = 8) (hy : μ.2.1.cls = RL) (hd : decode μ.2.2.1 pc = .ok (.invokevirtual 79, 3)) (hst : st = As.reverse ++ .ref b :: rest) (hn : As.length = 1) (hrm : okR (mt_X6_cost R) μ cells slots rest) (kk : ∀ v S', Q v S' → X k μ Z (pc + 3) lv (v.toList ++ rest) S' (cells + R.cells) (slots + R.slots)) : X k μ Z pc lv st S cells slots := x_virtual (q := (RX6, TX6, 9)) 7 (mt_X6_cost R) As rest hd hst hC hK (by decide) rfl rfl (by rw [hy]; exact tw_26_0) tw_26_1 tw_26_2 tw_1_2 tw_26_3 (by rw [hn]; exact (by decide +kernel : okN yX6_cost 1)) hrm kk
theorem ca_L_82 {k : KT} {μ : MT} {Z : ZT} {Q : Option Value → HS → Prop} {pc : Nat} {lv : List (Nat × Value)} {st : List Value} {S : HS} {cells slots : Nat} {R : Room} {b : Nat} (As rest : List Value) (hC : Ct k (mt_X7_cost R) (.ref b :: As) S Q) (hK : gK S b = 9) (hy : μ.2.1.cls = RL) (hd : decode μ.2.2.1 pc = .ok (.invokevirtual 82, 3)) (hst : st = As.reverse ++ .ref b :: rest) (hn : As.length = 1) (hrm : okR (mt_X7_cost R) μ cells slots rest) (kk : ∀ v S', Q v S' → X k μ Z (pc + 3) lv (v.toList ++ rest) S' (cells + R.cells) (slots + R.slots)) : X k μ Z pc lv st S cells slots := x_virtual (q := (RX7, TX7, 26)) 8 (mt_X7_cost R) As rest hd hst hC hK (by decide) rfl rfl (by rw [hy]; exact tw_26_4) tw_26_5 tw_26_6 tw_1_5 tw_26_7 (by rw [hn]; exact (by decide +kernel : okN yX7_cost 1)) hrm kk
theorem ca_L_83 {k : KT} {μ : MT} {Z : ZT} {Q : Option Value → HS → Prop} {pc : Nat} {lv : List (Nat × Value)} {st : List Value} {S : HS} {cells slots : Nat} {R : Room} {b : Nat} (As rest : List Value) (hC : Ct k (mt_X6_told R) (.ref b :: As) S Q) (hK : gK S b = 8) (hy : μ.2.1.cls = RL) (hd : decode μ.2.2.1 pc = .ok (.invokevirtual 83, 3)) (hst : st = As.reverse ++ .ref b :: rest) (hn : As.length = 2) (hrm : okR (mt_X6_told R) μ cells slots rest) (kk : ∀ v S', Q v S' → X k μ Z (pc + 3) lv (v.toList ++ rest) S' (cells + R.cells) (slots + R.slots)) : X k μ Z pc lv st S cells slots := x_virtual (q := (RX6, TX6, 9)) 7 (mt_X6_told R) As rest hd hst hC hK (by decide) rfl rfl (by rw [hy]; exact tw_26_8) tw_26_9 tw_26_10 tw_1_2 tw_26_11 (by rw [hn]; exact (by decide +kernel : okN yX6_told 2)) hrm kk
theorem ca_L_86 {k : KT} {μ : MT} {Z : ZT} {Q : Option Value → HS → Prop} {pc : Nat} {lv : List (Nat × Value)} {st : List Value} {S : HS} {cells slots : Nat} {R : Room} {b : Nat} (As rest : List Value) (hC : Ct k (mt_X7_told R) (.ref b :: As) S Q) (hK : gK S b = 9) (hy : μ.2.1.cls = RL) (hd : decode μ.2.2.1 pc = .ok (.invokevirtual 86, 3)) (hst : st = As.reverse ++ .ref b :: rest) (hn : As.length = 2) (hrm : okR (mt_X7_told R) μ cells slots rest) (kk : ∀ v S', Q v S' → X k μ Z (pc + 3) lv (v.toList ++ rest) S' (cells + R.cells) (slots + R.slots)) : X k μ Z pc lv st S cells slots := x_virtual (q := (RX7, TX7, 26)) 8 (mt_X7_told R) As rest hd hst hC hK (by decide) rfl rfl (by rw [hy]; exact tw_26_16) tw_26_17 tw_26_18 tw_1_5 tw_26_19 (by rw [hn]; exact (by decide +kernel : okN yX7_told 2)) hrm kk
theorem ca_L_87 {k : KT} {μ : MT} {Z : ZT} {Q : Option Value → HS → Prop} {pc : Nat} {lv : List (Nat × Value)} {st : List Value} {S : HS} {cells slots : Nat} {R : Room} {b : Nat} (As rest : List Value) (hC : Ct k (mt_X6_fresh R) (.ref b :: As) S Q) (hK : gK S b = 8) (hy : μ.2.1.cls = RL) (hd : decode μ.2.2.1 pc = .ok (.invokevirtual 87, 3)) (hst : st = As.reverse ++ .ref b :: rest) (hn : As.length = 1) (hrm : okR (mt_X6_fresh R) μ cells slots rest) (kk : ∀ v S', Q v S' → X k μ Z (pc + 3) lv (v.toList ++ rest) S' (cells + R.cells) (slots + R.slots)) : X k μ Z pc lv st S cells slots := x_virtual (q := (RX6, TX6, 9)) 7 (mt_X6_fresh R) As rest hd hst hC hK (by decide) rfl rfl (by rw [hy]; exact tw_26_20) tw_26_21 tw_26_22 tw_1_2 tw_26_23 (by rw [hn]; exact (by decide +kernel : okN yX6_fresh 1)) hrm kk
theorem ca_L_90 {k : KT} {μ : MT} {Z : ZT} {Q : Option Value → HS → Prop} {pc : Nat} {lv : List (Nat × Value)} {st : List Value} {S : HS} {cells slots : Nat} {R : Room} {b : Nat} (As rest : List Value) (hC : Ct k (mt_X7_fresh R) (.ref b :: As) S Q) (hK : gK S b = 9) (hy : μ.2.1.cls = RL) (hd : decode μ.2.2.1 pc = .ok (.invokevirtual 90, 3)) (hst : st = As.reverse ++ .ref b :: rest) (hn : As.length = 1) (hrm : okR (mt_X7_fresh R) μ cells slots rest) (kk : ∀ v S', Q v S' → X k μ Z (pc + 3) lv (v.toList ++ rest) S' (cells + R.cells) (slots + R.slots)) : X k μ Z pc lv st S cells slots := x_virtual (q := (RX7, TX7, 26)) 8 (mt_X7_fresh R) As rest hd hst hC hK (by decide) rfl rfl (by rw [hy]; exact tw_27_0) tw_27_1 tw_27_2 tw_1_5 tw_27_3 (by rw [hn]; exact (by decide +kernel : okN yX7_fresh 1)) hrm kk
theorem ca_L_91 {k : KT} {μ : MT} {Z : ZT} {Q : Option Value → HS → Prop} {pc : Nat} {lv : List (Nat × Value)} {st : List Value} {S : HS} {cells slots : Nat} {R : Room} {b : Nat} (As rest : List Value) (hC : Ct k (mt_X6_edition R) (.ref b :: As) S Q) (hK : gK S b = 8) (hy : μ.2.1.cls = RL) (hd : decode μ.2.2.1 pc = .ok (.invokevirtual 91, 3)) (hst : st = As.reverse ++ .ref b :: rest) (hn : As.length = 0) (hrm : okR (mt_X6_edition R) μ cells slots rest) (kk : ∀ v S', Q v S' → X k μ Z (pc + 3) lv (v.toList ++ rest) S' (cells + R.cells) (slots + R.slots)) : X k μ Z pc lv st S cells slots := x_virtual (q := (RX6, TX6, 9)) 7 (mt_X6_edition R) As rest hd hst hC hK (by decide) rfl rfl (by rw [hy]; exact tw_27_4) tw_27_5 tw_27_6 tw_1_2 tw_27_7 (by rw [hn]; exact (by decide +kernel : okN yX6_edition 0)) hrm kk
theorem ca_L_95 {k : KT} {μ : MT} {Z : ZT} {Q : Option Value → HS → Prop} {pc : Nat} {lv : List (Nat × Value)} {st : List Value} {S : HS} {cells slots : Nat} {R : Room} {b : Nat} (As rest : List Value) (hC : Ct k (mt_X7_edition R) (.ref b :: As) S Q) (hK : gK S b = 9) (hy : μ.2.1.cls = RL) (hd : decode μ.2.2.1 pc = .ok (.invokevirtual 95, 3)) (hst : st = As.reverse ++ .ref b :: rest) (hn : As.length = 0) (hrm : okR (mt_X7_edition R) μ cells slots rest) (kk : ∀ v S', Q v S' → X k μ Z (pc + 3) lv (v.toList ++ rest) S' (cells + R.cells) (slots + R.slots)) : X k μ Z pc lv st S cells slots := x_virtual (q := (RX7, TX7, 26)) 8 (mt_X7_edition R) As rest hd hst hC hK (by decide) rfl rfl (by rw [hy]; exact tw_27_10) tw_27_11 tw_27_12 tw_1_5 tw_27_13 (by rw [hn]; exact (by decide +kernel : okN yX7_edition 0)) hrm kk
theorem ca_L_96 {k : KT} {μ : MT} {Z : ZT} {Q : Option Value → HS → Prop} {pc : Nat} {lv : List (Nat × Value)} {st : List Value} {S : HS} {cells slots : Nat} {R : Room} {b : Nat} (As rest : List Value) (hC : Ct k (mt_X6_printed R) (.ref b :: As) S Q) (hK : gK S b = 8) (hy : μ.2.1.cls = RL) (hd : decode μ.2.2.1 pc = .ok (.invokevirtual 96, 3)) (hst : st = As.reverse ++ .ref b :: rest) (hn : As.length = 1) (hrm : okR (mt_X6_printed R) μ cells slots rest) (kk : ∀ v S', Q v S' → X k μ Z (pc + 3) lv (v.toList ++ rest) S' (cells + R.cells) (slots + R.slots)) : X k μ Z pc lv st S cells slots := x_virtual (q := (RX6, TX6, 9)) 7 (mt_X6_printed R) As rest hd hst hC hK (by decide) rfl rfl (by rw [hy]; exact tw_27_15) tw_27_16 tw_27_17 tw_1_2 tw_27_18 (by rw [hn]; exact (by decide +kernel : okN yX6_printed 1)) hrm kk
theorem ca_L_99 {k : KT} {μ : MT} {Z : ZT} {Q : Option Value → HS → Prop} {pc : Nat} {lv : List (Nat × Value)} {st : List Value} {S : HS} {cells slots : Nat} {R : Room} {b : Nat} (As rest : List Value) (hC : Ct k (mt_X7_printed R) (.ref b :: As) S Q) (hK : gK S b = 9) (hy : μ.2.1.cls = RL) (hd : decode μ.2.2.1 pc = .ok (.invokevirtual 99, 3)) (hst : st = As.reverse ++ .ref b :: rest) (hn : As.length = 1) (hrm : okR (mt_X7_printed R) μ cells slots rest) (kk : ∀ v S', Q v S' → X k μ Z (pc + 3) lv (v.toList ++ rest) S' (cells + R.cells) (slots + R.slots)) : X k μ Z pc lv st S cells slots := x_virtual (q := (RX7, TX7, 26)) 8 (mt_X7_printed R) As rest hd hst hC hK (by decide) rfl rfl (by rw [hy]; exact tw_27_19) tw_27_20 tw_27_21 tw_1_5 tw_27_22 (by rw [hn]; exact (by decide +kernel : okN yX7_printed 1)) hrm kk
theorem ca_L_100 {k : KT} {μ : MT} {Z : ZT} {Q : Option Value → HS → Prop} {pc : Nat} {lv : List (Nat × Value)} {st : List Value} {S : HS} {cells slots : Nat} {R : Room} {b : Nat} (As rest : List Value) (hC : Ct k (mt_X6_count R) (.ref b :: As) S Q) (hK : gK S b = 8) (hy : μ.2.1.cls = RL) (hd : decode μ.2.2.1 pc = .ok (.invokevirtual 100, 3)) (hst : st = As.reverse ++ .ref b :: rest) (hn : As.length = 1) (hrm : okR (mt_X6_count R) μ cells slots rest) (kk : ∀ v S', Q v S' → X k μ Z (pc + 3) lv (v.toList ++ rest) S' (cells + R.cells) (slots + R.slots)) : X k μ Z pc lv st S cells slots := x_virtual (q := (RX6, TX6, 9)) 7 (mt_X6_count R) As rest hd hst hC hK (by decide) rfl rfl (by rw [hy]; exact tw_27_23) tw_28_0 tw_28_1 tw_1_2 tw_28_2 (by rw [hn]; exact (by decide +kernel : okN yX6_count 1)) hrm kk
theorem ca_X6_217 {k : KT} {μ : MT} {Z : ZT} {Q : Option Value → HS → Prop} {pc : Nat} {lv : List (Nat × Value)} {st : List Value} {S : HS} {cells slots : Nat} {R : Room} {b : Nat} (As rest : List Value) (hC : Ct k (mt_X6_namesThere R) (.ref b :: As) S Q) (hK : gK S b = 8) (hy : μ.2.1.cls = RX6) (hd : decode μ.2.2.1 pc = .ok (.invokevirtual 217, 3)) (hst : st = As.reverse ++ .ref b :: rest) (hn : As.length = 0) (hrm : okR (mt_X6_namesThere R) μ cells slots rest) (kk : ∀ v S', Q v S' → X k μ Z (pc + 3) lv (v.toList ++ rest) S' (cells + R.cells) (slots + R.slots)) : X k μ Z pc lv st S cells slots := x_virtual (q := (RX6, TX6, 9)) 7 (mt_X6_namesThere R) As rest hd hst hC hK (by decide) rfl rfl (by rw [hy]; exact tw_28_3) tw_28_4 tw_28_5 tw_1_2 tw_28_6 (by rw [hn]; exact (by decide +kernel : okN yX6_namesThere 0)) hrm kk
theorem ca_X6_220 {k : KT} {μ : MT} {Z : ZT} {Q : Option Value → HS → Prop} {pc : Nat} {lv : List (Nat × Value)} {st : List Value} {S : HS} {cells slots : Nat} {R : Room} {b : Nat} (As rest : List Value) (hC : Ct k (mt_X6_freshGores R) (.ref b :: As) S Q) (hK : gK S b = 8) (hy : μ.2.1.cls = RX6) (hd : decode μ.2.2.1 pc = .ok (.invokevirtual 220, 3)) (hst : st = As.reverse ++ .ref b :: rest) (hn : As.length = 0) (hrm : okR (mt_X6_freshGores R) μ cells slots rest) (kk : ∀ v S', Q v S' → X k μ Z (pc + 3) lv (v.toList ++ rest) S' (cells + R.cells) (slots + R.slots)) : X k μ Z pc lv st S cells slots := x_virtual (q := (RX6, TX6, 9)) 7 (mt_X6_freshGores R) As rest hd hst hC hK (by decide) rfl rfl (by rw [hy]; exact tw_28_7) tw_28_8 tw_28_9 tw_1_2 tw_28_10 (by rw [hn]; exact (by decide +kernel : okN yX6_freshGores 0)) hrm kk
theorem ca_L_103 {k : KT} {μ : MT} {Z : ZT} {Q : Option Value → HS → Prop} {pc : Nat} {lv : List (Nat × Value)} {st : List Value} {S : HS} {cells slots : Nat} {R : Room} {b : Nat} (As rest : List Value) (hC : Ct k (mt_X7_count R) (.ref b :: As) S Q) (hK : gK S b = 9) (hy : μ.2.1.cls = RL) (hd : decode μ.2.2.1 pc = .ok (.invokevirtual 103, 3)) (hst : st = As.reverse ++ .ref b :: rest) (hn : As.length = 1) (hrm : okR (mt_X7_count R) μ cells slots rest) (kk : ∀ v S', Q v S' → X k μ Z (pc + 3) lv (v.toList ++ rest) S' (cells + R.cells) (slots + R.slots)) : X k μ Z pc lv st S cells slots := x_virtual (q := (RX7, TX7, 26)) 8 (mt_X7_count R) As rest hd hst hC hK (by decide) rfl rfl (by rw [hy]; exact tw_28_11) tw_28_12 tw_28_13 tw_1_5 tw_28_14 (by rw [hn]; exact (by decide +kernel : okN yX7_count 1)) hrm kk
theorem ca_X6_40 {k : KT} {μ : MT} {Z : ZT} {Q : Option Value → HS → Prop} {pc : Nat} {lv : List (Nat × Value)} {st : List Value} {S : HS} {cells slots : Nat} {R : Room} {b : Nat} (As rest : List Value) (hC : Ct k (mt_X1_init R) (.ref b :: As) S Q) (hy : μ.2.1.cls = RX6) (hd : decode μ.2.2.1 pc = .ok (.invokespecial 40, 3)) (hst : st = As.reverse ++ .ref b :: rest) (hn : As.length = 0) (hrm : okR (mt_X1_init R) μ cells slots rest) (kk : ∀ v S', Q v S' → X k μ Z (pc + 3) lv (v.toList ++ rest) S' (cells + R.cells) (slots + R.slots)) : X k μ Z pc lv st S cells slots := x_specialN (mt_X1_init R) As rest hd hst hC rfl rfl (fun s h => by rw [hy]; exact h.2.1.1) tw_3_7 tw_2_5 tw_3_8 (by rw [hn]; exact (by decide +kernel : okN yX1_init 0)) hrm kk
theorem ca_X6_21 {k : KT} {μ : MT} {Z : ZT} {Q : Option Value → HS → Prop} {pc : Nat} {lv : List (Nat × Value)} {st : List Value} {S : HS} {cells slots : Nat} {R : Room} {b : Nat} (As rest : List Value) (hC : Ct k (mt_X4_init R) (.ref b :: As) S Q) (hy : μ.2.1.cls = RX6) (hd : decode μ.2.2.1 pc = .ok (.invokespecial 21, 3)) (hst : st = As.reverse ++ .ref b :: rest) (hn : As.length = 0) (hrm : okR (mt_X4_init R) μ cells slots rest) (kk : ∀ v S', Q v S' → X k μ Z (pc + 3) lv (v.toList ++ rest) S' (cells + R.cells) (slots + R.slots)) : X k μ Z pc lv st S cells slots := x_specialN (mt_X4_init R) As rest hd hst hC rfl rfl (fun s h => by rw [hy]; exact h.2.1.2.1) tw_2_21 tw_1_23 tw_2_22 (by rw [hn]; exact (by decide +kernel : okN yX4_init 0)) hrm kk
theorem ca_X5_42 {k : KT} {μ : MT} {Z : ZT} {Q : Option Value → HS → Prop} {pc : Nat} {lv : List (Nat × Value)} {st : List Value} {S : HS} {cells slots : Nat} {R : Room} (As rest : List Value) (hC : Ct k (mt_X6_roundBy R) As S Q) (hy : μ.2.1.cls = RX5) (hd : decode μ.2.2.1 pc = .ok (.invokestatic 42, 3)) (hst : st = As.reverse ++ rest) (hn : As.length = 2) (hrm : okR (mt_X6_roundBy R) μ cells slots rest) (kk : ∀ v S', Q v S' → X k μ Z (pc + 3) lv (v.toList ++ rest) S' (cells + R.cells) (slots + R.slots)) : X k μ Z pc lv st S cells slots := x_staticN (mt_X6_roundBy R) As rest hd hst hC (fun s h => by rw [hy]; exact h.2.1.2.2) tw_14_17 tw_1_2 tw_14_18 (by rw [hn]; exact (by decide +kernel : okN yX6_roundBy 2)) hrm kk
theorem ca_X6_235 {k : KT} {μ : MT} {Z : ZT} {pc : Nat} {lv : List (Nat × Value)} {rest : List Value} {S : HS} {cells slots : Nat} {x : Int32} (hy : μ.2.1.cls = RX6) (hd : decode μ.2.2.1 pc = .ok (.invokestatic 235, 3)) (hf : 1 ≤ μ.1.frames) (hlo : (rest.map fun v => v.category).sum + 13 ≤ μ.1.locals) (hc : cells ≤ μ.1.cells) (hsl : slots ≤ μ.1.slots) (kk : X k μ Z (pc + 3) lv (.int (if 0 ≤ x then x else 0 - x) :: rest) S cells slots) : X k μ Z pc lv (.int x :: rest) S cells slots := x_mabs hd (by rw [hy]; exact tw_5_1) tw_5_2 tw_5_3 tw_5_4 hf hlo hc hsl kk
theorem ca_Jx4a65c_79 {k : KT} {μ : MT} {Z : ZT} {pc : Nat} {lv : List (Nat × Value)} {rest : List Value} {S : HS} {cells slots : Nat} {x y : Int32} (hy : μ.2.1.cls = RJx4a65c) (hd : decode μ.2.2.1 pc = .ok (.invokestatic 79, 3)) (hf : 1 ≤ μ.1.frames) (hlo : (rest.map fun v => v.category).sum + 13 ≤ μ.1.locals) (hc : cells ≤ μ.1.cells) (hsl : slots ≤ μ.1.slots) (kk : X k μ Z (pc + 3) lv (.int (if x < y then y else x) :: rest) S cells slots) : X k μ Z pc lv (.int y :: .int x :: rest) S cells slots := x_mmax hd (by rw [hy]; exact tw_8_4) tw_8_5 tw_5_3 tw_8_6 hf hlo hc hsl kk
theorem ca_J8_194 {k : KT} {μ : MT} {Z : ZT} {pc : Nat} {lv : List (Nat × Value)} {rest : List Value} {S : HS} {cells slots : Nat} {x y : Int32} (hy : μ.2.1.cls = RJ8) (hd : decode μ.2.2.1 pc = .ok (.invokestatic 194, 3)) (hf : 1 ≤ μ.1.frames) (hlo : (rest.map fun v => v.category).sum + 13 ≤ μ.1.locals) (hc : cells ≤ μ.1.cells) (hsl : slots ≤ μ.1.slots) (kk : X k μ Z (pc + 3) lv (.int (if x < y then y else x) :: rest) S cells slots) : X k μ Z pc lv (.int y :: .int x :: rest) S cells slots := x_mmax hd (by rw [hy]; exact tw_8_12) tw_8_5 tw_5_3 tw_8_6 hf hlo hc hsl kk
theorem ca_J7_304 {k : KT} {μ : MT} {Z : ZT} {pc : Nat} {lv : List (Nat × Value)} {rest : List Value} {S : HS} {cells slots : Nat} {x y : Int32} (hy : μ.2.1.cls = RJ7) (hd : decode μ.2.2.1 pc = .ok (.invokestatic 304, 3)) (hf : 1 ≤ μ.1.frames) (hlo : (rest.map fun v => v.category).sum + 13 ≤ μ.1.locals) (hc : cells ≤ μ.1.cells) (hsl : slots ≤ μ.1.slots) (kk : X k μ Z (pc + 3) lv (.int (if y < x then y else x) :: rest) S cells slots) : X k μ Z pc lv (.int y :: .int x :: rest) S cells slots := x_mmin hd (by rw [hy]; exact tw_9_6) tw_9_7 tw_5_3 tw_9_8 hf hlo hc hsl kk
theorem ca_X5_36 {k : KT} {μ : MT} {Z : ZT} {pc : Nat} {lv : List (Nat × Value)} {rest : List Value} {S : HS} {cells slots : Nat} {x y : Int32} (hy : μ.2.1.cls = RX5) (hd : decode μ.2.2.1 pc = .ok (.invokestatic 36, 3)) (hf : 1 ≤ μ.1.frames) (hlo : (rest.map fun v => v.category).sum + 13 ≤ μ.1.locals) (hc : cells ≤ μ.1.cells) (hsl : slots ≤ μ.1.slots) (kk : X k μ Z (pc + 3) lv (.int (if y < x then y else x) :: rest) S cells slots) : X k μ Z pc lv (.int y :: .int x :: rest) S cells slots := x_mmin hd (by rw [hy]; exact tw_11_19) tw_9_7 tw_5_3 tw_9_8 hf hlo hc hsl kk
theorem ca_X6_265 {k : KT} {μ : MT} {Z : ZT} {pc : Nat} {lv : List (Nat × Value)} {rest : List Value} {S : HS} {cells slots : Nat} {x y : Int32} (hy : μ.2.1.cls = RX6) (hd : decode μ.2.2.1 pc = .ok (.invokestatic 265, 3)) (hf : 1 ≤ μ.1.frames) (hlo : (rest.map fun v => v.category).sum + 13 ≤ μ.1.locals) (hc : cells ≤ μ.1.cells) (hsl : slots ≤ μ.1.slots) (kk : X k μ Z (pc + 3) lv (.int (if x < y then y else x) :: rest) S cells slots) : X k μ Z pc lv (.int y :: .int x :: rest) S cells slots := x_mmax hd (by rw [hy]; exact tw_14_4) tw_8_5 tw_5_3 tw_8_6 hf hlo hc hsl kk
theorem ca_X6_268 {k : KT} {μ : MT} {Z : ZT} {pc : Nat} {lv : List (Nat × Value)} {rest : List Value} {S : HS} {cells slots : Nat} {x y : Int32} (hy : μ.2.1.cls = RX6) (hd : decode μ.2.2.1 pc = .ok (.invokestatic 268, 3)) (hf : 1 ≤ μ.1.frames) (hlo : (rest.map fun v => v.category).sum + 13 ≤ μ.1.locals) (hc : cells ≤ μ.1.cells) (hsl : slots ≤ μ.1.slots) (kk : X k μ Z (pc + 3) lv (.int (if y < x then y else x) :: rest) S cells slots) : X k μ Z pc lv (.int y :: .int x :: rest) S cells slots := x_mmin hd (by rw [hy]; exact tw_14_5) tw_9_7 tw_5_3 tw_9_8 hf hlo hc hsl kk
theorem ca_X2_43 {k : KT} {μ : MT} {Z : ZT} {pc : Nat} {lv : List (Nat × Value)} {rest : List Value} {S : HS} {cells slots : Nat} {x : Int32} (hy : μ.2.1.cls = RX2) (hd : decode μ.2.2.1 pc = .ok (.invokestatic 43, 3)) (hf : 1 ≤ μ.1.frames) (hlo : (rest.map fun v => v.category).sum + 13 ≤ μ.1.locals) (hc : cells ≤ μ.1.cells) (hsl : slots ≤ μ.1.slots) (kk : X k μ Z (pc + 3) lv (.int (if 0 ≤ x then x else 0 - x) :: rest) S cells slots) : X k μ Z pc lv (.int x :: rest) S cells slots := x_mabs hd (by rw [hy]; exact tw_22_2) tw_5_2 tw_5_3 tw_5_4 hf hlo hc hsl kk
theorem ca_X6_3 {k : KT} {μ : MT} {Z : ZT} {pc : Nat} {lv : List (Nat × Value)} {rest : List Value} {S : HS} {cells slots a : Nat} (hy : μ.2.1.cls = RX6) (hd : decode μ.2.2.1 pc = .ok (.invokespecial 3, 3)) (hf : 1 ≤ μ.1.frames) (hlo : (rest.map fun v => v.category).sum + 12 ≤ μ.1.locals) (kk : X k μ Z (pc + 3) lv rest S cells slots) : X k μ Z pc lv (.ref a :: rest) S cells slots := x_objInit hd (by rw [hy]; exact tw_1_13) tw_1_14 tw_1_15 hf hlo kk
theorem ca_Jxa1e45_1 {k : KT} {μ : MT} {Z : ZT} {pc : Nat} {lv : List (Nat × Value)} {rest : List Value} {S : HS} {cells slots a : Nat} (hy : μ.2.1.cls = RJxa1e45) (hd : decode μ.2.2.1 pc = .ok (.invokespecial 1, 3)) (hf : 1 ≤ μ.1.frames) (hlo : (rest.map fun v => v.category).sum + 12 ≤ μ.1.locals) (kk : X k μ Z (pc + 3) lv rest S cells slots) : X k μ Z pc lv (.ref a :: rest) S cells slots := x_objInit hd (by rw [hy]; exact tw_2_20) tw_1_14 tw_1_15 hf hlo kk
theorem ca_X4_3 {k : KT} {μ : MT} {Z : ZT} {pc : Nat} {lv : List (Nat × Value)} {rest : List Value} {S : HS} {cells slots a : Nat} (hy : μ.2.1.cls = RX4) (hd : decode μ.2.2.1 pc = .ok (.invokespecial 3, 3)) (hf : 1 ≤ μ.1.frames) (hlo : (rest.map fun v => v.category).sum + 12 ≤ μ.1.locals) (kk : X k μ Z (pc + 3) lv rest S cells slots) : X k μ Z pc lv (.ref a :: rest) S cells slots := x_objInit hd (by rw [hy]; exact tw_2_23) tw_1_14 tw_1_15 hf hlo kk
theorem ca_X1_1 {k : KT} {μ : MT} {Z : ZT} {pc : Nat} {lv : List (Nat × Value)} {rest : List Value} {S : HS} {cells slots a : Nat} (hy : μ.2.1.cls = RX1) (hd : decode μ.2.2.1 pc = .ok (.invokespecial 1, 3)) (hf : 1 ≤ μ.1.frames) (hlo : (rest.map fun v => v.category).sum + 12 ≤ μ.1.locals) (kk : X k μ Z (pc + 3) lv rest S cells slots) : X k μ Z pc lv (.ref a :: rest) S cells slots := x_objInit hd (by rw [hy]; exact tw_3_9) tw_1_14 tw_1_15 hf hlo kk
theorem ca_X7_1 {k : KT} {μ : MT} {Z : ZT} {pc : Nat} {lv : List (Nat × Value)} {rest : List Value} {S : HS} {cells slots a : Nat} (hy : μ.2.1.cls = RX7) (hd : decode μ.2.2.1 pc = .ok (.invokespecial 1, 3)) (hf : 1 ≤ μ.1.frames) (hlo : (rest.map fun v => v.category).sum + 12 ≤ μ.1.locals) (kk : X k μ Z (pc + 3) lv rest S cells slots) : X k μ Z pc lv (.ref a :: rest) S cells slots := x_objInit hd (by rw [hy]; exact tw_3_18) tw_1_14 tw_1_15 hf hlo kk
theorem ca_X0_1 {k : KT} {μ : MT} {Z : ZT} {pc : Nat} {lv : List (Nat × Value)} {rest : List Value} {S : HS} {cells slots a : Nat} (hy : μ.2.1.cls = RX0) (hd : decode μ.2.2.1 pc = .ok (.invokespecial 1, 3)) (hf : 1 ≤ μ.1.frames) (hlo : (rest.map fun v => v.category).sum + 12 ≤ μ.1.locals) (kk : X k μ Z (pc + 3) lv rest S cells slots) : X k μ Z pc lv (.ref a :: rest) S cells slots := x_objInit hd (by rw [hy]; exact tw_7_7) tw_1_14 tw_1_15 hf hlo kk
theorem ca_X5_3 {k : KT} {μ : MT} {Z : ZT} {pc : Nat} {lv : List (Nat × Value)} {rest : List Value} {S : HS} {cells slots a : Nat} (hy : μ.2.1.cls = RX5) (hd : decode μ.2.2.1 pc = .ok (.invokespecial 3, 3)) (hf : 1 ≤ μ.1.frames) (hlo : (rest.map fun v => v.category).sum + 12 ≤ μ.1.locals) (kk : X k μ Z (pc + 3) lv rest S cells slots) : X k μ Z pc lv (.ref a :: rest) S cells slots := x_objInit hd (by rw [hy]; exact tw_11_12) tw_1_14 tw_1_15 hf hlo kk
theorem ca_X3_1 {k : KT} {μ : MT} {Z : ZT} {pc : Nat} {lv : List (Nat × Value)} {rest : List Value} {S : HS} {cells slots a : Nat} (hy : μ.2.1.cls = RX3) (hd : decode μ.2.2.1 pc = .ok (.invokespecial 1, 3)) (hf : 1 ≤ μ.1.frames) (hlo : (rest.map fun v => v.category).sum + 12 ≤ μ.1.locals) (kk : X k μ Z (pc + 3) lv rest S cells slots) : X k μ Z pc lv (.ref a :: rest) S cells slots := x_objInit hd (by rw [hy]; exact tw_13_8) tw_1_14 tw_1_15 hf hlo kk
theorem ca_X2_3 {k : KT} {μ : MT} {Z : ZT} {pc : Nat} {lv : List (Nat × Value)} {rest : List Value} {S : HS} {cells slots a : Nat} (hy : μ.2.1.cls = RX2) (hd : decode μ.2.2.1 pc = .ok (.invokespecial 3, 3)) (hf : 1 ≤ μ.1.frames) (hlo : (rest.map fun v => v.category).sum + 12 ≤ μ.1.locals) (kk : X k μ Z (pc + 3) lv rest S cells slots) : X k μ Z pc lv (.ref a :: rest) S cells slots := x_objInit hd (by rw [hy]; exact tw_19_15) tw_1_14 tw_1_15 hf hlo kk
end
section
/-- the contract out of the walk, where the method (not its whole class) is run as its bytecode says -/
theorem Ct.ofF {k : KT} {μ : MT} {av : List Value} {S : HS} {Q : Option Value → HS → Prop} (hy : plainFor μ.2.1 = true) (hl : (lg_sl av).length ≤ μ.2.2.2.1) (h : X k μ (Zm k μ Q) 0 (lv_args 0 av) [] S 0 0) : Ct k μ av S Q := by
  unfold Ct Met
  refine MetFree.of_bodySF (code := μ.2.2.1) (maxLocals := μ.2.2.2.1) (ret := μ.2.2.2.2) hy ?_ ?_
  · intro args s m h hn
    obtain ⟨meth, c, h1, h2, h3, h4, h5, h6, -, -⟩ := Cond.code_spec hn (atoms_spec (ws := .code μ.2.1 μ.2.2.1 μ.2.2.2.1 μ.2.2.2.2 :: wsL_law) h _ List.mem_cons_self)
    exact ⟨meth, c, h1, h2, h3, h4, h5, h6⟩
  · intro p e s m args below meth c s₁ B hml hP _
    have hh0 : s₁.heap = s.heap := by rw [B.state]; rfl
    obtain ⟨rfl, hR, hG⟩ := hP
    have hts := atoms_spec (ws := .code μ.2.1 μ.2.2.1 μ.2.2.2.1 μ.2.2.2.2 :: wsL_law) B.pre
    have hown : s.vm.findClass μ.2.1.cls = some m.cls := findClass_of_methodNamed B.named
    have hnm : meth.name = μ.2.1.name := (name_of_methodNamed B.named B.method).1
    have hls := lv_entry av (n := μ.2.2.2.1) hl
    have hW := h p e s m av.toArray below meth c s.heap [] _ ⟨B.exec, B.bytes, hml, B.returns, fun w hw => hts w (List.mem_cons_of_mem _ hw), hown, B.notSynchronized, hnm, hG⟩ hls hR va_S.rf
    rw [← lg_entry_eq] at hW
    obtain ⟨t, a1, o, b1, b2, b3⟩ := hW s₁ hh0 (Stand.of_body B)
    exact ⟨t, o, a1, b1, b2, ⟨b3.1, b3.2⟩⟩
end
section
def f_X6_isPlace (lon : Int32) (lat : Int32) : Int32 := (if lon < 0 then 0 else (if 360 ≤ lon then 0 else (if lat < (-90) then 0 else (if 90 < lat then 0 else 1))))
set_option maxRecDepth 100000 in
theorem c_X6_isPlace {k : KT} {S : HS}  (lon : Int32) (lat : Int32)  : Ct k (mt_X6_isPlace (rm 1 0 0)) [.int (lon), .int (lat)] S (Pu (f_X6_isPlace lon lat) S) := by
  refine Ct.ofF (by decide +kernel) (Nat.le_of_ble_eq_true rfl) ?_
  refine x_lv [(0, .int (lon)), (1, .int (lat))] [0, 1] rfl ?_
  refine x_iload_n 0 dX6_isPlace_0 rfl ?_
  refine x_if_lt 27 dX6_isPlace_1 (by decide) (fun c1 => ?_) (fun c1 => ?_)
  · refine x_iconst 0 dX6_isPlace_27 (by decide) ?_
    exact x_zreturn dX6_isPlace_28 rfl (by decide) (Nat.le_of_ble_eq_true rfl) (Nat.le_of_ble_eq_true rfl) ⟨by rw [f_X6_isPlace, if_pos c1], rfl⟩
  · refine x_iload_n 0 dX6_isPlace_4 rfl ?_
    refine x_sipush 360 dX6_isPlace_5 (by decide) ?_
    refine x_icmp_ge 27 dX6_isPlace_8 (by decide) (fun c2 => ?_) (fun c2 => ?_)
    · refine x_iconst 0 dX6_isPlace_27 (by decide) ?_
      exact x_zreturn dX6_isPlace_28 rfl (by decide) (Nat.le_of_ble_eq_true rfl) (Nat.le_of_ble_eq_true rfl) ⟨by rw [f_X6_isPlace, if_neg c1, if_pos c2], rfl⟩
    · refine x_iload_n 1 dX6_isPlace_11 rfl ?_
      refine x_bipush (-90) dX6_isPlace_12 (by decide) ?_
      refine x_icmp_lt 27 dX6_isPlace_14 (by decide) (fun c3 => ?_) (fun c3 => ?_)
      · refine x_iconst 0 dX6_isPlace_27 (by decide) ?_
        exact x_zreturn dX6_isPlace_28 rfl (by decide) (Nat.le_of_ble_eq_true rfl) (Nat.le_of_ble_eq_true rfl) ⟨by rw [f_X6_isPlace, if_neg c1, if_neg c2, if_pos c3], rfl⟩
      · refine x_iload_n 1 dX6_isPlace_17 rfl ?_
        refine x_bipush 90 dX6_isPlace_18 (by decide) ?_
        refine x_icmp_gt 27 dX6_isPlace_20 (by decide) (fun c4 => ?_) (fun c4 => ?_)
        · refine x_iconst 0 dX6_isPlace_27 (by decide) ?_
          exact x_zreturn dX6_isPlace_28 rfl (by decide) (Nat.le_of_ble_eq_true rfl) (Nat.le_of_ble_eq_true rfl) ⟨by rw [f_X6_isPlace, if_neg c1, if_neg c2, if_neg c3, if_pos c4], rfl⟩
        · refine x_iconst 1 dX6_isPlace_23 (by decide) ?_
          refine x_goto 28 dX6_isPlace_24 (by decide) ?_
          exact x_zreturn dX6_isPlace_28 rfl (by decide) (Nat.le_of_ble_eq_true rfl) (Nat.le_of_ble_eq_true rfl) ⟨by rw [f_X6_isPlace, if_neg c1, if_neg c2, if_neg c3, if_neg c4], rfl⟩
def f_X6_isHeight (h : Int32) : Int32 := (if h < (-5400) then 0 else (if 5400 < h then 0 else 1))
set_option maxRecDepth 100000 in
theorem c_X6_isHeight {k : KT} {S : HS}  (h : Int32)  : Ct k (mt_X6_isHeight (rm 1 0 0)) [.int (h)] S (Pu (f_X6_isHeight h) S) := by
  refine Ct.ofF (by decide +kernel) (Nat.le_of_ble_eq_true rfl) ?_
  refine x_lv [(0, .int (h))] [0] rfl ?_
  refine x_iload_n 0 dX6_isHeight_0 rfl ?_
  refine x_sipush (-5400) dX6_isHeight_1 (by decide) ?_
  refine x_icmp_lt 18 dX6_isHeight_4 (by decide) (fun c1 => ?_) (fun c1 => ?_)
  · refine x_iconst 0 dX6_isHeight_18 (by decide) ?_
    exact x_zreturn dX6_isHeight_19 rfl (by decide) (Nat.le_of_ble_eq_true rfl) (Nat.le_of_ble_eq_true rfl) ⟨by rw [f_X6_isHeight, if_pos c1], rfl⟩
  · refine x_iload_n 0 dX6_isHeight_7 rfl ?_
    refine x_sipush 5400 dX6_isHeight_8 (by decide) ?_
    refine x_icmp_gt 18 dX6_isHeight_11 (by decide) (fun c2 => ?_) (fun c2 => ?_)
    · refine x_iconst 0 dX6_isHeight_18 (by decide) ?_
      exact x_zreturn dX6_isHeight_19 rfl (by decide) (Nat.le_of_ble_eq_true rfl) (Nat.le_of_ble_eq_true rfl) ⟨by rw [f_X6_isHeight, if_neg c1, if_pos c2], rfl⟩
    · refine x_iconst 1 dX6_isHeight_14 (by decide) ?_
      refine x_goto 19 dX6_isHeight_15 (by decide) ?_
      exact x_zreturn dX6_isHeight_19 rfl (by decide) (Nat.le_of_ble_eq_true rfl) (Nat.le_of_ble_eq_true rfl) ⟨by rw [f_X6_isHeight, if_neg c1, if_neg c2], rfl⟩
def f_X6_isGrowth (g : Int32) : Int32 := (if g < 0 then 0 else (if 50 < g then 0 else 1))
set_option maxRecDepth 100000 in
theorem c_X6_isGrowth {k : KT} {S : HS}  (g : Int32)  : Ct k (mt_X6_isGrowth (rm 1 0 0)) [.int (g)] S (Pu (f_X6_isGrowth g) S) := by
  refine Ct.ofF (by decide +kernel) (Nat.le_of_ble_eq_true rfl) ?_
  refine x_lv [(0, .int (g))] [0] rfl ?_
  refine x_iload_n 0 dX6_isGrowth_0 rfl ?_
  refine x_if_lt 14 dX6_isGrowth_1 (by decide) (fun c1 => ?_) (fun c1 => ?_)
  · refine x_iconst 0 dX6_isGrowth_14 (by decide) ?_
    exact x_zreturn dX6_isGrowth_15 rfl (by decide) (Nat.le_of_ble_eq_true rfl) (Nat.le_of_ble_eq_true rfl) ⟨by rw [f_X6_isGrowth, if_pos c1], rfl⟩
  · refine x_iload_n 0 dX6_isGrowth_4 rfl ?_
    refine x_bipush 50 dX6_isGrowth_5 (by decide) ?_
    refine x_icmp_gt 14 dX6_isGrowth_7 (by decide) (fun c2 => ?_) (fun c2 => ?_)
    · refine x_iconst 0 dX6_isGrowth_14 (by decide) ?_
      exact x_zreturn dX6_isGrowth_15 rfl (by decide) (Nat.le_of_ble_eq_true rfl) (Nat.le_of_ble_eq_true rfl) ⟨by rw [f_X6_isGrowth, if_neg c1, if_pos c2], rfl⟩
    · refine x_iconst 1 dX6_isGrowth_10 (by decide) ?_
      refine x_goto 15 dX6_isGrowth_11 (by decide) ?_
      exact x_zreturn dX6_isGrowth_15 rfl (by decide) (Nat.le_of_ble_eq_true rfl) (Nat.le_of_ble_eq_true rfl) ⟨by rw [f_X6_isGrowth, if_neg c1, if_neg c2], rfl⟩
def f_X6_isOnPaper (v : Int32) (wh : Int32) : Int32 := (if wh = 0 then (if v < (-10000) then 0 else (if 10000 < v then 0 else 1)) else (if wh = 1 then (if v < (-10000) then 0 else (if 10000 < v then 0 else 1)) else 0))
set_option maxRecDepth 100000 in
theorem c_X6_isOnPaper {k : KT} {S : HS}  (v : Int32) (wh : Int32)  : Ct k (mt_X6_isOnPaper (rm 1 0 0)) [.int (v), .int (wh)] S (Pu (f_X6_isOnPaper v wh) S) := by
  refine Ct.ofF (by decide +kernel) (Nat.le_of_ble_eq_true rfl) ?_
  refine x_lv [(0, .int (v)), (1, .int (wh))] [0, 1] rfl ?_
  refine x_iload_n 1 dX6_isOnPaper_0 rfl ?_
  refine x_if_eq 9 dX6_isOnPaper_1 (by decide) (fun c1 => ?_) (fun c1 => ?_)
  · refine x_iload_n 0 dX6_isOnPaper_9 rfl ?_
    refine x_sipush (-10000) dX6_isOnPaper_10 (by decide) ?_
    refine x_icmp_lt 27 dX6_isOnPaper_13 (by decide) (fun c2 => ?_) (fun c2 => ?_)
    · refine x_iconst 0 dX6_isOnPaper_27 (by decide) ?_
      exact x_zreturn dX6_isOnPaper_28 rfl (by decide) (Nat.le_of_ble_eq_true rfl) (Nat.le_of_ble_eq_true rfl) ⟨by rw [f_X6_isOnPaper, if_pos c1, if_pos c2], rfl⟩
    · refine x_iload_n 0 dX6_isOnPaper_16 rfl ?_
      refine x_sipush 10000 dX6_isOnPaper_17 (by decide) ?_
      refine x_icmp_gt 27 dX6_isOnPaper_20 (by decide) (fun c3 => ?_) (fun c3 => ?_)
      · refine x_iconst 0 dX6_isOnPaper_27 (by decide) ?_
        exact x_zreturn dX6_isOnPaper_28 rfl (by decide) (Nat.le_of_ble_eq_true rfl) (Nat.le_of_ble_eq_true rfl) ⟨by rw [f_X6_isOnPaper, if_pos c1, if_neg c2, if_pos c3], rfl⟩
      · refine x_iconst 1 dX6_isOnPaper_23 (by decide) ?_
        refine x_goto 28 dX6_isOnPaper_24 (by decide) ?_
        exact x_zreturn dX6_isOnPaper_28 rfl (by decide) (Nat.le_of_ble_eq_true rfl) (Nat.le_of_ble_eq_true rfl) ⟨by rw [f_X6_isOnPaper, if_pos c1, if_neg c2, if_neg c3], rfl⟩
  · refine x_iload_n 1 dX6_isOnPaper_4 rfl ?_
    refine x_iconst 1 dX6_isOnPaper_5 (by decide) ?_
    refine x_icmp_ne 27 dX6_isOnPaper_6 (by decide) (fun c4 => ?_) (fun c4 => ?_)
    · refine x_iconst 0 dX6_isOnPaper_27 (by decide) ?_
      exact x_zreturn dX6_isOnPaper_28 rfl (by decide) (Nat.le_of_ble_eq_true rfl) (Nat.le_of_ble_eq_true rfl) ⟨by rw [f_X6_isOnPaper, if_neg c1, if_neg c4], rfl⟩
    · refine x_iload_n 0 dX6_isOnPaper_9 rfl ?_
      refine x_sipush (-10000) dX6_isOnPaper_10 (by decide) ?_
      refine x_icmp_lt 27 dX6_isOnPaper_13 (by decide) (fun c5 => ?_) (fun c5 => ?_)
      · refine x_iconst 0 dX6_isOnPaper_27 (by decide) ?_
        exact x_zreturn dX6_isOnPaper_28 rfl (by decide) (Nat.le_of_ble_eq_true rfl) (Nat.le_of_ble_eq_true rfl) ⟨by rw [f_X6_isOnPaper, if_neg c1, if_pos c4, if_pos c5], rfl⟩
      · refine x_iload_n 0 dX6_isOnPaper_16 rfl ?_
        refine x_sipush 10000 dX6_isOnPaper_17 (by decide) ?_
        refine x_icmp_gt 27 dX6_isOnPaper_20 (by decide) (fun c6 => ?_) (fun c6 => ?_)
        · refine x_iconst 0 dX6_isOnPaper_27 (by decide) ?_
          exact x_zreturn dX6_isOnPaper_28 rfl (by decide) (Nat.le_of_ble_eq_true rfl) (Nat.le_of_ble_eq_true rfl) ⟨by rw [f_X6_isOnPaper, if_neg c1, if_pos c4, if_neg c5, if_pos c6], rfl⟩
        · refine x_iconst 1 dX6_isOnPaper_23 (by decide) ?_
          refine x_goto 28 dX6_isOnPaper_24 (by decide) ?_
          exact x_zreturn dX6_isOnPaper_28 rfl (by decide) (Nat.le_of_ble_eq_true rfl) (Nat.le_of_ble_eq_true rfl) ⟨by rw [f_X6_isOnPaper, if_neg c1, if_pos c4, if_neg c5, if_neg c6], rfl⟩
def f_X7_in (v : Int32) (lo : Int32) (hi : Int32) : Int32 := (if v < lo then 0 else (if hi < v then 0 else 1))
set_option maxRecDepth 100000 in
theorem c_X7_in {k : KT} {S : HS}  (v : Int32) (lo : Int32) (hi : Int32)  : Ct k (mt_X7_in (rm 1 0 0)) [.int (v), .int (lo), .int (hi)] S (Pu (f_X7_in v lo hi) S) := by
  refine Ct.ofF (by decide +kernel) (Nat.le_of_ble_eq_true rfl) ?_
  refine x_lv [(0, .int (v)), (1, .int (lo)), (2, .int (hi))] [0, 1, 2] rfl ?_
  refine x_iload_n 0 dX7_in_0 rfl ?_
  refine x_iload_n 1 dX7_in_1 rfl ?_
  refine x_icmp_lt 14 dX7_in_2 (by decide) (fun c1 => ?_) (fun c1 => ?_)
  · refine x_iconst 0 dX7_in_14 (by decide) ?_
    exact x_zreturn dX7_in_15 rfl (by decide) (Nat.le_of_ble_eq_true rfl) (Nat.le_of_ble_eq_true rfl) ⟨by rw [f_X7_in, if_pos c1], rfl⟩
  · refine x_iload_n 0 dX7_in_5 rfl ?_
    refine x_iload_n 2 dX7_in_6 rfl ?_
    refine x_icmp_gt 14 dX7_in_7 (by decide) (fun c2 => ?_) (fun c2 => ?_)
    · refine x_iconst 0 dX7_in_14 (by decide) ?_
      exact x_zreturn dX7_in_15 rfl (by decide) (Nat.le_of_ble_eq_true rfl) (Nat.le_of_ble_eq_true rfl) ⟨by rw [f_X7_in, if_neg c1, if_pos c2], rfl⟩
    · refine x_iconst 1 dX7_in_10 (by decide) ?_
      refine x_goto 15 dX7_in_11 (by decide) ?_
      exact x_zreturn dX7_in_15 rfl (by decide) (Nat.le_of_ble_eq_true rfl) (Nat.le_of_ble_eq_true rfl) ⟨by rw [f_X7_in, if_neg c1, if_neg c2], rfl⟩
theorem nb01 {r : Int32} (h : r = 0 ∨ r = 1) : narrow .boolean (.int r) = .int r := by rcases h with rfl | rfl <;> decide
theorem f01_X7_in (v lo hi : Int32) : f_X7_in v lo hi = 0 ∨ f_X7_in v lo hi = 1 := by unfold f_X7_in; split <;> (try split) <;> simp
def f_X7_isPlace (lon : Int32) (lat : Int32) : Int32 := (if (f_X7_in lon 0 359) = 0 then 0 else (if (f_X7_in lat (-90) 90) = 0 then 0 else 1))
set_option maxRecDepth 100000 in
theorem c_X7_isPlace {k : KT} {S : HS}  (lon : Int32) (lat : Int32)  : Ct k (mt_X7_isPlace (rm 2 0 0)) [.int (lon), .int (lat)] S (Pu (f_X7_isPlace lon lat) S) := by
  refine Ct.ofF (by decide +kernel) (Nat.le_of_ble_eq_true rfl) ?_
  refine x_lv [(0, .int (lon)), (1, .int (lat))] [0, 1] rfl ?_
  refine x_iload_n 0 dX7_isPlace_0 rfl ?_
  refine x_iconst 0 dX7_isPlace_1 (by decide) ?_
  refine x_sipush 359 dX7_isPlace_2 (by decide) ?_
  refine ca_X7_69 [.int (lon), .int (0), .int (359)] [] (c_X7_in (lon) (0) (359)) rfl dX7_isPlace_5 rfl rfl ⟨(Nat.le_of_ble_eq_true rfl), (Nat.le_of_ble_eq_true rfl), (Nat.le_of_ble_eq_true rfl), (Nat.le_of_ble_eq_true rfl), (Nat.le_of_ble_eq_true rfl)⟩ (fun v T hq => ?_)
  obtain ⟨rfl, rfl⟩ := hq
  refine x_if_eq 26 dX7_isPlace_8 (by decide) (fun c1 => ?_) (fun c1 => ?_)
  · refine x_iconst 0 dX7_isPlace_26 (by decide) ?_
    exact x_zreturn dX7_isPlace_27 rfl (by first | decide | exact nb01 (f01_X7_in _ _ _)) (Nat.le_of_ble_eq_true rfl) (Nat.le_of_ble_eq_true rfl) ⟨by rw [f_X7_isPlace, if_pos c1], rfl⟩
  · refine x_iload_n 1 dX7_isPlace_11 rfl ?_
    refine x_bipush (-90) dX7_isPlace_12 (by decide) ?_
    refine x_bipush 90 dX7_isPlace_14 (by decide) ?_
    refine ca_X7_69 [.int (lat), .int ((-90)), .int (90)] [] (c_X7_in (lat) ((-90)) (90)) rfl dX7_isPlace_16 rfl rfl ⟨(Nat.le_of_ble_eq_true rfl), (Nat.le_of_ble_eq_true rfl), (Nat.le_of_ble_eq_true rfl), (Nat.le_of_ble_eq_true rfl), (Nat.le_of_ble_eq_true rfl)⟩ (fun v T hq => ?_)
    obtain ⟨rfl, rfl⟩ := hq
    refine x_if_eq 26 dX7_isPlace_19 (by decide) (fun c2 => ?_) (fun c2 => ?_)
    · refine x_iconst 0 dX7_isPlace_26 (by decide) ?_
      exact x_zreturn dX7_isPlace_27 rfl (by first | decide | exact nb01 (f01_X7_in _ _ _)) (Nat.le_of_ble_eq_true rfl) (Nat.le_of_ble_eq_true rfl) ⟨by rw [f_X7_isPlace, if_neg c1, if_pos c2], rfl⟩
    · refine x_iconst 1 dX7_isPlace_22 (by decide) ?_
      refine x_goto 27 dX7_isPlace_23 (by decide) ?_
      exact x_zreturn dX7_isPlace_27 rfl (by first | decide | exact nb01 (f01_X7_in _ _ _)) (Nat.le_of_ble_eq_true rfl) (Nat.le_of_ble_eq_true rfl) ⟨by rw [f_X7_isPlace, if_neg c1, if_neg c2], rfl⟩
def f_J9_floorDiv_7cf53 (x : Int32) (y : Int32) : Int32 := (if 0 ≤ (x ^^^ y) then (x / y) else (if ((x / y) * y) = x then (x / y) else ((x / y) - 1)))
set_option maxRecDepth 100000 in
theorem c_J9_floorDiv_7cf53 {k : KT} {S : HS}  (x : Int32) (y : Int32) (h0 : ¬ y = 0) : Ct k (mt_J9_floorDiv_7cf53 (rm 1 0 0)) [.int (x), .int (y)] S (Pu (f_J9_floorDiv_7cf53 x y) S) := by
  refine Ct.ofF (by decide +kernel) (Nat.le_of_ble_eq_true rfl) ?_
  refine x_lv [(0, .int (x)), (1, .int (y))] [0, 1] rfl ?_
  refine x_iload_n 0 dJ9_floorDiv_7cf53_0 rfl ?_
  refine x_iload_n 1 dJ9_floorDiv_7cf53_1 rfl ?_
  refine x_idiv dJ9_floorDiv_7cf53_2 h0 ?_
  refine x_istore_n [(2, .int ((x / y))), (0, .int (x)), (1, .int (y))] dJ9_floorDiv_7cf53_3 (Nat.le_of_ble_eq_true rfl) rfl ?_
  refine x_iload_n 1 dJ9_floorDiv_7cf53_4 rfl ?_
  refine x_iload_n 2 dJ9_floorDiv_7cf53_5 rfl ?_
  refine x_ixor dJ9_floorDiv_7cf53_6 ?_
  refine x_if_ge 21 dJ9_floorDiv_7cf53_7 (by decide) (fun c1 => ?_) (fun c1 => ?_)
  · refine x_iload_n 0 dJ9_floorDiv_7cf53_21 rfl ?_
    exact x_ireturn dJ9_floorDiv_7cf53_22 rfl (Nat.le_of_ble_eq_true rfl) (Nat.le_of_ble_eq_true rfl) ⟨by rw [f_J9_floorDiv_7cf53, if_pos c1], rfl⟩
  · refine x_iload_n 0 dJ9_floorDiv_7cf53_10 rfl ?_
    refine x_iload_n 2 dJ9_floorDiv_7cf53_11 rfl ?_
    refine x_imul dJ9_floorDiv_7cf53_12 ?_
    refine x_iload_n 1 dJ9_floorDiv_7cf53_13 rfl ?_
    refine x_icmp_eq 21 dJ9_floorDiv_7cf53_14 (by decide) (fun c2 => ?_) (fun c2 => ?_)
    · refine x_iload_n 0 dJ9_floorDiv_7cf53_21 rfl ?_
      exact x_ireturn dJ9_floorDiv_7cf53_22 rfl (Nat.le_of_ble_eq_true rfl) (Nat.le_of_ble_eq_true rfl) ⟨by rw [f_J9_floorDiv_7cf53, if_neg c1, if_pos c2], rfl⟩
    · refine x_iload_n 0 dJ9_floorDiv_7cf53_17 rfl ?_
      refine x_iconst 1 dJ9_floorDiv_7cf53_18 (by decide) ?_
      refine x_isub dJ9_floorDiv_7cf53_19 ?_
      exact x_ireturn dJ9_floorDiv_7cf53_20 rfl (Nat.le_of_ble_eq_true rfl) (Nat.le_of_ble_eq_true rfl) ⟨by rw [f_J9_floorDiv_7cf53, if_neg c1, if_neg c2], rfl⟩
def f_J9_floorMod_7cf53 (x : Int32) (y : Int32) : Int32 := (if 0 ≤ (x ^^^ y) then (x - x / y * y) else (if (x - x / y * y) = 0 then (x - x / y * y) else ((x - x / y * y) + y)))
set_option maxRecDepth 100000 in
theorem c_J9_floorMod_7cf53 {k : KT} {S : HS}  (x : Int32) (y : Int32) (h0 : ¬ y = 0) : Ct k (mt_J9_floorMod_7cf53 (rm 1 0 0)) [.int (x), .int (y)] S (Pu (f_J9_floorMod_7cf53 x y) S) := by
  refine Ct.ofF (by decide +kernel) (Nat.le_of_ble_eq_true rfl) ?_
  refine x_lv [(0, .int (x)), (1, .int (y))] [0, 1] rfl ?_
  refine x_iload_n 0 dJ9_floorMod_7cf53_0 rfl ?_
  refine x_iload_n 1 dJ9_floorMod_7cf53_1 rfl ?_
  refine x_irem dJ9_floorMod_7cf53_2 h0 ?_
  refine x_istore_n [(2, .int ((x - x / y * y))), (0, .int (x)), (1, .int (y))] dJ9_floorMod_7cf53_3 (Nat.le_of_ble_eq_true rfl) rfl ?_
  refine x_iload_n 1 dJ9_floorMod_7cf53_4 rfl ?_
  refine x_iload_n 2 dJ9_floorMod_7cf53_5 rfl ?_
  refine x_ixor dJ9_floorMod_7cf53_6 ?_
  refine x_if_ge 18 dJ9_floorMod_7cf53_7 (by decide) (fun c1 => ?_) (fun c1 => ?_)
  · refine x_iload_n 0 dJ9_floorMod_7cf53_18 rfl ?_
    exact x_ireturn dJ9_floorMod_7cf53_19 rfl (Nat.le_of_ble_eq_true rfl) (Nat.le_of_ble_eq_true rfl) ⟨by rw [f_J9_floorMod_7cf53, if_pos c1], rfl⟩
  · refine x_iload_n 0 dJ9_floorMod_7cf53_10 rfl ?_
    refine x_if_eq 18 dJ9_floorMod_7cf53_11 (by decide) (fun c2 => ?_) (fun c2 => ?_)
    · refine x_iload_n 0 dJ9_floorMod_7cf53_18 rfl ?_
      exact x_ireturn dJ9_floorMod_7cf53_19 rfl (Nat.le_of_ble_eq_true rfl) (Nat.le_of_ble_eq_true rfl) ⟨by rw [f_J9_floorMod_7cf53, if_neg c1, if_pos c2], rfl⟩
    · refine x_iload_n 0 dJ9_floorMod_7cf53_14 rfl ?_
      refine x_iload_n 2 dJ9_floorMod_7cf53_15 rfl ?_
      refine x_iadd dJ9_floorMod_7cf53_16 ?_
      exact x_ireturn dJ9_floorMod_7cf53_17 rfl (Nat.le_of_ble_eq_true rfl) (Nat.le_of_ble_eq_true rfl) ⟨by rw [f_J9_floorMod_7cf53, if_neg c1, if_neg c2], rfl⟩
theorem two_ne {q : Int32} (h : 0 < q) : ¬ 2 * q = 0 := by
  intro e
  have h1 := Int32.lt_iff_toInt_lt.mp h
  have h2 := congrArg Int32.toInt e
  have h3 := Int32.toInt_lt q
  rw [Int32.toInt_mul] at h2
  simp only [show (0 : Int32).toInt = 0 from rfl, show (2 : Int32).toInt = 2 from rfl] at h1 h2
  rw [Int.bmod_def] at h2
  omega
def f_X6_roundBy (p : Int32) (q : Int32) : Int32 := (if q ≤ 0 then 0 else (f_J9_floorDiv_7cf53 (((2 * p) + q)) ((2 * q))))
set_option maxRecDepth 100000 in
theorem c_X6_roundBy {k : KT} {S : HS}  (p : Int32) (q : Int32)  : Ct k (mt_X6_roundBy (rm 2 0 0)) [.int (p), .int (q)] S (Pu (f_X6_roundBy p q) S) := by
  refine Ct.ofF (by decide +kernel) (Nat.le_of_ble_eq_true rfl) ?_
  refine x_lv [(0, .int (p)), (1, .int (q))] [0, 1] rfl ?_
  refine x_iload_n 1 dX6_roundBy_0 rfl ?_
  refine x_if_le 18 dX6_roundBy_1 (by decide) (fun c1 => ?_) (fun c1 => ?_)
  · refine x_iconst 0 dX6_roundBy_18 (by decide) ?_
    exact x_ireturn dX6_roundBy_19 rfl (Nat.le_of_ble_eq_true rfl) (Nat.le_of_ble_eq_true rfl) ⟨by rw [f_X6_roundBy, if_pos c1], rfl⟩
  · refine x_iconst 2 dX6_roundBy_4 (by decide) ?_
    refine x_iload_n 0 dX6_roundBy_5 rfl ?_
    refine x_imul dX6_roundBy_6 ?_
    refine x_iload_n 1 dX6_roundBy_7 rfl ?_
    refine x_iadd dX6_roundBy_8 ?_
    refine x_iconst 2 dX6_roundBy_9 (by decide) ?_
    refine x_iload_n 1 dX6_roundBy_10 rfl ?_
    refine x_imul dX6_roundBy_11 ?_
    refine ca_X6_227 [.int (((2 * p) + q)), .int ((2 * q))] [] (c_J9_floorDiv_7cf53 (((2 * p) + q)) ((2 * q)) (two_ne (by first | exact c1 | exact Int32.not_le.mp c1))) rfl dX6_roundBy_12 rfl rfl ⟨(Nat.le_of_ble_eq_true rfl), (Nat.le_of_ble_eq_true rfl), (Nat.le_of_ble_eq_true rfl), (Nat.le_of_ble_eq_true rfl), (Nat.le_of_ble_eq_true rfl)⟩ (fun v T hq => ?_)
    obtain ⟨rfl, rfl⟩ := hq
    refine x_at 15 rfl ?_
    refine x_goto 19 dX6_roundBy_15 (by decide) ?_
    exact x_ireturn dX6_roundBy_19 rfl (Nat.le_of_ble_eq_true rfl) (Nat.le_of_ble_eq_true rfl) ⟨by rw [f_X6_roundBy, if_neg c1], rfl⟩
theorem in_of {i : Int32} {n : Nat} (hn : n < 2 ^ 31) (h1 : ¬ i < 0) (h2 : ¬ nI n ≤ i) : vp_in i n := by
  rw [vp_in_iff]
  have a1 := Int32.not_lt.mp h1
  have a2 := Int32.not_le.mp h2
  rw [Int32.le_iff_toInt_le] at a1
  rw [Int32.lt_iff_toInt_lt, nI_toInt hn] at a2
  simp only [show (0 : Int32).toInt = 0 from rfl] at a1
  omega
def f_X6_cosOf (d : Int32) : Int32 := (if d < 0 then 0 else (if 91 ≤ d then 0 else (cosL.getD (d).toNatClampNeg 0)))
set_option maxRecDepth 100000 in
theorem c_X6_cosOf {k : KT} {S : HS}  (d : Int32)  : Ct k (mt_X6_cosOf (rm 1 0 0)) [.int (d)] S (Pu (f_X6_cosOf d) S) := by
  refine Ct.ofF (by decide +kernel) (Nat.le_of_ble_eq_true rfl) ?_
  refine x_lv [(0, .int (d))] [0] rfl ?_
  refine x_iload_n 0 dX6_cosOf_0 rfl ?_
  refine x_if_lt 20 dX6_cosOf_1 (by decide) (fun c1 => ?_) (fun c1 => ?_)
  · refine x_iconst 0 dX6_cosOf_20 (by decide) ?_
    exact x_ireturn dX6_cosOf_21 rfl (Nat.le_of_ble_eq_true rfl) (Nat.le_of_ble_eq_true rfl) ⟨by rw [f_X6_cosOf, if_pos c1], rfl⟩
  · refine x_iload_n 0 dX6_cosOf_4 rfl ?_
    refine x_getsC dX6_cosOf_5 tw_5_8 ?_
    refine x_tlenC dX6_cosOf_8 ?_
    refine x_icmp_ge 20 dX6_cosOf_9 (by decide) (fun c2 => ?_) (fun c2 => ?_)
    · refine x_iconst 0 dX6_cosOf_20 (by decide) ?_
      exact x_ireturn dX6_cosOf_21 rfl (Nat.le_of_ble_eq_true rfl) (Nat.le_of_ble_eq_true rfl) ⟨by rw [f_X6_cosOf, if_neg c1, if_pos c2], rfl⟩
    · refine x_getsC dX6_cosOf_12 tw_5_8 ?_
      refine x_iload_n 0 dX6_cosOf_15 rfl ?_
      refine x_tiC dX6_cosOf_16 (in_of (by decide) c1 c2) ?_
      refine x_goto 21 dX6_cosOf_17 (by decide) ?_
      exact x_ireturn dX6_cosOf_21 rfl (Nat.le_of_ble_eq_true rfl) (Nat.le_of_ble_eq_true rfl) ⟨by rw [f_X6_cosOf, if_neg c1, if_neg c2], rfl⟩
def f_X6_narrowAt (h : Int32) : Int32 := ((((f_X6_cosOf (((if 0 ≤ h then h else 0 - h) / 60))) * (60 - ((if 0 ≤ h then h else 0 - h) - (if 0 ≤ h then h else 0 - h) / 60 * 60))) + ((f_X6_cosOf ((((if 0 ≤ h then h else 0 - h) / 60) + 1))) * ((if 0 ≤ h then h else 0 - h) - (if 0 ≤ h then h else 0 - h) / 60 * 60))) / 60)
set_option maxRecDepth 100000 in
theorem c_X6_narrowAt {k : KT} {S : HS}  (h : Int32)  : Ct k (mt_X6_narrowAt (rm 2 0 0)) [.int (h)] S (Pu (f_X6_narrowAt h) S) := by
  refine Ct.ofF (by decide +kernel) (Nat.le_of_ble_eq_true rfl) ?_
  refine x_lv [(0, .int (h))] [0] rfl ?_
  refine x_iload_n 0 dX6_narrowAt_0 rfl ?_
  refine ca_X6_235 rfl dX6_narrowAt_1 (Nat.le_of_ble_eq_true rfl) (Nat.le_of_ble_eq_true rfl) (Nat.le_of_ble_eq_true rfl) (Nat.le_of_ble_eq_true rfl) ?_
  refine x_istore_n [(1, .int ((if 0 ≤ h then h else 0 - h))), (0, .int (h))] dX6_narrowAt_4 (Nat.le_of_ble_eq_true rfl) rfl ?_
  refine x_iload_n 0 dX6_narrowAt_5 rfl ?_
  refine x_bipush 60 dX6_narrowAt_6 (by decide) ?_
  refine x_idiv dX6_narrowAt_8 (by decide) ?_
  refine x_istore_n [(2, .int (((if 0 ≤ h then h else 0 - h) / 60))), (1, .int ((if 0 ≤ h then h else 0 - h))), (0, .int (h))] dX6_narrowAt_9 (Nat.le_of_ble_eq_true rfl) rfl ?_
  refine x_iload_n 1 dX6_narrowAt_10 rfl ?_
  refine x_bipush 60 dX6_narrowAt_11 (by decide) ?_
  refine x_irem dX6_narrowAt_13 (by decide) ?_
  refine x_istore_n [(3, .int (((if 0 ≤ h then h else 0 - h) - (if 0 ≤ h then h else 0 - h) / 60 * 60))), (2, .int (((if 0 ≤ h then h else 0 - h) / 60))), (1, .int ((if 0 ≤ h then h else 0 - h))), (0, .int (h))] dX6_narrowAt_14 (Nat.le_of_ble_eq_true rfl) rfl ?_
  refine x_at 15 rfl ?_
  refine x_iload_n 1 dX6_narrowAt_15 rfl ?_
  refine ca_X6_238 [.int (((if 0 ≤ h then h else 0 - h) / 60))] [] (c_X6_cosOf (((if 0 ≤ h then h else 0 - h) / 60))) rfl dX6_narrowAt_16 rfl rfl ⟨(Nat.le_of_ble_eq_true rfl), (Nat.le_of_ble_eq_true rfl), (Nat.le_of_ble_eq_true rfl), (Nat.le_of_ble_eq_true rfl), (Nat.le_of_ble_eq_true rfl)⟩ (fun v T hq => ?_)
  obtain ⟨rfl, rfl⟩ := hq
  refine x_bipush 60 dX6_narrowAt_19 (by decide) ?_
  refine x_iload_n 0 dX6_narrowAt_21 rfl ?_
  refine x_isub dX6_narrowAt_22 ?_
  refine x_imul dX6_narrowAt_23 ?_
  refine x_iload_n 1 dX6_narrowAt_24 rfl ?_
  refine x_iconst 1 dX6_narrowAt_25 (by decide) ?_
  refine x_iadd dX6_narrowAt_26 ?_
  refine ca_X6_238 [.int ((((if 0 ≤ h then h else 0 - h) / 60) + 1))] [.int (((f_X6_cosOf (((if 0 ≤ h then h else 0 - h) / 60))) * (60 - ((if 0 ≤ h then h else 0 - h) - (if 0 ≤ h then h else 0 - h) / 60 * 60))))] (c_X6_cosOf ((((if 0 ≤ h then h else 0 - h) / 60) + 1))) rfl dX6_narrowAt_27 rfl rfl ⟨(Nat.le_of_ble_eq_true rfl), (Nat.le_of_ble_eq_true rfl), (Nat.le_of_ble_eq_true rfl), (Nat.le_of_ble_eq_true rfl), (Nat.le_of_ble_eq_true rfl)⟩ (fun v T hq => ?_)
  obtain ⟨rfl, rfl⟩ := hq
  refine x_iload_n 0 dX6_narrowAt_30 rfl ?_
  refine x_imul dX6_narrowAt_31 ?_
  refine x_at 32 rfl ?_
  refine x_iadd dX6_narrowAt_32 ?_
  refine x_bipush 60 dX6_narrowAt_33 (by decide) ?_
  refine x_idiv dX6_narrowAt_35 (by decide) ?_
  exact x_ireturn dX6_narrowAt_36 rfl (Nat.le_of_ble_eq_true rfl) (Nat.le_of_ble_eq_true rfl) ⟨by rw [f_X6_narrowAt], rfl⟩
def f_X6_xOf (sd : Int32) (h : Int32) : Int32 := (((30 * sd) * (f_X6_narrowAt h)) / 1000)
set_option maxRecDepth 100000 in
theorem c_X6_xOf {k : KT} {S : HS}  (sd : Int32) (h : Int32)  : Ct k (mt_X6_xOf (rm 3 0 0)) [.int (sd), .int (h)] S (Pu (f_X6_xOf sd h) S) := by
  refine Ct.ofF (by decide +kernel) (Nat.le_of_ble_eq_true rfl) ?_
  refine x_lv [(0, .int (sd)), (1, .int (h))] [0, 1] rfl ?_
  refine x_bipush 30 dX6_xOf_0 (by decide) ?_
  refine x_iload_n 0 dX6_xOf_2 rfl ?_
  refine x_imul dX6_xOf_3 ?_
  refine x_iload_n 1 dX6_xOf_4 rfl ?_
  refine ca_X6_45 [.int (h)] [.int ((30 * sd))] (c_X6_narrowAt (h)) rfl dX6_xOf_5 rfl rfl ⟨(Nat.le_of_ble_eq_true rfl), (Nat.le_of_ble_eq_true rfl), (Nat.le_of_ble_eq_true rfl), (Nat.le_of_ble_eq_true rfl), (Nat.le_of_ble_eq_true rfl)⟩ (fun v T hq => ?_)
  obtain ⟨rfl, rfl⟩ := hq
  refine x_imul dX6_xOf_8 ?_
  refine x_sipush 1000 dX6_xOf_9 (by decide) ?_
  refine x_idiv dX6_xOf_12 (by decide) ?_
  exact x_ireturn dX6_xOf_13 rfl (Nat.le_of_ble_eq_true rfl) (Nat.le_of_ble_eq_true rfl) ⟨by rw [f_X6_xOf], rfl⟩
def f_X6_narrow (h : Int32) : Int32 := (if (f_X6_isHeight h) = 0 then (-1) else (f_X6_narrowAt h))
set_option maxRecDepth 100000 in
theorem c_X6_narrow {k : KT} {S : HS} {o : Nat}  (h : Int32) (hKo : gK S o = 8)  : Ct k (mt_X6_narrow (rm 3 0 0)) [.ref (o), .int (h)] S (Pu (f_X6_narrow h) S) := by
  refine Ct.ofF (by decide +kernel) (Nat.le_of_ble_eq_true rfl) ?_
  refine x_lv [(0, .ref (o)), (1, .int (h))] [0, 1] rfl ?_
  refine x_iload_n 1 dX6_narrow_0 rfl ?_
  refine ca_X6_41 [.int (h)] [] (c_X6_isHeight (h)) rfl dX6_narrow_1 rfl rfl ⟨(Nat.le_of_ble_eq_true rfl), (Nat.le_of_ble_eq_true rfl), (Nat.le_of_ble_eq_true rfl), (Nat.le_of_ble_eq_true rfl), (Nat.le_of_ble_eq_true rfl)⟩ (fun v T hq => ?_)
  obtain ⟨rfl, rfl⟩ := hq
  refine x_if_eq 14 dX6_narrow_4 (by decide) (fun c1 => ?_) (fun c1 => ?_)
  · refine x_iconst (-1) dX6_narrow_14 (by decide) ?_
    exact x_ireturn dX6_narrow_15 rfl (Nat.le_of_ble_eq_true rfl) (Nat.le_of_ble_eq_true rfl) ⟨by rw [f_X6_narrow, if_pos c1], rfl⟩
  · refine x_iload_n 1 dX6_narrow_7 rfl ?_
    refine ca_X6_45 [.int (h)] [] (c_X6_narrowAt (h)) rfl dX6_narrow_8 rfl rfl ⟨(Nat.le_of_ble_eq_true rfl), (Nat.le_of_ble_eq_true rfl), (Nat.le_of_ble_eq_true rfl), (Nat.le_of_ble_eq_true rfl), (Nat.le_of_ble_eq_true rfl)⟩ (fun v T hq => ?_)
    obtain ⟨rfl, rfl⟩ := hq
    refine x_goto 15 dX6_narrow_11 (by decide) ?_
    exact x_ireturn dX6_narrow_15 rfl (Nat.le_of_ble_eq_true rfl) (Nat.le_of_ble_eq_true rfl) ⟨by rw [f_X6_narrow, if_neg c1], rfl⟩
def f_X6_across (wd : Int32) (sd : Int32) (h : Int32) : Int32 := (if sd < (-wd) then (-2147483648) else (if wd < sd then (-2147483648) else (if (f_X6_isHeight h) = 0 then (-2147483648) else (f_X6_xOf sd h))))
set_option maxRecDepth 100000 in
theorem c_X6_across {k : KT} {S : HS} {o : Nat}  (wd : Int32) (sd : Int32) (h : Int32) (hKo : gK S o = 8) (hvwd : gI S 224 o = wd)  : Ct k (mt_X6_across (rm 4 0 0)) [.ref (o), .int (sd), .int (h)] S (Pu (f_X6_across wd sd h) S) := by
  refine Ct.ofF (by decide +kernel) (Nat.le_of_ble_eq_true rfl) ?_
  refine x_lv [(0, .ref (o)), (1, .int (sd)), (2, .int (h))] [0, 1, 2] rfl ?_
  refine x_iload_n 1 dX6_across_0 rfl ?_
  refine x_aload_n 0 dX6_across_1 rfl ?_
  refine gf_X6_30 rfl dX6_across_2 hKo ?_
  rw [show gI (S) 224 (o) = wd from hvwd]
  refine x_ineg dX6_across_5 ?_
  refine x_icmp_lt 28 dX6_across_6 (by decide) (fun c1 => ?_) (fun c1 => ?_)
  · refine x_iconst 0 dX6_across_28 (by decide) ?_
    refine x_istore_n [(3, .int (0)), (0, .ref (o)), (1, .int (sd)), (2, .int (h))] dX6_across_29 (Nat.le_of_ble_eq_true rfl) rfl ?_
    refine x_iload_n 0 dX6_across_30 rfl ?_
    refine x_if_eq 42 dX6_across_31 (by decide) (fun c2 => ?_) (fun c2 => ?_)
    · refine x_ldc dX6_across_42 tw_6_0 ?_
      exact x_ireturn dX6_across_44 rfl (Nat.le_of_ble_eq_true rfl) (Nat.le_of_ble_eq_true rfl) ⟨by rw [f_X6_across, if_pos c1], rfl⟩
    · exact absurd (by decide) c2
  · refine x_iload_n 1 dX6_across_9 rfl ?_
    refine x_aload_n 0 dX6_across_10 rfl ?_
    refine gf_X6_30 rfl dX6_across_11 hKo ?_
    rw [show gI (S) 224 (o) = wd from hvwd]
    refine x_icmp_gt 28 dX6_across_14 (by decide) (fun c3 => ?_) (fun c3 => ?_)
    · refine x_iconst 0 dX6_across_28 (by decide) ?_
      refine x_istore_n [(3, .int (0)), (0, .ref (o)), (1, .int (sd)), (2, .int (h))] dX6_across_29 (Nat.le_of_ble_eq_true rfl) rfl ?_
      refine x_iload_n 0 dX6_across_30 rfl ?_
      refine x_if_eq 42 dX6_across_31 (by decide) (fun c4 => ?_) (fun c4 => ?_)
      · refine x_ldc dX6_across_42 tw_6_0 ?_
        exact x_ireturn dX6_across_44 rfl (Nat.le_of_ble_eq_true rfl) (Nat.le_of_ble_eq_true rfl) ⟨by rw [f_X6_across, if_neg c1, if_pos c3], rfl⟩
      · exact absurd (by decide) c4
    · refine x_iload_n 2 dX6_across_17 rfl ?_
      refine ca_X6_41 [.int (h)] [] (c_X6_isHeight (h)) rfl dX6_across_18 rfl rfl ⟨(Nat.le_of_ble_eq_true rfl), (Nat.le_of_ble_eq_true rfl), (Nat.le_of_ble_eq_true rfl), (Nat.le_of_ble_eq_true rfl), (Nat.le_of_ble_eq_true rfl)⟩ (fun v T hq => ?_)
      obtain ⟨rfl, rfl⟩ := hq
      refine x_if_eq 28 dX6_across_21 (by decide) (fun c5 => ?_) (fun c5 => ?_)
      · refine x_iconst 0 dX6_across_28 (by decide) ?_
        refine x_istore_n [(3, .int (0)), (0, .ref (o)), (1, .int (sd)), (2, .int (h))] dX6_across_29 (Nat.le_of_ble_eq_true rfl) rfl ?_
        refine x_iload_n 0 dX6_across_30 rfl ?_
        refine x_if_eq 42 dX6_across_31 (by decide) (fun c6 => ?_) (fun c6 => ?_)
        · refine x_ldc dX6_across_42 tw_6_0 ?_
          exact x_ireturn dX6_across_44 rfl (Nat.le_of_ble_eq_true rfl) (Nat.le_of_ble_eq_true rfl) ⟨by rw [f_X6_across, if_neg c1, if_neg c3, if_pos c5], rfl⟩
        · exact absurd (by decide) c6
      · refine x_iconst 1 dX6_across_24 (by decide) ?_
        refine x_goto 29 dX6_across_25 (by decide) ?_
        refine x_istore_n [(3, .int (1)), (0, .ref (o)), (1, .int (sd)), (2, .int (h))] dX6_across_29 (Nat.le_of_ble_eq_true rfl) rfl ?_
        refine x_iload_n 0 dX6_across_30 rfl ?_
        refine x_if_eq 42 dX6_across_31 (by decide) (fun c7 => ?_) (fun c7 => ?_)
        · exact absurd c7 (by decide)
        · refine x_iload_n 2 dX6_across_34 rfl ?_
          refine x_iload_n 3 dX6_across_35 rfl ?_
          refine ca_X6_48 [.int (sd), .int (h)] [] (c_X6_xOf (sd) (h)) rfl dX6_across_36 rfl rfl ⟨(Nat.le_of_ble_eq_true rfl), (Nat.le_of_ble_eq_true rfl), (Nat.le_of_ble_eq_true rfl), (Nat.le_of_ble_eq_true rfl), (Nat.le_of_ble_eq_true rfl)⟩ (fun v T hq => ?_)
          obtain ⟨rfl, rfl⟩ := hq
          refine x_goto 44 dX6_across_39 (by decide) ?_
          exact x_ireturn dX6_across_44 rfl (Nat.le_of_ble_eq_true rfl) (Nat.le_of_ble_eq_true rfl) ⟨by rw [f_X6_across, if_neg c1, if_neg c3, if_neg c5], rfl⟩
def f_X6_grownThousand (ga : Int32) (gl : Int32) (wh : Int32) : Int32 := (if wh = 0 then (1000 + ga) else (1000 + gl))
set_option maxRecDepth 100000 in
theorem c_X6_grownThousand {k : KT} {S : HS} {o : Nat}  (ga : Int32) (gl : Int32) (wh : Int32) (hKo : gK S o = 8) (hvga : gI S 230 o = ga) (hvgl : gI S 231 o = gl)  : Ct k (mt_X6_grownThousand (rm 1 0 0)) [.ref (o), .int (wh)] S (Pu (f_X6_grownThousand ga gl wh) S) := by
  refine Ct.ofF (by decide +kernel) (Nat.le_of_ble_eq_true rfl) ?_
  refine x_lv [(0, .ref (o)), (1, .int (wh))] [0, 1] rfl ?_
  refine x_sipush 1000 dX6_grownThousand_0 (by decide) ?_
  refine x_iload_n 1 dX6_grownThousand_3 rfl ?_
  refine x_if_ne 14 dX6_grownThousand_4 (by decide) (fun c1 => ?_) (fun c1 => ?_)
  · refine x_aload_n 0 dX6_grownThousand_14 rfl ?_
    refine gf_X6_140 rfl dX6_grownThousand_15 hKo ?_
    rw [show gI (S) 231 (o) = gl from hvgl]
    refine x_iadd dX6_grownThousand_18 ?_
    exact x_ireturn dX6_grownThousand_19 rfl (Nat.le_of_ble_eq_true rfl) (Nat.le_of_ble_eq_true rfl) ⟨by rw [f_X6_grownThousand, if_neg c1], rfl⟩
  · refine x_aload_n 0 dX6_grownThousand_7 rfl ?_
    refine gf_X6_137 rfl dX6_grownThousand_8 hKo ?_
    rw [show gI (S) 230 (o) = ga from hvga]
    refine x_goto 18 dX6_grownThousand_11 (by decide) ?_
    refine x_iadd dX6_grownThousand_18 ?_
    exact x_ireturn dX6_grownThousand_19 rfl (Nat.le_of_ble_eq_true rfl) (Nat.le_of_ble_eq_true rfl) ⟨by rw [f_X6_grownThousand, if_pos c1], rfl⟩
def f_X6_drawn (ga : Int32) (gl : Int32) (v : Int32) (wh : Int32) : Int32 := (if (f_X6_isOnPaper v wh) = 0 then (-1) else (f_X6_roundBy ((v * 1000)) ((f_X6_grownThousand ga gl wh))))
set_option maxRecDepth 100000 in
theorem c_X6_drawn {k : KT} {S : HS} {o : Nat}  (ga : Int32) (gl : Int32) (v : Int32) (wh : Int32) (hKo : gK S o = 8) (hvga : gI S 230 o = ga) (hvgl : gI S 231 o = gl)  : Ct k (mt_X6_drawn (rm 3 0 0)) [.ref (o), .int (v), .int (wh)] S (Pu (f_X6_drawn ga gl v wh) S) := by
  refine Ct.ofF (by decide +kernel) (Nat.le_of_ble_eq_true rfl) ?_
  refine x_lv [(0, .ref (o)), (1, .int (v)), (2, .int (wh))] [0, 1, 2] rfl ?_
  refine x_iload_n 1 dX6_drawn_0 rfl ?_
  refine x_iload_n 2 dX6_drawn_1 rfl ?_
  refine ca_X6_147 [.int (v), .int (wh)] [] (c_X6_isOnPaper (v) (wh)) rfl dX6_drawn_2 rfl rfl ⟨(Nat.le_of_ble_eq_true rfl), (Nat.le_of_ble_eq_true rfl), (Nat.le_of_ble_eq_true rfl), (Nat.le_of_ble_eq_true rfl), (Nat.le_of_ble_eq_true rfl)⟩ (fun v T hq => ?_)
  obtain ⟨rfl, rfl⟩ := hq
  refine x_if_eq 24 dX6_drawn_5 (by decide) (fun c1 => ?_) (fun c1 => ?_)
  · refine x_iconst (-1) dX6_drawn_24 (by decide) ?_
    exact x_ireturn dX6_drawn_25 rfl (Nat.le_of_ble_eq_true rfl) (Nat.le_of_ble_eq_true rfl) ⟨by rw [f_X6_drawn, if_pos c1], rfl⟩
  · refine x_iload_n 1 dX6_drawn_8 rfl ?_
    refine x_sipush 1000 dX6_drawn_9 (by decide) ?_
    refine x_imul dX6_drawn_12 ?_
    refine x_aload_n 0 dX6_drawn_13 rfl ?_
    refine x_iload_n 2 dX6_drawn_14 rfl ?_
    refine ca_X6_150 [.int (wh)] [.int ((v * 1000))] (c_X6_grownThousand (ga) (gl) (wh) hKo hvga hvgl) hKo rfl dX6_drawn_15 rfl rfl ⟨(Nat.le_of_ble_eq_true rfl), (Nat.le_of_ble_eq_true rfl), (Nat.le_of_ble_eq_true rfl), (Nat.le_of_ble_eq_true rfl), (Nat.le_of_ble_eq_true rfl)⟩ (fun v T hq => ?_)
    obtain ⟨rfl, rfl⟩ := hq
    refine ca_X6_153 [.int ((v * 1000)), .int ((f_X6_grownThousand ga gl wh))] [] (c_X6_roundBy ((v * 1000)) ((f_X6_grownThousand ga gl wh))) rfl dX6_drawn_18 rfl rfl ⟨(Nat.le_of_ble_eq_true rfl), (Nat.le_of_ble_eq_true rfl), (Nat.le_of_ble_eq_true rfl), (Nat.le_of_ble_eq_true rfl), (Nat.le_of_ble_eq_true rfl)⟩ (fun v T hq => ?_)
    obtain ⟨rfl, rfl⟩ := hq
    refine x_goto 25 dX6_drawn_21 (by decide) ?_
    exact x_ireturn dX6_drawn_25 rfl (Nat.le_of_ble_eq_true rfl) (Nat.le_of_ble_eq_true rfl) ⟨by rw [f_X6_drawn, if_neg c1], rfl⟩
def f_X6_wet (ga : Int32) (gl : Int32) (v : Int32) (wh : Int32) : Int32 := (if (f_X6_isOnPaper v wh) = 0 then (-1) else (f_X6_roundBy ((v * (f_X6_grownThousand ga gl wh))) 1000))
set_option maxRecDepth 100000 in
theorem c_X6_wet {k : KT} {S : HS} {o : Nat}  (ga : Int32) (gl : Int32) (v : Int32) (wh : Int32) (hKo : gK S o = 8) (hvga : gI S 230 o = ga) (hvgl : gI S 231 o = gl)  : Ct k (mt_X6_wet (rm 3 0 0)) [.ref (o), .int (v), .int (wh)] S (Pu (f_X6_wet ga gl v wh) S) := by
  refine Ct.ofF (by decide +kernel) (Nat.le_of_ble_eq_true rfl) ?_
  refine x_lv [(0, .ref (o)), (1, .int (v)), (2, .int (wh))] [0, 1, 2] rfl ?_
  refine x_iload_n 1 dX6_wet_0 rfl ?_
  refine x_iload_n 2 dX6_wet_1 rfl ?_
  refine ca_X6_147 [.int (v), .int (wh)] [] (c_X6_isOnPaper (v) (wh)) rfl dX6_wet_2 rfl rfl ⟨(Nat.le_of_ble_eq_true rfl), (Nat.le_of_ble_eq_true rfl), (Nat.le_of_ble_eq_true rfl), (Nat.le_of_ble_eq_true rfl), (Nat.le_of_ble_eq_true rfl)⟩ (fun v T hq => ?_)
  obtain ⟨rfl, rfl⟩ := hq
  refine x_if_eq 24 dX6_wet_5 (by decide) (fun c1 => ?_) (fun c1 => ?_)
  · refine x_iconst (-1) dX6_wet_24 (by decide) ?_
    exact x_ireturn dX6_wet_25 rfl (Nat.le_of_ble_eq_true rfl) (Nat.le_of_ble_eq_true rfl) ⟨by rw [f_X6_wet, if_pos c1], rfl⟩
  · refine x_iload_n 1 dX6_wet_8 rfl ?_
    refine x_aload_n 0 dX6_wet_9 rfl ?_
    refine x_iload_n 2 dX6_wet_10 rfl ?_
    refine ca_X6_150 [.int (wh)] [.int (v)] (c_X6_grownThousand (ga) (gl) (wh) hKo hvga hvgl) hKo rfl dX6_wet_11 rfl rfl ⟨(Nat.le_of_ble_eq_true rfl), (Nat.le_of_ble_eq_true rfl), (Nat.le_of_ble_eq_true rfl), (Nat.le_of_ble_eq_true rfl), (Nat.le_of_ble_eq_true rfl)⟩ (fun v T hq => ?_)
    obtain ⟨rfl, rfl⟩ := hq
    refine x_imul dX6_wet_14 ?_
    refine x_sipush 1000 dX6_wet_15 (by decide) ?_
    refine ca_X6_153 [.int ((v * (f_X6_grownThousand ga gl wh))), .int (1000)] [] (c_X6_roundBy ((v * (f_X6_grownThousand ga gl wh))) (1000)) rfl dX6_wet_18 rfl rfl ⟨(Nat.le_of_ble_eq_true rfl), (Nat.le_of_ble_eq_true rfl), (Nat.le_of_ble_eq_true rfl), (Nat.le_of_ble_eq_true rfl), (Nat.le_of_ble_eq_true rfl)⟩ (fun v T hq => ?_)
    obtain ⟨rfl, rfl⟩ := hq
    refine x_goto 25 dX6_wet_21 (by decide) ?_
    exact x_ireturn dX6_wet_25 rfl (Nat.le_of_ble_eq_true rfl) (Nat.le_of_ble_eq_true rfl) ⟨by rw [f_X6_wet, if_neg c1], rfl⟩
def f_X6_sideOf (wd : Int32) (lon : Int32) (g : Int32) : Int32 := ((2 * (f_J9_floorMod_7cf53 ((lon - (g * wd))) 360)) - wd)
set_option maxRecDepth 100000 in
theorem c_X6_sideOf {k : KT} {S : HS} {o : Nat}  (wd : Int32) (lon : Int32) (g : Int32) (hKo : gK S o = 8) (hvwd : gI S 224 o = wd)  : Ct k (mt_X6_sideOf (rm 2 0 0)) [.ref (o), .int (lon), .int (g)] S (Pu (f_X6_sideOf wd lon g) S) := by
  refine Ct.ofF (by decide +kernel) (Nat.le_of_ble_eq_true rfl) ?_
  refine x_lv [(0, .ref (o)), (1, .int (lon)), (2, .int (g))] [0, 1, 2] rfl ?_
  refine x_iconst 2 dX6_sideOf_0 (by decide) ?_
  refine x_iload_n 1 dX6_sideOf_1 rfl ?_
  refine x_iload_n 2 dX6_sideOf_2 rfl ?_
  refine x_aload_n 0 dX6_sideOf_3 rfl ?_
  refine gf_X6_30 rfl dX6_sideOf_4 hKo ?_
  rw [show gI (S) 224 (o) = wd from hvwd]
  refine x_imul dX6_sideOf_7 ?_
  refine x_isub dX6_sideOf_8 ?_
  refine x_sipush 360 dX6_sideOf_9 (by decide) ?_
  refine ca_X6_241 [.int ((lon - (g * wd))), .int (360)] [.int (2)] (c_J9_floorMod_7cf53 ((lon - (g * wd))) (360) (by decide)) rfl dX6_sideOf_12 rfl rfl ⟨(Nat.le_of_ble_eq_true rfl), (Nat.le_of_ble_eq_true rfl), (Nat.le_of_ble_eq_true rfl), (Nat.le_of_ble_eq_true rfl), (Nat.le_of_ble_eq_true rfl)⟩ (fun v T hq => ?_)
  obtain ⟨rfl, rfl⟩ := hq
  refine x_imul dX6_sideOf_15 ?_
  refine x_aload_n 0 dX6_sideOf_16 rfl ?_
  refine x_at 17 rfl ?_
  refine gf_X6_30 rfl dX6_sideOf_17 hKo ?_
  rw [show gI (S) 224 (o) = wd from hvwd]
  refine x_isub dX6_sideOf_20 ?_
  exact x_ireturn dX6_sideOf_21 rfl (Nat.le_of_ble_eq_true rfl) (Nat.le_of_ble_eq_true rfl) ⟨by rw [f_X6_sideOf], rfl⟩
def f_X6_goneFromEdge (wd : Int32) (lon : Int32) (dr : Int32) : Int32 := (f_J9_floorMod_7cf53 ((dr * lon)) wd)
set_option maxRecDepth 100000 in
theorem c_X6_goneFromEdge {k : KT} {S : HS} {o : Nat} {t : Nat}  (wd : Int32) (lon : Int32) (dr : Int32) (hKo : gK S o = 8) (hvwd : gI S 224 o = wd) (hKt : gK S t = 7) (hvlon : gI S 192 t = lon) (hvdr : gI S 196 t = dr) (h0 : ¬ wd = 0) : Ct k (mt_X6_goneFromEdge (rm 2 0 0)) [.ref (o), .ref (t)] S (Pu (f_X6_goneFromEdge wd lon dr) S) := by
  refine Ct.ofF (by decide +kernel) (Nat.le_of_ble_eq_true rfl) ?_
  refine x_lv [(0, .ref (o)), (1, .ref (t))] [0, 1] rfl ?_
  refine x_aload_n 1 dX6_goneFromEdge_0 rfl ?_
  refine gf_X6_244 rfl dX6_goneFromEdge_1 hKt ?_
  rw [show gI (S) 196 (t) = dr from hvdr]
  refine x_aload_n 1 dX6_goneFromEdge_4 rfl ?_
  refine gf_X6_247 rfl dX6_goneFromEdge_5 hKt ?_
  rw [show gI (S) 192 (t) = lon from hvlon]
  refine x_imul dX6_goneFromEdge_8 ?_
  refine x_aload_n 0 dX6_goneFromEdge_9 rfl ?_
  refine gf_X6_30 rfl dX6_goneFromEdge_10 hKo ?_
  rw [show gI (S) 224 (o) = wd from hvwd]
  refine ca_X6_241 [.int ((dr * lon)), .int (wd)] [] (c_J9_floorMod_7cf53 ((dr * lon)) (wd) h0) rfl dX6_goneFromEdge_13 rfl rfl ⟨(Nat.le_of_ble_eq_true rfl), (Nat.le_of_ble_eq_true rfl), (Nat.le_of_ble_eq_true rfl), (Nat.le_of_ble_eq_true rfl), (Nat.le_of_ble_eq_true rfl)⟩ (fun v T hq => ?_)
  obtain ⟨rfl, rfl⟩ := hq
  exact x_ireturn dX6_goneFromEdge_16 rfl (Nat.le_of_ble_eq_true rfl) (Nat.le_of_ble_eq_true rfl) ⟨by rw [f_X6_goneFromEdge], rfl⟩
def f_X6_piecesOf (wd : Int32) (lon : Int32) (ln : Int32) (dr : Int32) : Int32 := (if ln = 0 then (if (f_X6_goneFromEdge wd lon dr) = 0 then 2 else 1) else (((((f_X6_goneFromEdge wd lon dr) + ln) + wd) - 1) / wd))
set_option maxRecDepth 100000 in
theorem c_X6_piecesOf {k : KT} {S : HS} {o : Nat} {t : Nat}  (wd : Int32) (lon : Int32) (ln : Int32) (dr : Int32) (hKo : gK S o = 8) (hvwd : gI S 224 o = wd) (hKt : gK S t = 7) (hvlon : gI S 192 t = lon) (hvln : gI S 195 t = ln) (hvdr : gI S 196 t = dr) (h0 : ¬ wd = 0) : Ct k (mt_X6_piecesOf (rm 3 0 0)) [.ref (o), .ref (t)] S (Pu (f_X6_piecesOf wd lon ln dr) S) := by
  refine Ct.ofF (by decide +kernel) (Nat.le_of_ble_eq_true rfl) ?_
  refine x_lv [(0, .ref (o)), (1, .ref (t))] [0, 1] rfl ?_
  refine x_aload_n 0 dX6_piecesOf_0 rfl ?_
  refine x_aload_n 1 dX6_piecesOf_1 rfl ?_
  refine ca_X6_248 [.ref (t)] [] (c_X6_goneFromEdge (wd) (lon) (dr)  hKo hvwd hKt hvlon hvdr h0) hKo rfl dX6_piecesOf_2 rfl rfl ⟨(Nat.le_of_ble_eq_true rfl), (Nat.le_of_ble_eq_true rfl), (Nat.le_of_ble_eq_true rfl), (Nat.le_of_ble_eq_true rfl), (Nat.le_of_ble_eq_true rfl)⟩ (fun v T hq => ?_)
  obtain ⟨rfl, rfl⟩ := hq
  refine x_istore_n [(2, .int ((f_X6_goneFromEdge wd lon dr))), (0, .ref (o)), (1, .ref (t))] dX6_piecesOf_5 (Nat.le_of_ble_eq_true rfl) rfl ?_
  refine x_aload_n 2 dX6_piecesOf_6 rfl ?_
  refine gf_X6_82 rfl dX6_piecesOf_7 hKt ?_
  rw [show gI (S) 195 (t) = ln from hvln]
  refine x_if_ne 23 dX6_piecesOf_10 (by decide) (fun c1 => ?_) (fun c1 => ?_)
  · refine x_iload_n 0 dX6_piecesOf_23 rfl ?_
    refine x_aload_n 2 dX6_piecesOf_24 rfl ?_
    refine gf_X6_82 rfl dX6_piecesOf_25 hKt ?_
    rw [show gI (S) 195 (t) = ln from hvln]
    refine x_iadd dX6_piecesOf_28 ?_
    refine x_aload_n 1 dX6_piecesOf_29 rfl ?_
    refine gf_X6_30 rfl dX6_piecesOf_30 hKo ?_
    rw [show gI (S) 224 (o) = wd from hvwd]
    refine x_iadd dX6_piecesOf_33 ?_
    refine x_iconst 1 dX6_piecesOf_34 (by decide) ?_
    refine x_isub dX6_piecesOf_35 ?_
    refine x_aload_n 1 dX6_piecesOf_36 rfl ?_
    refine gf_X6_30 rfl dX6_piecesOf_37 hKo ?_
    rw [show gI (S) 224 (o) = wd from hvwd]
    refine x_at 40 rfl ?_
    refine x_idiv dX6_piecesOf_40 h0 ?_
    exact x_ireturn dX6_piecesOf_41 rfl (Nat.le_of_ble_eq_true rfl) (Nat.le_of_ble_eq_true rfl) ⟨by rw [f_X6_piecesOf, if_neg c1], rfl⟩
  · refine x_iload_n 0 dX6_piecesOf_13 rfl ?_
    refine x_if_ne 21 dX6_piecesOf_14 (by decide) (fun c2 => ?_) (fun c2 => ?_)
    · refine x_iconst 1 dX6_piecesOf_21 (by decide) ?_
      exact x_ireturn dX6_piecesOf_22 rfl (Nat.le_of_ble_eq_true rfl) (Nat.le_of_ble_eq_true rfl) ⟨by rw [f_X6_piecesOf, if_pos c1, if_neg c2], rfl⟩
    · refine x_iconst 2 dX6_piecesOf_17 (by decide) ?_
      refine x_goto 22 dX6_piecesOf_18 (by decide) ?_
      exact x_ireturn dX6_piecesOf_22 rfl (Nat.le_of_ble_eq_true rfl) (Nat.le_of_ble_eq_true rfl) ⟨by rw [f_X6_piecesOf, if_pos c1, if_pos c2], rfl⟩
def f_X0_isAt (clon : Int32) (clat : Int32) (lon : Int32) (lat : Int32) : Int32 := (if clon = lon then (if clat = lat then 1 else 0) else 0)
set_option maxRecDepth 100000 in
theorem c_X0_isAt {k : KT} {S : HS} {o : Nat}  (clon : Int32) (clat : Int32) (lon : Int32) (lat : Int32) (hKo : gK S o = 2) (hvclon : gI S 32 o = clon) (hvclat : gI S 33 o = clat)  : Ct k (mt_X0_isAt (rm 1 0 0)) [.ref (o), .int (lon), .int (lat)] S (Pu (f_X0_isAt clon clat lon lat) S) := by
  refine Ct.ofF (by decide +kernel) (Nat.le_of_ble_eq_true rfl) ?_
  refine x_lv [(0, .ref (o)), (1, .int (lon)), (2, .int (lat))] [0, 1, 2] rfl ?_
  refine x_aload_n 0 dX0_isAt_0 rfl ?_
  refine gf_X0_7 rfl dX0_isAt_1 hKo ?_
  rw [show gI (S) 32 (o) = clon from hvclon]
  refine x_iload_n 1 dX0_isAt_4 rfl ?_
  refine x_icmp_ne 20 dX0_isAt_5 (by decide) (fun c1 => ?_) (fun c1 => ?_)
  · refine x_iconst 0 dX0_isAt_20 (by decide) ?_
    exact x_zreturn dX0_isAt_21 rfl (by decide) (Nat.le_of_ble_eq_true rfl) (Nat.le_of_ble_eq_true rfl) ⟨by rw [f_X0_isAt, if_neg c1], rfl⟩
  · refine x_aload_n 0 dX0_isAt_8 rfl ?_
    refine gf_X0_13 rfl dX0_isAt_9 hKo ?_
    rw [show gI (S) 33 (o) = clat from hvclat]
    refine x_iload_n 2 dX0_isAt_12 rfl ?_
    refine x_icmp_ne 20 dX0_isAt_13 (by decide) (fun c2 => ?_) (fun c2 => ?_)
    · refine x_iconst 0 dX0_isAt_20 (by decide) ?_
      exact x_zreturn dX0_isAt_21 rfl (by decide) (Nat.le_of_ble_eq_true rfl) (Nat.le_of_ble_eq_true rfl) ⟨by rw [f_X0_isAt, if_pos c1, if_neg c2], rfl⟩
    · refine x_iconst 1 dX0_isAt_16 (by decide) ?_
      refine x_goto 21 dX0_isAt_17 (by decide) ?_
      exact x_zreturn dX0_isAt_21 rfl (by decide) (Nat.le_of_ble_eq_true rfl) (Nat.le_of_ble_eq_true rfl) ⟨by rw [f_X0_isAt, if_pos c1, if_pos c2], rfl⟩
def f_X5_longitudeAt (lon : Int32) (dr : Int32) (g : Int32) : Int32 := (lon + (dr * g))
set_option maxRecDepth 100000 in
theorem c_X5_longitudeAt {k : KT} {S : HS} {o : Nat}  (lon : Int32) (dr : Int32) (g : Int32) (hKo : gK S o = 7) (hvlon : gI S 192 o = lon) (hvdr : gI S 196 o = dr)  : Ct k (mt_X5_longitudeAt (rm 1 0 0)) [.ref (o), .int (g)] S (Pu (f_X5_longitudeAt lon dr g) S) := by
  refine Ct.ofF (by decide +kernel) (Nat.le_of_ble_eq_true rfl) ?_
  refine x_lv [(0, .ref (o)), (1, .int (g))] [0, 1] rfl ?_
  refine x_aload_n 0 dX5_longitudeAt_0 rfl ?_
  refine gf_X5_15 rfl dX5_longitudeAt_1 hKo ?_
  rw [show gI (S) 192 (o) = lon from hvlon]
  refine x_aload_n 0 dX5_longitudeAt_4 rfl ?_
  refine gf_X5_33 rfl dX5_longitudeAt_5 hKo ?_
  rw [show gI (S) 196 (o) = dr from hvdr]
  refine x_iload_n 1 dX5_longitudeAt_8 rfl ?_
  refine x_imul dX5_longitudeAt_9 ?_
  refine x_iadd dX5_longitudeAt_10 ?_
  exact x_ireturn dX5_longitudeAt_11 rfl (Nat.le_of_ble_eq_true rfl) (Nat.le_of_ble_eq_true rfl) ⟨by rw [f_X5_longitudeAt], rfl⟩
def f_X5_heightAt (ht : Int32) (ri : Int32) (ln : Int32) (g : Int32) : Int32 := (ht + (f_X6_roundBy ((ri * g)) ln))
set_option maxRecDepth 100000 in
theorem c_X5_heightAt {k : KT} {S : HS} {o : Nat}  (ht : Int32) (ri : Int32) (ln : Int32) (g : Int32) (hKo : gK S o = 7) (hvht : gI S 193 o = ht) (hvri : gI S 194 o = ri) (hvln : gI S 195 o = ln)  : Ct k (mt_X5_heightAt (rm 3 0 0)) [.ref (o), .int (g)] S (Pu (f_X5_heightAt ht ri ln g) S) := by
  refine Ct.ofF (by decide +kernel) (Nat.le_of_ble_eq_true rfl) ?_
  refine x_lv [(0, .ref (o)), (1, .int (g))] [0, 1] rfl ?_
  refine x_aload_n 0 dX5_heightAt_0 rfl ?_
  refine gf_X5_21 rfl dX5_heightAt_1 hKo ?_
  rw [show gI (S) 193 (o) = ht from hvht]
  refine x_aload_n 0 dX5_heightAt_4 rfl ?_
  refine gf_X5_24 rfl dX5_heightAt_5 hKo ?_
  rw [show gI (S) 194 (o) = ri from hvri]
  refine x_iload_n 1 dX5_heightAt_8 rfl ?_
  refine x_imul dX5_heightAt_9 ?_
  refine x_aload_n 0 dX5_heightAt_10 rfl ?_
  refine gf_X5_39 rfl dX5_heightAt_11 hKo ?_
  rw [show gI (S) 195 (o) = ln from hvln]
  refine ca_X5_42 [.int ((ri * g)), .int (ln)] [.int (ht)] (c_X6_roundBy ((ri * g)) (ln)) rfl dX5_heightAt_14 rfl rfl ⟨(Nat.le_of_ble_eq_true rfl), (Nat.le_of_ble_eq_true rfl), (Nat.le_of_ble_eq_true rfl), (Nat.le_of_ble_eq_true rfl), (Nat.le_of_ble_eq_true rfl)⟩ (fun v T hq => ?_)
  obtain ⟨rfl, rfl⟩ := hq
  refine x_iadd dX5_heightAt_17 ?_
  exact x_ireturn dX5_heightAt_18 rfl (Nat.le_of_ble_eq_true rfl) (Nat.le_of_ble_eq_true rfl) ⟨by rw [f_X5_heightAt], rfl⟩
def f_X2_allows (wa : Int32) (w : Int32) : Int32 := (if w < 0 then 0 else (if 4 < w then 0 else (if ((wa >>> (w &&& 31)) &&& 1) = 1 then 1 else 0)))
set_option maxRecDepth 100000 in
theorem c_X2_allows {k : KT} {S : HS} {o : Nat}  (wa : Int32) (w : Int32) (hKo : gK S o = 4) (hvwa : gI S 102 o = wa)  : Ct k (mt_X2_allows (rm 1 0 0)) [.ref (o), .int (w)] S (Pu (f_X2_allows wa w) S) := by
  refine Ct.ofF (by decide +kernel) (Nat.le_of_ble_eq_true rfl) ?_
  refine x_lv [(0, .ref (o)), (1, .int (w))] [0, 1] rfl ?_
  refine x_iload_n 1 dX2_allows_0 rfl ?_
  refine x_if_lt 25 dX2_allows_1 (by decide) (fun c1 => ?_) (fun c1 => ?_)
  · refine x_iconst 0 dX2_allows_25 (by decide) ?_
    exact x_zreturn dX2_allows_26 rfl (by decide) (Nat.le_of_ble_eq_true rfl) (Nat.le_of_ble_eq_true rfl) ⟨by rw [f_X2_allows, if_pos c1], rfl⟩
  · refine x_iload_n 1 dX2_allows_4 rfl ?_
    refine x_iconst 4 dX2_allows_5 (by decide) ?_
    refine x_icmp_gt 25 dX2_allows_6 (by decide) (fun c2 => ?_) (fun c2 => ?_)
    · refine x_iconst 0 dX2_allows_25 (by decide) ?_
      exact x_zreturn dX2_allows_26 rfl (by decide) (Nat.le_of_ble_eq_true rfl) (Nat.le_of_ble_eq_true rfl) ⟨by rw [f_X2_allows, if_neg c1, if_pos c2], rfl⟩
    · refine x_aload_n 0 dX2_allows_9 rfl ?_
      refine gf_X2_30 rfl dX2_allows_10 hKo ?_
      rw [show gI (S) 102 (o) = wa from hvwa]
      refine x_iload_n 1 dX2_allows_13 rfl ?_
      refine x_ishr dX2_allows_14 ?_
      refine x_iconst 1 dX2_allows_15 (by decide) ?_
      refine x_iand dX2_allows_16 ?_
      refine x_iconst 1 dX2_allows_17 (by decide) ?_
      refine x_icmp_ne 25 dX2_allows_18 (by decide) (fun c3 => ?_) (fun c3 => ?_)
      · refine x_iconst 0 dX2_allows_25 (by decide) ?_
        exact x_zreturn dX2_allows_26 rfl (by decide) (Nat.le_of_ble_eq_true rfl) (Nat.le_of_ble_eq_true rfl) ⟨by rw [f_X2_allows, if_neg c1, if_neg c2, if_neg c3], rfl⟩
      · refine x_iconst 1 dX2_allows_21 (by decide) ?_
        refine x_goto 26 dX2_allows_22 (by decide) ?_
        exact x_zreturn dX2_allows_26 rfl (by decide) (Nat.le_of_ble_eq_true rfl) (Nat.le_of_ble_eq_true rfl) ⟨by rw [f_X2_allows, if_neg c1, if_neg c2, if_pos c3], rfl⟩
def f_X2_costOf (pr : Int32) (w : Int32) : Int32 := (if w = 4 then pr else w)
set_option maxRecDepth 100000 in
theorem c_X2_costOf {k : KT} {S : HS} {o : Nat}  (pr : Int32) (w : Int32) (hKo : gK S o = 4) (hvpr : gI S 101 o = pr)  : Ct k (mt_X2_costOf (rm 1 0 0)) [.ref (o), .int (w)] S (Pu (f_X2_costOf pr w) S) := by
  refine Ct.ofF (by decide +kernel) (Nat.le_of_ble_eq_true rfl) ?_
  refine x_lv [(0, .ref (o)), (1, .int (w))] [0, 1] rfl ?_
  refine x_iload_n 1 dX2_costOf_0 rfl ?_
  refine x_iconst 4 dX2_costOf_1 (by decide) ?_
  refine x_icmp_ne 12 dX2_costOf_2 (by decide) (fun c1 => ?_) (fun c1 => ?_)
  · refine x_iload_n 1 dX2_costOf_12 rfl ?_
    exact x_ireturn dX2_costOf_13 rfl (Nat.le_of_ble_eq_true rfl) (Nat.le_of_ble_eq_true rfl) ⟨by rw [f_X2_costOf, if_neg c1], rfl⟩
  · refine x_aload_n 0 dX2_costOf_5 rfl ?_
    refine gf_X2_27 rfl dX2_costOf_6 hKo ?_
    rw [show gI (S) 101 (o) = pr from hvpr]
    refine x_goto 13 dX2_costOf_9 (by decide) ?_
    exact x_ireturn dX2_costOf_13 rfl (Nat.le_of_ble_eq_true rfl) (Nat.le_of_ble_eq_true rfl) ⟨by rw [f_X2_costOf, if_pos c1], rfl⟩
def f_X2_left (nx : Int32) (le : Int32) (w : Int32) : Int32 := (if w = 1 then (nx - (40 * le)) else (if w = 3 then (nx - (40 * le)) else nx))
set_option maxRecDepth 100000 in
theorem c_X2_left {k : KT} {S : HS} {o : Nat}  (nx : Int32) (le : Int32) (w : Int32) (hKo : gK S o = 4) (hvnx : gI S 99 o = nx) (hvle : gI S 100 o = le)  : Ct k (mt_X2_left (rm 1 0 0)) [.ref (o), .int (w)] S (Pu (f_X2_left nx le w) S) := by
  refine Ct.ofF (by decide +kernel) (Nat.le_of_ble_eq_true rfl) ?_
  refine x_lv [(0, .ref (o)), (1, .int (w))] [0, 1] rfl ?_
  refine x_iload_n 1 dX2_left_0 rfl ?_
  refine x_iconst 1 dX2_left_1 (by decide) ?_
  refine x_icmp_eq 10 dX2_left_2 (by decide) (fun c1 => ?_) (fun c1 => ?_)
  · refine x_aload_n 0 dX2_left_10 rfl ?_
    refine gf_X2_21 rfl dX2_left_11 hKo ?_
    rw [show gI (S) 99 (o) = nx from hvnx]
    refine x_bipush 40 dX2_left_14 (by decide) ?_
    refine x_aload_n 0 dX2_left_16 rfl ?_
    refine gf_X2_24 rfl dX2_left_17 hKo ?_
    rw [show gI (S) 100 (o) = le from hvle]
    refine x_imul dX2_left_20 ?_
    refine x_isub dX2_left_21 ?_
    refine x_goto 29 dX2_left_22 (by decide) ?_
    exact x_ireturn dX2_left_29 rfl (Nat.le_of_ble_eq_true rfl) (Nat.le_of_ble_eq_true rfl) ⟨by rw [f_X2_left, if_pos c1], rfl⟩
  · refine x_iload_n 1 dX2_left_5 rfl ?_
    refine x_iconst 3 dX2_left_6 (by decide) ?_
    refine x_icmp_ne 25 dX2_left_7 (by decide) (fun c2 => ?_) (fun c2 => ?_)
    · refine x_aload_n 0 dX2_left_25 rfl ?_
      refine gf_X2_21 rfl dX2_left_26 hKo ?_
      rw [show gI (S) 99 (o) = nx from hvnx]
      exact x_ireturn dX2_left_29 rfl (Nat.le_of_ble_eq_true rfl) (Nat.le_of_ble_eq_true rfl) ⟨by rw [f_X2_left, if_neg c1, if_neg c2], rfl⟩
    · refine x_aload_n 0 dX2_left_10 rfl ?_
      refine gf_X2_21 rfl dX2_left_11 hKo ?_
      rw [show gI (S) 99 (o) = nx from hvnx]
      refine x_bipush 40 dX2_left_14 (by decide) ?_
      refine x_aload_n 0 dX2_left_16 rfl ?_
      refine gf_X2_24 rfl dX2_left_17 hKo ?_
      rw [show gI (S) 100 (o) = le from hvle]
      refine x_imul dX2_left_20 ?_
      refine x_isub dX2_left_21 ?_
      refine x_goto 29 dX2_left_22 (by decide) ?_
      exact x_ireturn dX2_left_29 rfl (Nat.le_of_ble_eq_true rfl) (Nat.le_of_ble_eq_true rfl) ⟨by rw [f_X2_left, if_neg c1, if_pos c2], rfl⟩
def f_X2_right (nx : Int32) (le : Int32) (w : Int32) : Int32 := ((f_X2_left nx le w) + (40 * le))
set_option maxRecDepth 100000 in
theorem c_X2_right {k : KT} {S : HS} {o : Nat}  (nx : Int32) (le : Int32) (w : Int32) (hKo : gK S o = 4) (hvnx : gI S 99 o = nx) (hvle : gI S 100 o = le)  : Ct k (mt_X2_right (rm 2 0 0)) [.ref (o), .int (w)] S (Pu (f_X2_right nx le w) S) := by
  refine Ct.ofF (by decide +kernel) (Nat.le_of_ble_eq_true rfl) ?_
  refine x_lv [(0, .ref (o)), (1, .int (w))] [0, 1] rfl ?_
  refine x_aload_n 0 dX2_right_0 rfl ?_
  refine x_iload_n 1 dX2_right_1 rfl ?_
  refine ca_X2_33 [.int (w)] [] (c_X2_left (nx) (le) (w) hKo hvnx hvle) hKo rfl dX2_right_2 rfl rfl ⟨(Nat.le_of_ble_eq_true rfl), (Nat.le_of_ble_eq_true rfl), (Nat.le_of_ble_eq_true rfl), (Nat.le_of_ble_eq_true rfl), (Nat.le_of_ble_eq_true rfl)⟩ (fun v T hq => ?_)
  obtain ⟨rfl, rfl⟩ := hq
  refine x_bipush 40 dX2_right_5 (by decide) ?_
  refine x_aload_n 0 dX2_right_7 rfl ?_
  refine gf_X2_24 rfl dX2_right_8 hKo ?_
  rw [show gI (S) 100 (o) = le from hvle]
  refine x_imul dX2_right_11 ?_
  refine x_iadd dX2_right_12 ?_
  exact x_ireturn dX2_right_13 rfl (Nat.le_of_ble_eq_true rfl) (Nat.le_of_ble_eq_true rfl) ⟨by rw [f_X2_right], rfl⟩
def f_X2_bottom (nh : Int32) (w : Int32) : Int32 := (if w = 2 then (nh - 80) else (if w = 3 then (nh - 80) else nh))
set_option maxRecDepth 100000 in
theorem c_X2_bottom {k : KT} {S : HS} {o : Nat}  (nh : Int32) (w : Int32) (hKo : gK S o = 4) (hvnh : gI S 98 o = nh)  : Ct k (mt_X2_bottom (rm 1 0 0)) [.ref (o), .int (w)] S (Pu (f_X2_bottom nh w) S) := by
  refine Ct.ofF (by decide +kernel) (Nat.le_of_ble_eq_true rfl) ?_
  refine x_lv [(0, .ref (o)), (1, .int (w))] [0, 1] rfl ?_
  refine x_iload_n 1 dX2_bottom_0 rfl ?_
  refine x_iconst 2 dX2_bottom_1 (by decide) ?_
  refine x_icmp_eq 10 dX2_bottom_2 (by decide) (fun c1 => ?_) (fun c1 => ?_)
  · refine x_aload_n 0 dX2_bottom_10 rfl ?_
    refine gf_X2_18 rfl dX2_bottom_11 hKo ?_
    rw [show gI (S) 98 (o) = nh from hvnh]
    refine x_bipush 80 dX2_bottom_14 (by decide) ?_
    refine x_isub dX2_bottom_16 ?_
    refine x_goto 24 dX2_bottom_17 (by decide) ?_
    exact x_ireturn dX2_bottom_24 rfl (Nat.le_of_ble_eq_true rfl) (Nat.le_of_ble_eq_true rfl) ⟨by rw [f_X2_bottom, if_pos c1], rfl⟩
  · refine x_iload_n 1 dX2_bottom_5 rfl ?_
    refine x_iconst 3 dX2_bottom_6 (by decide) ?_
    refine x_icmp_ne 20 dX2_bottom_7 (by decide) (fun c2 => ?_) (fun c2 => ?_)
    · refine x_aload_n 0 dX2_bottom_20 rfl ?_
      refine gf_X2_18 rfl dX2_bottom_21 hKo ?_
      rw [show gI (S) 98 (o) = nh from hvnh]
      exact x_ireturn dX2_bottom_24 rfl (Nat.le_of_ble_eq_true rfl) (Nat.le_of_ble_eq_true rfl) ⟨by rw [f_X2_bottom, if_neg c1, if_neg c2], rfl⟩
    · refine x_aload_n 0 dX2_bottom_10 rfl ?_
      refine gf_X2_18 rfl dX2_bottom_11 hKo ?_
      rw [show gI (S) 98 (o) = nh from hvnh]
      refine x_bipush 80 dX2_bottom_14 (by decide) ?_
      refine x_isub dX2_bottom_16 ?_
      refine x_goto 24 dX2_bottom_17 (by decide) ?_
      exact x_ireturn dX2_bottom_24 rfl (Nat.le_of_ble_eq_true rfl) (Nat.le_of_ble_eq_true rfl) ⟨by rw [f_X2_bottom, if_neg c1, if_pos c2], rfl⟩
def f_X2_covers (nh : Int32) (nx : Int32) (le : Int32) (nh2 : Int32) (nx2 : Int32) (le2 : Int32) (w : Int32) (w2 : Int32) : Int32 := (if w = 4 then 0 else (if w2 = 4 then 0 else (if (f_X2_right nx2 le2 w2) ≤ (f_X2_left nx le w) then 0 else (if (f_X2_right nx le w) ≤ (f_X2_left nx2 le2 w2) then 0 else (if 80 ≤ (if 0 ≤ ((f_X2_bottom nh w) - (f_X2_bottom nh2 w2)) then ((f_X2_bottom nh w) - (f_X2_bottom nh2 w2)) else 0 - ((f_X2_bottom nh w) - (f_X2_bottom nh2 w2))) then 0 else 1)))))
set_option maxRecDepth 100000 in
theorem c_X2_covers {k : KT} {S : HS} {o : Nat} {q : Nat}  (nh : Int32) (nx : Int32) (le : Int32) (nh2 : Int32) (nx2 : Int32) (le2 : Int32) (w : Int32) (w2 : Int32) (hKo : gK S o = 4) (hvnh : gI S 98 o = nh) (hvnx : gI S 99 o = nx) (hvle : gI S 100 o = le) (hKq : gK S q = 4) (hvnh2 : gI S 98 q = nh2) (hvnx2 : gI S 99 q = nx2) (hvle2 : gI S 100 q = le2)  : Ct k (mt_X2_covers (rm 3 0 0)) [.ref (o), .int (w), .ref (q), .int (w2)] S (Pu (f_X2_covers nh nx le nh2 nx2 le2 w w2) S) := by
  refine Ct.ofF (by decide +kernel) (Nat.le_of_ble_eq_true rfl) ?_
  refine x_lv [(0, .ref (o)), (1, .int (w)), (2, .ref (q)), (3, .int (w2))] [0, 1, 2, 3] rfl ?_
  refine x_iload_n 1 dX2_covers_0 rfl ?_
  refine x_iconst 4 dX2_covers_1 (by decide) ?_
  refine x_icmp_eq 10 dX2_covers_2 (by decide) (fun c1 => ?_) (fun c1 => ?_)
  · refine x_iconst 0 dX2_covers_10 (by decide) ?_
    exact x_zreturn dX2_covers_11 rfl (by decide) (Nat.le_of_ble_eq_true rfl) (Nat.le_of_ble_eq_true rfl) ⟨by rw [f_X2_covers, if_pos c1], rfl⟩
  · refine x_iload_n 3 dX2_covers_5 rfl ?_
    refine x_iconst 4 dX2_covers_6 (by decide) ?_
    refine x_icmp_ne 12 dX2_covers_7 (by decide) (fun c2 => ?_) (fun c2 => ?_)
    · refine x_aload_n 0 dX2_covers_12 rfl ?_
      refine x_iload_n 1 dX2_covers_13 rfl ?_
      refine ca_X2_33 [.int (w)] [] (c_X2_left (nx) (le) (w) hKo hvnx hvle) hKo rfl dX2_covers_14 rfl rfl ⟨(Nat.le_of_ble_eq_true rfl), (Nat.le_of_ble_eq_true rfl), (Nat.le_of_ble_eq_true rfl), (Nat.le_of_ble_eq_true rfl), (Nat.le_of_ble_eq_true rfl)⟩ (fun v T hq => ?_)
      obtain ⟨rfl, rfl⟩ := hq
      refine x_aload_n 2 dX2_covers_17 rfl ?_
      refine x_iload_n 3 dX2_covers_18 rfl ?_
      refine ca_X2_37 [.int (w2)] [.int ((f_X2_left nx le w))] (c_X2_right (nx2) (le2) (w2) hKq hvnx2 hvle2) hKq rfl dX2_covers_19 rfl rfl ⟨(Nat.le_of_ble_eq_true rfl), (Nat.le_of_ble_eq_true rfl), (Nat.le_of_ble_eq_true rfl), (Nat.le_of_ble_eq_true rfl), (Nat.le_of_ble_eq_true rfl)⟩ (fun v T hq => ?_)
      obtain ⟨rfl, rfl⟩ := hq
      refine x_icmp_ge 61 dX2_covers_22 (by decide) (fun c3 => ?_) (fun c3 => ?_)
      · refine x_iconst 0 dX2_covers_61 (by decide) ?_
        exact x_zreturn dX2_covers_62 rfl (by decide) (Nat.le_of_ble_eq_true rfl) (Nat.le_of_ble_eq_true rfl) ⟨by rw [f_X2_covers, if_neg c1, if_neg c2, if_pos c3], rfl⟩
      · refine x_aload_n 2 dX2_covers_25 rfl ?_
        refine x_iload_n 3 dX2_covers_26 rfl ?_
        refine ca_X2_33 [.int (w2)] [] (c_X2_left (nx2) (le2) (w2) hKq hvnx2 hvle2) hKq rfl dX2_covers_27 rfl rfl ⟨(Nat.le_of_ble_eq_true rfl), (Nat.le_of_ble_eq_true rfl), (Nat.le_of_ble_eq_true rfl), (Nat.le_of_ble_eq_true rfl), (Nat.le_of_ble_eq_true rfl)⟩ (fun v T hq => ?_)
        obtain ⟨rfl, rfl⟩ := hq
        refine x_aload_n 0 dX2_covers_30 rfl ?_
        refine x_iload_n 1 dX2_covers_31 rfl ?_
        refine ca_X2_37 [.int (w)] [.int ((f_X2_left nx2 le2 w2))] (c_X2_right (nx) (le) (w) hKo hvnx hvle) hKo rfl dX2_covers_32 rfl rfl ⟨(Nat.le_of_ble_eq_true rfl), (Nat.le_of_ble_eq_true rfl), (Nat.le_of_ble_eq_true rfl), (Nat.le_of_ble_eq_true rfl), (Nat.le_of_ble_eq_true rfl)⟩ (fun v T hq => ?_)
        obtain ⟨rfl, rfl⟩ := hq
        refine x_icmp_ge 61 dX2_covers_35 (by decide) (fun c4 => ?_) (fun c4 => ?_)
        · refine x_iconst 0 dX2_covers_61 (by decide) ?_
          exact x_zreturn dX2_covers_62 rfl (by decide) (Nat.le_of_ble_eq_true rfl) (Nat.le_of_ble_eq_true rfl) ⟨by rw [f_X2_covers, if_neg c1, if_neg c2, if_neg c3, if_pos c4], rfl⟩
        · refine x_aload_n 0 dX2_covers_38 rfl ?_
          refine x_iload_n 1 dX2_covers_39 rfl ?_
          refine ca_X2_40 [.int (w)] [] (c_X2_bottom (nh) (w) hKo hvnh) hKo rfl dX2_covers_40 rfl rfl ⟨(Nat.le_of_ble_eq_true rfl), (Nat.le_of_ble_eq_true rfl), (Nat.le_of_ble_eq_true rfl), (Nat.le_of_ble_eq_true rfl), (Nat.le_of_ble_eq_true rfl)⟩ (fun v T hq => ?_)
          obtain ⟨rfl, rfl⟩ := hq
          refine x_aload_n 2 dX2_covers_43 rfl ?_
          refine x_iload_n 3 dX2_covers_44 rfl ?_
          refine ca_X2_40 [.int (w2)] [.int ((f_X2_bottom nh w))] (c_X2_bottom (nh2) (w2) hKq hvnh2) hKq rfl dX2_covers_45 rfl rfl ⟨(Nat.le_of_ble_eq_true rfl), (Nat.le_of_ble_eq_true rfl), (Nat.le_of_ble_eq_true rfl), (Nat.le_of_ble_eq_true rfl), (Nat.le_of_ble_eq_true rfl)⟩ (fun v T hq => ?_)
          obtain ⟨rfl, rfl⟩ := hq
          refine x_isub dX2_covers_48 ?_
          refine ca_X2_43 rfl dX2_covers_49 (Nat.le_of_ble_eq_true rfl) (Nat.le_of_ble_eq_true rfl) (Nat.le_of_ble_eq_true rfl) (Nat.le_of_ble_eq_true rfl) ?_
          refine x_bipush 80 dX2_covers_52 (by decide) ?_
          refine x_at 54 rfl ?_
          refine x_icmp_ge 61 dX2_covers_54 (by decide) (fun c5 => ?_) (fun c5 => ?_)
          · refine x_iconst 0 dX2_covers_61 (by decide) ?_
            exact x_zreturn dX2_covers_62 rfl (by decide) (Nat.le_of_ble_eq_true rfl) (Nat.le_of_ble_eq_true rfl) ⟨by rw [f_X2_covers, if_neg c1, if_neg c2, if_neg c3, if_neg c4, if_pos c5], rfl⟩
          · refine x_iconst 1 dX2_covers_57 (by decide) ?_
            refine x_goto 62 dX2_covers_58 (by decide) ?_
            exact x_zreturn dX2_covers_62 rfl (by decide) (Nat.le_of_ble_eq_true rfl) (Nat.le_of_ble_eq_true rfl) ⟨by rw [f_X2_covers, if_neg c1, if_neg c2, if_neg c3, if_neg c4, if_neg c5], rfl⟩
    · refine x_iconst 0 dX2_covers_10 (by decide) ?_
      exact x_zreturn dX2_covers_11 rfl (by decide) (Nat.le_of_ble_eq_true rfl) (Nat.le_of_ble_eq_true rfl) ⟨by rw [f_X2_covers, if_neg c1, if_pos c2], rfl⟩
def f_X6_isWithinEdges (wd : Int32) (nx : Int32) (le : Int32) (w : Int32) (h : Int32) : Int32 := (if (f_X6_isHeight h) = 0 then 0 else (if (f_X2_left nx le w) < (-(f_X6_xOf wd h)) then 0 else (if (f_X6_xOf wd h) < (f_X2_right nx le w) then 0 else 1)))
set_option maxRecDepth 100000 in
theorem c_X6_isWithinEdges {k : KT} {S : HS} {o : Nat} {q : Nat}  (wd : Int32) (nx : Int32) (le : Int32) (w : Int32) (h : Int32) (hKo : gK S o = 8) (hvwd : gI S 224 o = wd) (hKq : gK S q = 4) (hvnx : gI S 99 q = nx) (hvle : gI S 100 q = le)  : Ct k (mt_X6_isWithinEdges (rm 4 0 0)) [.ref (o), .ref (q), .int (w), .int (h)] S (Pu (f_X6_isWithinEdges wd nx le w h) S) := by
  refine Ct.ofF (by decide +kernel) (Nat.le_of_ble_eq_true rfl) ?_
  refine x_lv [(0, .ref (o)), (1, .ref (q)), (2, .int (w)), (3, .int (h))] [0, 1, 2, 3] rfl ?_
  refine x_iload_n 3 dX6_isWithinEdges_0 rfl ?_
  refine ca_X6_41 [.int (h)] [] (c_X6_isHeight (h)) rfl dX6_isWithinEdges_1 rfl rfl ⟨(Nat.le_of_ble_eq_true rfl), (Nat.le_of_ble_eq_true rfl), (Nat.le_of_ble_eq_true rfl), (Nat.le_of_ble_eq_true rfl), (Nat.le_of_ble_eq_true rfl)⟩ (fun v T hq => ?_)
  obtain ⟨rfl, rfl⟩ := hq
  refine x_if_ne 9 dX6_isWithinEdges_4 (by decide) (fun c1 => ?_) (fun c1 => ?_)
  · refine x_aload_n 0 dX6_isWithinEdges_9 rfl ?_
    refine gf_X6_30 rfl dX6_isWithinEdges_10 hKo ?_
    rw [show gI (S) 224 (o) = wd from hvwd]
    refine x_iload_n 3 dX6_isWithinEdges_13 rfl ?_
    refine ca_X6_48 [.int (wd), .int (h)] [] (c_X6_xOf (wd) (h)) rfl dX6_isWithinEdges_14 rfl rfl ⟨(Nat.le_of_ble_eq_true rfl), (Nat.le_of_ble_eq_true rfl), (Nat.le_of_ble_eq_true rfl), (Nat.le_of_ble_eq_true rfl), (Nat.le_of_ble_eq_true rfl)⟩ (fun v T hq => ?_)
    obtain ⟨rfl, rfl⟩ := hq
    refine x_istore [(4, .int ((f_X6_xOf wd h))), (0, .ref (o)), (1, .ref (q)), (2, .int (w)), (3, .int (h))] dX6_isWithinEdges_17 (Nat.le_of_ble_eq_true rfl) rfl ?_
    refine x_aload_n 2 dX6_isWithinEdges_19 rfl ?_
    refine x_iload_n 3 dX6_isWithinEdges_20 rfl ?_
    refine ca_X6_284 [.int (w)] [] (c_X2_left (nx) (le) (w) hKq hvnx hvle) hKq rfl dX6_isWithinEdges_21 rfl rfl ⟨(Nat.le_of_ble_eq_true rfl), (Nat.le_of_ble_eq_true rfl), (Nat.le_of_ble_eq_true rfl), (Nat.le_of_ble_eq_true rfl), (Nat.le_of_ble_eq_true rfl)⟩ (fun v T hq => ?_)
    obtain ⟨rfl, rfl⟩ := hq
    refine x_iload 0 dX6_isWithinEdges_24 rfl ?_
    refine x_ineg dX6_isWithinEdges_26 ?_
    refine x_icmp_lt 44 dX6_isWithinEdges_27 (by decide) (fun c2 => ?_) (fun c2 => ?_)
    · refine x_iconst 0 dX6_isWithinEdges_44 (by decide) ?_
      exact x_zreturn dX6_isWithinEdges_45 rfl (by decide) (Nat.le_of_ble_eq_true rfl) (Nat.le_of_ble_eq_true rfl) ⟨by rw [f_X6_isWithinEdges, if_neg c1, if_pos c2], rfl⟩
    · refine x_aload_n 2 dX6_isWithinEdges_30 rfl ?_
      refine x_iload_n 3 dX6_isWithinEdges_31 rfl ?_
      refine ca_X6_287 [.int (w)] [] (c_X2_right (nx) (le) (w) hKq hvnx hvle) hKq rfl dX6_isWithinEdges_32 rfl rfl ⟨(Nat.le_of_ble_eq_true rfl), (Nat.le_of_ble_eq_true rfl), (Nat.le_of_ble_eq_true rfl), (Nat.le_of_ble_eq_true rfl), (Nat.le_of_ble_eq_true rfl)⟩ (fun v T hq => ?_)
      obtain ⟨rfl, rfl⟩ := hq
      refine x_iload 0 dX6_isWithinEdges_35 rfl ?_
      refine x_icmp_gt 44 dX6_isWithinEdges_37 (by decide) (fun c3 => ?_) (fun c3 => ?_)
      · refine x_iconst 0 dX6_isWithinEdges_44 (by decide) ?_
        exact x_zreturn dX6_isWithinEdges_45 rfl (by decide) (Nat.le_of_ble_eq_true rfl) (Nat.le_of_ble_eq_true rfl) ⟨by rw [f_X6_isWithinEdges, if_neg c1, if_neg c2, if_pos c3], rfl⟩
      · refine x_iconst 1 dX6_isWithinEdges_40 (by decide) ?_
        refine x_goto 45 dX6_isWithinEdges_41 (by decide) ?_
        exact x_zreturn dX6_isWithinEdges_45 rfl (by decide) (Nat.le_of_ble_eq_true rfl) (Nat.le_of_ble_eq_true rfl) ⟨by rw [f_X6_isWithinEdges, if_neg c1, if_neg c2, if_neg c3], rfl⟩
  · refine x_iconst 0 dX6_isWithinEdges_7 (by decide) ?_
    exact x_zreturn dX6_isWithinEdges_8 rfl (by decide) (Nat.le_of_ble_eq_true rfl) (Nat.le_of_ble_eq_true rfl) ⟨by rw [f_X6_isWithinEdges, if_pos c1], rfl⟩
def f_X7_round (p : Int32) (q : Int32) : Int32 := (if 0 ≤ (((2 * p) + q) - ((2 * p) + q) / (2 * q) * (2 * q)) then (((2 * p) + q) / (2 * q)) else ((((2 * p) + q) / (2 * q)) - 1))
set_option maxRecDepth 100000 in
theorem c_X7_round {k : KT} {S : HS}  (p : Int32) (q : Int32) (h0 : ¬ 2 * q = 0) : Ct k (mt_X7_round (rm 1 0 0)) [.int (p), .int (q)] S (Pu (f_X7_round p q) S) := by
  refine Ct.ofF (by decide +kernel) (Nat.le_of_ble_eq_true rfl) ?_
  refine x_lv [(0, .int (p)), (1, .int (q))] [0, 1] rfl ?_
  refine x_iconst 2 dX7_round_0 (by decide) ?_
  refine x_iload_n 0 dX7_round_1 rfl ?_
  refine x_imul dX7_round_2 ?_
  refine x_iload_n 1 dX7_round_3 rfl ?_
  refine x_iadd dX7_round_4 ?_
  refine x_istore_n [(2, .int (((2 * p) + q))), (0, .int (p)), (1, .int (q))] dX7_round_5 (Nat.le_of_ble_eq_true rfl) rfl ?_
  refine x_iconst 2 dX7_round_6 (by decide) ?_
  refine x_iload_n 2 dX7_round_7 rfl ?_
  refine x_imul dX7_round_8 ?_
  refine x_istore_n [(3, .int ((2 * q))), (2, .int (((2 * p) + q))), (0, .int (p)), (1, .int (q))] dX7_round_9 (Nat.le_of_ble_eq_true rfl) rfl ?_
  refine x_iload_n 1 dX7_round_10 rfl ?_
  refine x_at 11 rfl ?_
  refine x_iload_n 0 dX7_round_11 rfl ?_
  refine x_idiv dX7_round_12 h0 ?_
  refine x_istore [(4, .int ((((2 * p) + q) / (2 * q)))), (3, .int ((2 * q))), (2, .int (((2 * p) + q))), (0, .int (p)), (1, .int (q))] dX7_round_13 (Nat.le_of_ble_eq_true rfl) rfl ?_
  refine x_iload_n 2 dX7_round_15 rfl ?_
  refine x_iload_n 1 dX7_round_16 rfl ?_
  refine x_irem dX7_round_17 h0 ?_
  refine x_if_ge 28 dX7_round_18 (by decide) (fun c1 => ?_) (fun c1 => ?_)
  · refine x_iload 0 dX7_round_28 rfl ?_
    exact x_ireturn dX7_round_30 rfl (Nat.le_of_ble_eq_true rfl) (Nat.le_of_ble_eq_true rfl) ⟨by rw [f_X7_round, if_pos c1], rfl⟩
  · refine x_iload 0 dX7_round_21 rfl ?_
    refine x_iconst 1 dX7_round_23 (by decide) ?_
    refine x_isub dX7_round_24 ?_
    refine x_goto 30 dX7_round_25 (by decide) ?_
    exact x_ireturn dX7_round_30 rfl (Nat.le_of_ble_eq_true rfl) (Nat.le_of_ble_eq_true rfl) ⟨by rw [f_X7_round, if_neg c1], rfl⟩
end
