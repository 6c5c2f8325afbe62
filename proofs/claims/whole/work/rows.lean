section
-- ===== PART A: goes FIRST, ahead of the names: the tables' words, and 'selects' of the private methods out of them =====
/-- a private method of a class that the tables say can be made, by its rows of tables_1 -/
def lw_okq (q : MethodName × Nat) : Prop := (q.1.cls ≠ "java/lang/invoke/MethodHandle" ∧ q.1.cls ≠ "java/lang/invoke/VarHandle") ∧ Cond.instantiable q.1.cls q.2 ∈ tables_1 ∧ Cond.privateMethod q.1 ∈ tables_1 ∧ Cond.instanceMethod q.1 ∈ tables_1
theorem lw_p0 : lw_okq (⟨"SmallWorlds", "pageChanged", "()V"⟩, 8) := ⟨⟨by decide +kernel, by decide +kernel⟩, List.mem_of_getElem? (i := 16) (by decide +kernel), List.mem_of_getElem? (i := 309) (by decide +kernel), List.mem_of_getElem? (i := 310) (by decide +kernel)⟩
theorem lw_p1 : lw_okq (⟨"SmallWorlds", "settle", "()V"⟩, 8) := ⟨⟨by decide +kernel, by decide +kernel⟩, List.mem_of_getElem? (i := 16) (by decide +kernel), List.mem_of_getElem? (i := 335) (by decide +kernel), List.mem_of_getElem? (i := 336) (by decide +kernel)⟩
theorem lw_p2 : lw_okq (⟨"SmallWorlds$Catalog", "fill", "()V"⟩, 8) := ⟨⟨by decide +kernel, by decide +kernel⟩, List.mem_of_getElem? (i := 94) (by decide +kernel), List.mem_of_getElem? (i := 343) (by decide +kernel), List.mem_of_getElem? (i := 344) (by decide +kernel)⟩
theorem lw_p3 : lw_okq (⟨"SmallWorlds$Table", "compareRenamed", "(I)I"⟩, 3) := ⟨⟨by decide +kernel, by decide +kernel⟩, List.mem_of_getElem? (i := 78) (by decide +kernel), List.mem_of_getElem? (i := 360) (by decide +kernel), List.mem_of_getElem? (i := 361) (by decide +kernel)⟩
theorem lw_p4 : lw_okq (⟨"SmallWorlds$Table", "renamedCell", "(III)I"⟩, 3) := ⟨⟨by decide +kernel, by decide +kernel⟩, List.mem_of_getElem? (i := 78) (by decide +kernel), List.mem_of_getElem? (i := 364) (by decide +kernel), List.mem_of_getElem? (i := 365) (by decide +kernel)⟩
theorem lw_p5 : lw_okq (⟨"SmallWorlds$Catalog", "tryLaws", "(LSmallWorlds$Terms;LSmallWorlds$Page;I)V"⟩, 8) := ⟨⟨by decide +kernel, by decide +kernel⟩, List.mem_of_getElem? (i := 94) (by decide +kernel), List.mem_of_getElem? (i := 382) (by decide +kernel), List.mem_of_getElem? (i := 383) (by decide +kernel)⟩
theorem lw_p6 : lw_okq (⟨"SmallWorlds$Table", "thingsFor", "(II)I"⟩, 3) := ⟨⟨by decide +kernel, by decide +kernel⟩, List.mem_of_getElem? (i := 78) (by decide +kernel), List.mem_of_getElem? (i := 390) (by decide +kernel), List.mem_of_getElem? (i := 391) (by decide +kernel)⟩
theorem lw_p7 : lw_okq (⟨"SmallWorlds$Table", "alikeForZ", "(LSmallWorlds$Terms;IIIII)Z"⟩, 3) := ⟨⟨by decide +kernel, by decide +kernel⟩, List.mem_of_getElem? (i := 78) (by decide +kernel), List.mem_of_getElem? (i := 394) (by decide +kernel), List.mem_of_getElem? (i := 395) (by decide +kernel)⟩
theorem lw_p8 : lw_okq (⟨"SmallWorlds$Rows", "fillList", "(I)V"⟩, 14) := ⟨⟨by decide +kernel, by decide +kernel⟩, List.mem_of_getElem? (i := 171) (by decide +kernel), List.mem_of_getElem? (i := 406) (by decide +kernel), List.mem_of_getElem? (i := 407) (by decide +kernel)⟩
theorem lw_p9 : lw_okq (⟨"SmallWorlds$Rows", "see", "(II)V"⟩, 14) := ⟨⟨by decide +kernel, by decide +kernel⟩, List.mem_of_getElem? (i := 171) (by decide +kernel), List.mem_of_getElem? (i := 415) (by decide +kernel), List.mem_of_getElem? (i := 416) (by decide +kernel)⟩
theorem lw_p10 : lw_okq (⟨"SmallWorlds$Rows", "workedOut", "(II)I"⟩, 14) := ⟨⟨by decide +kernel, by decide +kernel⟩, List.mem_of_getElem? (i := 171) (by decide +kernel), List.mem_of_getElem? (i := 419) (by decide +kernel), List.mem_of_getElem? (i := 420) (by decide +kernel)⟩
theorem lw_p11 : lw_okq (⟨"SmallWorlds$Rows", "seenBits", "(II)I"⟩, 14) := ⟨⟨by decide +kernel, by decide +kernel⟩, List.mem_of_getElem? (i := 171) (by decide +kernel), List.mem_of_getElem? (i := 428) (by decide +kernel), List.mem_of_getElem? (i := 429) (by decide +kernel)⟩
theorem lw_p12 : lw_okq (⟨"SmallWorlds", "firstBroken", "(II)I"⟩, 8) := ⟨⟨by decide +kernel, by decide +kernel⟩, List.mem_of_getElem? (i := 16) (by decide +kernel), List.mem_of_getElem? (i := 465) (by decide +kernel), List.mem_of_getElem? (i := 466) (by decide +kernel)⟩
theorem lw_p13 : lw_okq (⟨"SmallWorlds$Table", "renamedNumber", "(I)I"⟩, 3) := ⟨⟨by decide +kernel, by decide +kernel⟩, List.mem_of_getElem? (i := 78) (by decide +kernel), List.mem_of_getElem? (i := 483) (by decide +kernel), List.mem_of_getElem? (i := 484) (by decide +kernel)⟩
theorem lw_p14 : lw_okq (⟨"SmallWorlds", "isMadeOf", "(II)Z"⟩, 8) := ⟨⟨by decide +kernel, by decide +kernel⟩, List.mem_of_getElem? (i := 16) (by decide +kernel), List.mem_of_getElem? (i := 508) (by decide +kernel), List.mem_of_getElem? (i := 509) (by decide +kernel)⟩
theorem lw_p15 : lw_okq (⟨"SmallWorlds$Notions", "addPart", "(II)V"⟩, 7) := ⟨⟨by decide +kernel, by decide +kernel⟩, List.mem_of_getElem? (i := 133) (by decide +kernel), List.mem_of_getElem? (i := 520) (by decide +kernel), List.mem_of_getElem? (i := 521) (by decide +kernel)⟩
def lw_privs_1 : List (MethodName × Nat) := [(⟨"SmallWorlds", "pageChanged", "()V"⟩, 8), (⟨"SmallWorlds", "settle", "()V"⟩, 8), (⟨"SmallWorlds$Catalog", "fill", "()V"⟩, 8), (⟨"SmallWorlds$Table", "compareRenamed", "(I)I"⟩, 3), (⟨"SmallWorlds$Table", "renamedCell", "(III)I"⟩, 3), (⟨"SmallWorlds$Catalog", "tryLaws", "(LSmallWorlds$Terms;LSmallWorlds$Page;I)V"⟩, 8), (⟨"SmallWorlds$Table", "thingsFor", "(II)I"⟩, 3), (⟨"SmallWorlds$Table", "alikeForZ", "(LSmallWorlds$Terms;IIIII)Z"⟩, 3), (⟨"SmallWorlds$Rows", "fillList", "(I)V"⟩, 14), (⟨"SmallWorlds$Rows", "see", "(II)V"⟩, 14), (⟨"SmallWorlds$Rows", "workedOut", "(II)I"⟩, 14), (⟨"SmallWorlds$Rows", "seenBits", "(II)I"⟩, 14), (⟨"SmallWorlds", "firstBroken", "(II)I"⟩, 8), (⟨"SmallWorlds$Table", "renamedNumber", "(I)I"⟩, 3), (⟨"SmallWorlds", "isMadeOf", "(II)Z"⟩, 8), (⟨"SmallWorlds$Notions", "addPart", "(II)V"⟩, 7)]
theorem lw_r1 : ∀ q ∈ lw_privs_1, lw_okq q := List.forall_mem_cons.mpr ⟨lw_p0, List.forall_mem_cons.mpr ⟨lw_p1, List.forall_mem_cons.mpr ⟨lw_p2, List.forall_mem_cons.mpr ⟨lw_p3, List.forall_mem_cons.mpr ⟨lw_p4, List.forall_mem_cons.mpr ⟨lw_p5, List.forall_mem_cons.mpr ⟨lw_p6, List.forall_mem_cons.mpr ⟨lw_p7, List.forall_mem_cons.mpr ⟨lw_p8, List.forall_mem_cons.mpr ⟨lw_p9, List.forall_mem_cons.mpr ⟨lw_p10, List.forall_mem_cons.mpr ⟨lw_p11, List.forall_mem_cons.mpr ⟨lw_p12, List.forall_mem_cons.mpr ⟨lw_p13, List.forall_mem_cons.mpr ⟨lw_p14, List.forall_mem_cons.mpr ⟨lw_p15, fun _ h => absurd h List.not_mem_nil⟩⟩⟩⟩⟩⟩⟩⟩⟩⟩⟩⟩⟩⟩⟩⟩
theorem lw_p16 : lw_okq (⟨"SmallWorlds$Rows", "seeAll", "(II)V"⟩, 14) := ⟨⟨by decide +kernel, by decide +kernel⟩, List.mem_of_getElem? (i := 171) (by decide +kernel), List.mem_of_getElem? (i := 587) (by decide +kernel), List.mem_of_getElem? (i := 588) (by decide +kernel)⟩
theorem lw_p17 : lw_okq (⟨"SmallWorlds$Rows", "within", "(II)Z"⟩, 14) := ⟨⟨by decide +kernel, by decide +kernel⟩, List.mem_of_getElem? (i := 171) (by decide +kernel), List.mem_of_getElem? (i := 614) (by decide +kernel), List.mem_of_getElem? (i := 615) (by decide +kernel)⟩
theorem lw_p18 : lw_okq (⟨"SmallWorlds", "worthOf", "(I)I"⟩, 8) := ⟨⟨by decide +kernel, by decide +kernel⟩, List.mem_of_getElem? (i := 16) (by decide +kernel), List.mem_of_getElem? (i := 618) (by decide +kernel), List.mem_of_getElem? (i := 619) (by decide +kernel)⟩
theorem lw_p19 : lw_okq (⟨"SmallWorlds$Rows", "mightBeMade", "(III)Z"⟩, 14) := ⟨⟨by decide +kernel, by decide +kernel⟩, List.mem_of_getElem? (i := 171) (by decide +kernel), List.mem_of_getElem? (i := 634) (by decide +kernel), List.mem_of_getElem? (i := 635) (by decide +kernel)⟩
theorem lw_p20 : lw_okq (⟨"SmallWorlds$Rows", "tryNext", "(III)V"⟩, 14) := ⟨⟨by decide +kernel, by decide +kernel⟩, List.mem_of_getElem? (i := 171) (by decide +kernel), List.mem_of_getElem? (i := 638) (by decide +kernel), List.mem_of_getElem? (i := 639) (by decide +kernel)⟩
theorem lw_p21 : lw_okq (⟨"SmallWorlds$Rows", "isCandidateNew", "()Z"⟩, 14) := ⟨⟨by decide +kernel, by decide +kernel⟩, List.mem_of_getElem? (i := 171) (by decide +kernel), List.mem_of_getElem? (i := 644) (by decide +kernel), List.mem_of_getElem? (i := 645) (by decide +kernel)⟩
theorem lw_p22 : lw_okq (⟨"SmallWorlds$Rows", "isCandidate", "(I)Z"⟩, 14) := ⟨⟨by decide +kernel, by decide +kernel⟩, List.mem_of_getElem? (i := 171) (by decide +kernel), List.mem_of_getElem? (i := 648) (by decide +kernel), List.mem_of_getElem? (i := 649) (by decide +kernel)⟩
theorem lw_p23 : lw_okq (⟨"SmallWorlds$Catalog", "learnTurns", "()V"⟩, 8) := ⟨⟨by decide +kernel, by decide +kernel⟩, List.mem_of_getElem? (i := 94) (by decide +kernel), List.mem_of_getElem? (i := 676) (by decide +kernel), List.mem_of_getElem? (i := 677) (by decide +kernel)⟩
theorem lw_p24 : lw_okq (⟨"SmallWorlds$Catalog", "entryOf", "(II)I"⟩, 8) := ⟨⟨by decide +kernel, by decide +kernel⟩, List.mem_of_getElem? (i := 94) (by decide +kernel), List.mem_of_getElem? (i := 685) (by decide +kernel), List.mem_of_getElem? (i := 686) (by decide +kernel)⟩
theorem lw_p25 : lw_okq (⟨"SmallWorlds$Rounds", "begin", "(I)V"⟩, 6) := ⟨⟨by decide +kernel, by decide +kernel⟩, List.mem_of_getElem? (i := 224) (by decide +kernel), List.mem_of_getElem? (i := 716) (by decide +kernel), List.mem_of_getElem? (i := 717) (by decide +kernel)⟩
theorem lw_p26 : lw_okq (⟨"SmallWorlds$Rounds", "joinByLaws", "(LSmallWorlds$Terms;LSmallWorlds$Page;)V"⟩, 6) := ⟨⟨by decide +kernel, by decide +kernel⟩, List.mem_of_getElem? (i := 224) (by decide +kernel), List.mem_of_getElem? (i := 724) (by decide +kernel), List.mem_of_getElem? (i := 725) (by decide +kernel)⟩
theorem lw_p27 : lw_okq (⟨"SmallWorlds$Rounds", "isMadeByLaw", "(LSmallWorlds$Terms;IIII)Z"⟩, 6) := ⟨⟨by decide +kernel, by decide +kernel⟩, List.mem_of_getElem? (i := 224) (by decide +kernel), List.mem_of_getElem? (i := 728) (by decide +kernel), List.mem_of_getElem? (i := 729) (by decide +kernel)⟩
theorem lw_p28 : lw_okq (⟨"SmallWorlds$Rounds", "becomes", "(II)Z"⟩, 6) := ⟨⟨by decide +kernel, by decide +kernel⟩, List.mem_of_getElem? (i := 224) (by decide +kernel), List.mem_of_getElem? (i := 732) (by decide +kernel), List.mem_of_getElem? (i := 733) (by decide +kernel)⟩
theorem lw_p29 : lw_okq (⟨"SmallWorlds$Rounds", "join", "(III)V"⟩, 6) := ⟨⟨by decide +kernel, by decide +kernel⟩, List.mem_of_getElem? (i := 224) (by decide +kernel), List.mem_of_getElem? (i := 739) (by decide +kernel), List.mem_of_getElem? (i := 740) (by decide +kernel)⟩
theorem lw_p30 : lw_okq (⟨"SmallWorlds$Rounds", "joinByParts", "(LSmallWorlds$Terms;)V"⟩, 6) := ⟨⟨by decide +kernel, by decide +kernel⟩, List.mem_of_getElem? (i := 224) (by decide +kernel), List.mem_of_getElem? (i := 744) (by decide +kernel), List.mem_of_getElem? (i := 745) (by decide +kernel)⟩
theorem lw_p31 : lw_okq (⟨"SmallWorlds$Rounds", "noteRound", "(II)Z"⟩, 6) := ⟨⟨by decide +kernel, by decide +kernel⟩, List.mem_of_getElem? (i := 224) (by decide +kernel), List.mem_of_getElem? (i := 748) (by decide +kernel), List.mem_of_getElem? (i := 749) (by decide +kernel)⟩
def lw_privs_2 : List (MethodName × Nat) := [(⟨"SmallWorlds$Rows", "seeAll", "(II)V"⟩, 14), (⟨"SmallWorlds$Rows", "within", "(II)Z"⟩, 14), (⟨"SmallWorlds", "worthOf", "(I)I"⟩, 8), (⟨"SmallWorlds$Rows", "mightBeMade", "(III)Z"⟩, 14), (⟨"SmallWorlds$Rows", "tryNext", "(III)V"⟩, 14), (⟨"SmallWorlds$Rows", "isCandidateNew", "()Z"⟩, 14), (⟨"SmallWorlds$Rows", "isCandidate", "(I)Z"⟩, 14), (⟨"SmallWorlds$Catalog", "learnTurns", "()V"⟩, 8), (⟨"SmallWorlds$Catalog", "entryOf", "(II)I"⟩, 8), (⟨"SmallWorlds$Rounds", "begin", "(I)V"⟩, 6), (⟨"SmallWorlds$Rounds", "joinByLaws", "(LSmallWorlds$Terms;LSmallWorlds$Page;)V"⟩, 6), (⟨"SmallWorlds$Rounds", "isMadeByLaw", "(LSmallWorlds$Terms;IIII)Z"⟩, 6), (⟨"SmallWorlds$Rounds", "becomes", "(II)Z"⟩, 6), (⟨"SmallWorlds$Rounds", "join", "(III)V"⟩, 6), (⟨"SmallWorlds$Rounds", "joinByParts", "(LSmallWorlds$Terms;)V"⟩, 6), (⟨"SmallWorlds$Rounds", "noteRound", "(II)Z"⟩, 6)]
theorem lw_r2 : ∀ q ∈ lw_privs_2, lw_okq q := List.forall_mem_cons.mpr ⟨lw_p16, List.forall_mem_cons.mpr ⟨lw_p17, List.forall_mem_cons.mpr ⟨lw_p18, List.forall_mem_cons.mpr ⟨lw_p19, List.forall_mem_cons.mpr ⟨lw_p20, List.forall_mem_cons.mpr ⟨lw_p21, List.forall_mem_cons.mpr ⟨lw_p22, List.forall_mem_cons.mpr ⟨lw_p23, List.forall_mem_cons.mpr ⟨lw_p24, List.forall_mem_cons.mpr ⟨lw_p25, List.forall_mem_cons.mpr ⟨lw_p26, List.forall_mem_cons.mpr ⟨lw_p27, List.forall_mem_cons.mpr ⟨lw_p28, List.forall_mem_cons.mpr ⟨lw_p29, List.forall_mem_cons.mpr ⟨lw_p30, List.forall_mem_cons.mpr ⟨lw_p31, fun _ h => absurd h List.not_mem_nil⟩⟩⟩⟩⟩⟩⟩⟩⟩⟩⟩⟩⟩⟩⟩⟩
theorem lw_p32 : lw_okq (⟨"SmallWorldsModel", "isTerm", "(I)Z"⟩, 38) := ⟨⟨by decide +kernel, by decide +kernel⟩, List.mem_of_getElem? (i := 776) (by decide +kernel), List.mem_of_getElem? (i := 901) (by decide +kernel), List.mem_of_getElem? (i := 902) (by decide +kernel)⟩
theorem lw_p33 : lw_okq (⟨"SmallWorldsModel", "layAll", "()V"⟩, 38) := ⟨⟨by decide +kernel, by decide +kernel⟩, List.mem_of_getElem? (i := 776) (by decide +kernel), List.mem_of_getElem? (i := 928) (by decide +kernel), List.mem_of_getElem? (i := 929) (by decide +kernel)⟩
theorem lw_p34 : lw_okq (⟨"SmallWorldsModel", "layBroken", "([I[I[II)V"⟩, 38) := ⟨⟨by decide +kernel, by decide +kernel⟩, List.mem_of_getElem? (i := 776) (by decide +kernel), List.mem_of_getElem? (i := 932) (by decide +kernel), List.mem_of_getElem? (i := 933) (by decide +kernel)⟩
theorem lw_p35 : lw_okq (⟨"SmallWorldsModel", "want", "(II)V"⟩, 38) := ⟨⟨by decide +kernel, by decide +kernel⟩, List.mem_of_getElem? (i := 776) (by decide +kernel), List.mem_of_getElem? (i := 936) (by decide +kernel), List.mem_of_getElem? (i := 937) (by decide +kernel)⟩
theorem lw_p36 : lw_okq (⟨"SmallWorldsModel", "layWorld", "(I)V"⟩, 38) := ⟨⟨by decide +kernel, by decide +kernel⟩, List.mem_of_getElem? (i := 776) (by decide +kernel), List.mem_of_getElem? (i := 940) (by decide +kernel), List.mem_of_getElem? (i := 941) (by decide +kernel)⟩
theorem lw_p37 : lw_okq (⟨"SmallWorldsModel", "keepsOne", "(II)Z"⟩, 38) := ⟨⟨by decide +kernel, by decide +kernel⟩, List.mem_of_getElem? (i := 776) (by decide +kernel), List.mem_of_getElem? (i := 950) (by decide +kernel), List.mem_of_getElem? (i := 951) (by decide +kernel)⟩
theorem lw_p38 : lw_okq (⟨"SmallWorldsModel", "isSame", "(IIIII)Z"⟩, 38) := ⟨⟨by decide +kernel, by decide +kernel⟩, List.mem_of_getElem? (i := 776) (by decide +kernel), List.mem_of_getElem? (i := 954) (by decide +kernel), List.mem_of_getElem? (i := 955) (by decide +kernel)⟩
theorem lw_p39 : lw_okq (⟨"SmallWorldsModel", "leastName", "()I"⟩, 38) := ⟨⟨by decide +kernel, by decide +kernel⟩, List.mem_of_getElem? (i := 776) (by decide +kernel), List.mem_of_getElem? (i := 958) (by decide +kernel), List.mem_of_getElem? (i := 959) (by decide +kernel)⟩
theorem lw_p40 : lw_okq (⟨"SmallWorldsModel", "renamed", "(I)I"⟩, 38) := ⟨⟨by decide +kernel, by decide +kernel⟩, List.mem_of_getElem? (i := 776) (by decide +kernel), List.mem_of_getElem? (i := 963) (by decide +kernel), List.mem_of_getElem? (i := 964) (by decide +kernel)⟩
theorem lw_p41 : lw_okq (⟨"SmallWorldsModel", "oldName", "(I)I"⟩, 38) := ⟨⟨by decide +kernel, by decide +kernel⟩, List.mem_of_getElem? (i := 776) (by decide +kernel), List.mem_of_getElem? (i := 967) (by decide +kernel), List.mem_of_getElem? (i := 968) (by decide +kernel)⟩
theorem lw_p42 : lw_okq (⟨"SmallWorldsModel", "onList", "()I"⟩, 38) := ⟨⟨by decide +kernel, by decide +kernel⟩, List.mem_of_getElem? (i := 776) (by decide +kernel), List.mem_of_getElem? (i := 997) (by decide +kernel), List.mem_of_getElem? (i := 998) (by decide +kernel)⟩
theorem lw_p43 : lw_okq (⟨"SmallWorldsModel", "pairs", "()I"⟩, 38) := ⟨⟨by decide +kernel, by decide +kernel⟩, List.mem_of_getElem? (i := 776) (by decide +kernel), List.mem_of_getElem? (i := 1001) (by decide +kernel), List.mem_of_getElem? (i := 1002) (by decide +kernel)⟩
theorem lw_p44 : lw_okq (⟨"SmallWorldsModel", "isNotion", "(I)Z"⟩, 38) := ⟨⟨by decide +kernel, by decide +kernel⟩, List.mem_of_getElem? (i := 776) (by decide +kernel), List.mem_of_getElem? (i := 1014) (by decide +kernel), List.mem_of_getElem? (i := 1015) (by decide +kernel)⟩
theorem lw_p45 : lw_okq (⟨"SmallWorldsModel", "set", "(IIII)V"⟩, 38) := ⟨⟨by decide +kernel, by decide +kernel⟩, List.mem_of_getElem? (i := 776) (by decide +kernel), List.mem_of_getElem? (i := 1018) (by decide +kernel), List.mem_of_getElem? (i := 1019) (by decide +kernel)⟩
theorem lw_p46 : lw_okq (⟨"SmallWorldsModel", "layRows", "()V"⟩, 38) := ⟨⟨by decide +kernel, by decide +kernel⟩, List.mem_of_getElem? (i := 776) (by decide +kernel), List.mem_of_getElem? (i := 1026) (by decide +kernel), List.mem_of_getElem? (i := 1027) (by decide +kernel)⟩
theorem lw_p47 : lw_okq (⟨"SmallWorldsModel", "layHere", "(I)V"⟩, 38) := ⟨⟨by decide +kernel, by decide +kernel⟩, List.mem_of_getElem? (i := 776) (by decide +kernel), List.mem_of_getElem? (i := 1030) (by decide +kernel), List.mem_of_getElem? (i := 1031) (by decide +kernel)⟩
def lw_privs_3 : List (MethodName × Nat) := [(⟨"SmallWorldsModel", "isTerm", "(I)Z"⟩, 38), (⟨"SmallWorldsModel", "layAll", "()V"⟩, 38), (⟨"SmallWorldsModel", "layBroken", "([I[I[II)V"⟩, 38), (⟨"SmallWorldsModel", "want", "(II)V"⟩, 38), (⟨"SmallWorldsModel", "layWorld", "(I)V"⟩, 38), (⟨"SmallWorldsModel", "keepsOne", "(II)Z"⟩, 38), (⟨"SmallWorldsModel", "isSame", "(IIIII)Z"⟩, 38), (⟨"SmallWorldsModel", "leastName", "()I"⟩, 38), (⟨"SmallWorldsModel", "renamed", "(I)I"⟩, 38), (⟨"SmallWorldsModel", "oldName", "(I)I"⟩, 38), (⟨"SmallWorldsModel", "onList", "()I"⟩, 38), (⟨"SmallWorldsModel", "pairs", "()I"⟩, 38), (⟨"SmallWorldsModel", "isNotion", "(I)Z"⟩, 38), (⟨"SmallWorldsModel", "set", "(IIII)V"⟩, 38), (⟨"SmallWorldsModel", "layRows", "()V"⟩, 38), (⟨"SmallWorldsModel", "layHere", "(I)V"⟩, 38)]
theorem lw_r3 : ∀ q ∈ lw_privs_3, lw_okq q := List.forall_mem_cons.mpr ⟨lw_p32, List.forall_mem_cons.mpr ⟨lw_p33, List.forall_mem_cons.mpr ⟨lw_p34, List.forall_mem_cons.mpr ⟨lw_p35, List.forall_mem_cons.mpr ⟨lw_p36, List.forall_mem_cons.mpr ⟨lw_p37, List.forall_mem_cons.mpr ⟨lw_p38, List.forall_mem_cons.mpr ⟨lw_p39, List.forall_mem_cons.mpr ⟨lw_p40, List.forall_mem_cons.mpr ⟨lw_p41, List.forall_mem_cons.mpr ⟨lw_p42, List.forall_mem_cons.mpr ⟨lw_p43, List.forall_mem_cons.mpr ⟨lw_p44, List.forall_mem_cons.mpr ⟨lw_p45, List.forall_mem_cons.mpr ⟨lw_p46, List.forall_mem_cons.mpr ⟨lw_p47, fun _ h => absurd h List.not_mem_nil⟩⟩⟩⟩⟩⟩⟩⟩⟩⟩⟩⟩⟩⟩⟩⟩
theorem lw_p48 : lw_okq (⟨"SmallWorldsModel", "isSo", "(III)Z"⟩, 38) := ⟨⟨by decide +kernel, by decide +kernel⟩, List.mem_of_getElem? (i := 776) (by decide +kernel), List.mem_of_getElem? (i := 1034) (by decide +kernel), List.mem_of_getElem? (i := 1035) (by decide +kernel)⟩
theorem lw_p49 : lw_okq (⟨"SmallWorldsModel", "manyOf", "(I)I"⟩, 38) := ⟨⟨by decide +kernel, by decide +kernel⟩, List.mem_of_getElem? (i := 776) (by decide +kernel), List.mem_of_getElem? (i := 1042) (by decide +kernel), List.mem_of_getElem? (i := 1043) (by decide +kernel)⟩
theorem lw_p50 : lw_okq (⟨"SmallWorldsModel", "agrees", "(II)Z"⟩, 38) := ⟨⟨by decide +kernel, by decide +kernel⟩, List.mem_of_getElem? (i := 776) (by decide +kernel), List.mem_of_getElem? (i := 1050) (by decide +kernel), List.mem_of_getElem? (i := 1051) (by decide +kernel)⟩
theorem lw_p51 : lw_okq (⟨"SmallWorldsModel", "butForOf", "(II)I"⟩, 38) := ⟨⟨by decide +kernel, by decide +kernel⟩, List.mem_of_getElem? (i := 776) (by decide +kernel), List.mem_of_getElem? (i := 1054) (by decide +kernel), List.mem_of_getElem? (i := 1055) (by decide +kernel)⟩
theorem lw_p52 : lw_okq (⟨"SmallWorldsModel", "rareOf", "(I)I"⟩, 38) := ⟨⟨by decide +kernel, by decide +kernel⟩, List.mem_of_getElem? (i := 776) (by decide +kernel), List.mem_of_getElem? (i := 1088) (by decide +kernel), List.mem_of_getElem? (i := 1089) (by decide +kernel)⟩
theorem lw_p53 : lw_okq (⟨"SmallWorldsModel", "servesOf", "(I)I"⟩, 38) := ⟨⟨by decide +kernel, by decide +kernel⟩, List.mem_of_getElem? (i := 776) (by decide +kernel), List.mem_of_getElem? (i := 1092) (by decide +kernel), List.mem_of_getElem? (i := 1093) (by decide +kernel)⟩
theorem lw_p54 : lw_okq (⟨"SmallWorldsModel", "deepOf", "(I)I"⟩, 38) := ⟨⟨by decide +kernel, by decide +kernel⟩, List.mem_of_getElem? (i := 776) (by decide +kernel), List.mem_of_getElem? (i := 1096) (by decide +kernel), List.mem_of_getElem? (i := 1097) (by decide +kernel)⟩
theorem lw_p55 : lw_okq (⟨"SmallWorldsModel", "worthOf", "(I)I"⟩, 38) := ⟨⟨by decide +kernel, by decide +kernel⟩, List.mem_of_getElem? (i := 776) (by decide +kernel), List.mem_of_getElem? (i := 1100) (by decide +kernel), List.mem_of_getElem? (i := 1101) (by decide +kernel)⟩
theorem lw_p56 : lw_okq (⟨"SmallWorldsModel", "nextCode", "()I"⟩, 38) := ⟨⟨by decide +kernel, by decide +kernel⟩, List.mem_of_getElem? (i := 776) (by decide +kernel), List.mem_of_getElem? (i := 1112) (by decide +kernel), List.mem_of_getElem? (i := 1113) (by decide +kernel)⟩
theorem lw_p57 : lw_okq (⟨"SmallWorldsModel", "layTried", "(III)V"⟩, 38) := ⟨⟨by decide +kernel, by decide +kernel⟩, List.mem_of_getElem? (i := 776) (by decide +kernel), List.mem_of_getElem? (i := 1116) (by decide +kernel), List.mem_of_getElem? (i := 1117) (by decide +kernel)⟩
theorem lw_p58 : lw_okq (⟨"SmallWorldsModel", "isNeeded", "(II)Z"⟩, 38) := ⟨⟨by decide +kernel, by decide +kernel⟩, List.mem_of_getElem? (i := 776) (by decide +kernel), List.mem_of_getElem? (i := 1129) (by decide +kernel), List.mem_of_getElem? (i := 1130) (by decide +kernel)⟩
theorem lw_p59 : lw_okq (⟨"SmallWorldsModel", "turned", "(I)I"⟩, 38) := ⟨⟨by decide +kernel, by decide +kernel⟩, List.mem_of_getElem? (i := 776) (by decide +kernel), List.mem_of_getElem? (i := 1141) (by decide +kernel), List.mem_of_getElem? (i := 1142) (by decide +kernel)⟩
theorem lw_p60 : lw_okq (⟨"SmallWorldsModel", "layShown", "()V"⟩, 38) := ⟨⟨by decide +kernel, by decide +kernel⟩, List.mem_of_getElem? (i := 776) (by decide +kernel), List.mem_of_getElem? (i := 1157) (by decide +kernel), List.mem_of_getElem? (i := 1158) (by decide +kernel)⟩
theorem lw_p61 : lw_okq (⟨"SmallWorldsModel", "layLaws", "()V"⟩, 38) := ⟨⟨by decide +kernel, by decide +kernel⟩, List.mem_of_getElem? (i := 776) (by decide +kernel), List.mem_of_getElem? (i := 1161) (by decide +kernel), List.mem_of_getElem? (i := 1162) (by decide +kernel)⟩
theorem lw_p62 : lw_okq (⟨"SmallWorldsModel", "layImage", "(III)V"⟩, 38) := ⟨⟨by decide +kernel, by decide +kernel⟩, List.mem_of_getElem? (i := 776) (by decide +kernel), List.mem_of_getElem? (i := 1165) (by decide +kernel), List.mem_of_getElem? (i := 1166) (by decide +kernel)⟩
theorem lw_p63 : lw_okq (⟨"SmallWorldsModel", "layParts", "()V"⟩, 38) := ⟨⟨by decide +kernel, by decide +kernel⟩, List.mem_of_getElem? (i := 776) (by decide +kernel), List.mem_of_getElem? (i := 1169) (by decide +kernel), List.mem_of_getElem? (i := 1170) (by decide +kernel)⟩
def lw_privs_4 : List (MethodName × Nat) := [(⟨"SmallWorldsModel", "isSo", "(III)Z"⟩, 38), (⟨"SmallWorldsModel", "manyOf", "(I)I"⟩, 38), (⟨"SmallWorldsModel", "agrees", "(II)Z"⟩, 38), (⟨"SmallWorldsModel", "butForOf", "(II)I"⟩, 38), (⟨"SmallWorldsModel", "rareOf", "(I)I"⟩, 38), (⟨"SmallWorldsModel", "servesOf", "(I)I"⟩, 38), (⟨"SmallWorldsModel", "deepOf", "(I)I"⟩, 38), (⟨"SmallWorldsModel", "worthOf", "(I)I"⟩, 38), (⟨"SmallWorldsModel", "nextCode", "()I"⟩, 38), (⟨"SmallWorldsModel", "layTried", "(III)V"⟩, 38), (⟨"SmallWorldsModel", "isNeeded", "(II)Z"⟩, 38), (⟨"SmallWorldsModel", "turned", "(I)I"⟩, 38), (⟨"SmallWorldsModel", "layShown", "()V"⟩, 38), (⟨"SmallWorldsModel", "layLaws", "()V"⟩, 38), (⟨"SmallWorldsModel", "layImage", "(III)V"⟩, 38), (⟨"SmallWorldsModel", "layParts", "()V"⟩, 38)]
theorem lw_r4 : ∀ q ∈ lw_privs_4, lw_okq q := List.forall_mem_cons.mpr ⟨lw_p48, List.forall_mem_cons.mpr ⟨lw_p49, List.forall_mem_cons.mpr ⟨lw_p50, List.forall_mem_cons.mpr ⟨lw_p51, List.forall_mem_cons.mpr ⟨lw_p52, List.forall_mem_cons.mpr ⟨lw_p53, List.forall_mem_cons.mpr ⟨lw_p54, List.forall_mem_cons.mpr ⟨lw_p55, List.forall_mem_cons.mpr ⟨lw_p56, List.forall_mem_cons.mpr ⟨lw_p57, List.forall_mem_cons.mpr ⟨lw_p58, List.forall_mem_cons.mpr ⟨lw_p59, List.forall_mem_cons.mpr ⟨lw_p60, List.forall_mem_cons.mpr ⟨lw_p61, List.forall_mem_cons.mpr ⟨lw_p62, List.forall_mem_cons.mpr ⟨lw_p63, fun _ h => absurd h List.not_mem_nil⟩⟩⟩⟩⟩⟩⟩⟩⟩⟩⟩⟩⟩⟩⟩⟩
theorem lw_p64 : lw_okq (⟨"SmallWorldsModel", "joinAll", "()V"⟩, 38) := ⟨⟨by decide +kernel, by decide +kernel⟩, List.mem_of_getElem? (i := 776) (by decide +kernel), List.mem_of_getElem? (i := 1173) (by decide +kernel), List.mem_of_getElem? (i := 1174) (by decide +kernel)⟩
def lw_privs_5 : List (MethodName × Nat) := [(⟨"SmallWorldsModel", "joinAll", "()V"⟩, 38)]
theorem lw_r5 : ∀ q ∈ lw_privs_5, lw_okq q := List.forall_mem_cons.mpr ⟨lw_p64, fun _ h => absurd h List.not_mem_nil⟩
def lw_privs : List (MethodName × Nat) := lw_privs_1 ++ (lw_privs_2 ++ (lw_privs_3 ++ (lw_privs_4 ++ (lw_privs_5))))
def lw_tbl : List Cond := k2_sels lw_privs ++ tables_1
theorem lw_privs_ok : ∀ q ∈ lw_privs, lw_okq q := by
  show ∀ q ∈ lw_privs_1 ++ (lw_privs_2 ++ (lw_privs_3 ++ (lw_privs_4 ++ (lw_privs_5)))), lw_okq q
  exact List.forall_mem_append.mpr ⟨lw_r1, List.forall_mem_append.mpr ⟨lw_r2, List.forall_mem_append.mpr ⟨lw_r3, List.forall_mem_append.mpr ⟨lw_r4, lw_r5⟩⟩⟩⟩
end
section
def RX0 : String := "SmallWorlds$Bits"
def TX0 : u_T := fun k => match k with
  | _ => ("", "", "", false)
def tyX0 : Nat → FieldType := fun k => match k with
  | _ => .int
theorem nmX0 : ∀ a, a < 0 → ∀ b, b < 0 → a ≠ b → (TX0 a).2.1 ≠ (TX0 b).2.1 := by decide +kernel
theorem tyX0_ok : ∀ k, k < 0 → parseFieldDescriptor (TX0 k).2.2.1 = some (tyX0 k) := by decide +kernel
abbrev cX0_whole : ByteArray := prog_2_method_2_code
def yX0_whole : MethodName := ⟨RX0, "whole", "(I)I"⟩
abbrev cX0_made : ByteArray := prog_2_method_3_code
def yX0_made : MethodName := ⟨RX0, "made", "(IIII)I"⟩
abbrev cX0_turnedAbout : ByteArray := prog_2_method_4_code
def yX0_turnedAbout : MethodName := ⟨RX0, "turnedAbout", "(II)I"⟩
abbrev cX0_byLines : ByteArray := prog_2_method_5_code
def yX0_byLines : MethodName := ⟨RX0, "byLines", "(III)I"⟩
def RX1 : String := "SmallWorlds$Catalog"
def TX1 : u_T := fun k => match k with
  | 0 => ("SmallWorlds$Catalog", "numbers", "[I", true)
  | 1 => ("SmallWorlds$Catalog", "likes", "[I", true)
  | 2 => ("SmallWorlds$Catalog", "turned", "[I", true)
  | 3 => ("SmallWorlds$Catalog", "kept", "[I", true)
  | 4 => ("SmallWorlds$Catalog", "filled", "Z", false)
  | 5 => ("SmallWorlds$Catalog", "turnsKnown", "Z", false)
  | 6 => ("SmallWorlds$Catalog", "lawsKnown", "I", false)
  | _ => ("SmallWorlds$Catalog", "table", "LSmallWorlds$Table;", true)
def tyX1 : Nat → FieldType := fun k => match k with
  | 0 => .array .int
  | 1 => .array .int
  | 2 => .array .int
  | 3 => .array .int
  | 4 => .boolean
  | 5 => .boolean
  | 6 => .int
  | _ => .object "SmallWorlds$Table"
theorem nmX1 : ∀ a, a < 8 → ∀ b, b < 8 → a ≠ b → (TX1 a).2.1 ≠ (TX1 b).2.1 := by decide +kernel
theorem tyX1_ok : ∀ k, k < 8 → parseFieldDescriptor (TX1 k).2.2.1 = some (tyX1 k) := by decide +kernel
abbrev cX1_init : ByteArray := prog_3_method_1_code
def yX1_init : MethodName := ⟨RX1, "<init>", "(LSmallWorlds$Table;)V"⟩
abbrev cX1_slotBit : ByteArray := prog_3_method_2_code
def yX1_slotBit : MethodName := ⟨RX1, "slotBit", "(I)I"⟩
abbrev cX1_sizeOf : ByteArray := prog_3_method_3_code
def yX1_sizeOf : MethodName := ⟨RX1, "sizeOf", "(I)I"⟩
abbrev cX1_fill : ByteArray := prog_3_method_4_code
def yX1_fill : MethodName := ⟨RX1, "fill", "()V"⟩
abbrev cX1_forgetLaws : ByteArray := prog_3_method_5_code
def yX1_forgetLaws : MethodName := ⟨RX1, "forgetLaws", "(I)V"⟩
abbrev cX1_settle : ByteArray := prog_3_method_6_code
def yX1_settle : MethodName := ⟨RX1, "settle", "(LSmallWorlds$Terms;LSmallWorlds$Page;)V"⟩
abbrev cX1_tryLaws : ByteArray := prog_3_method_7_code
def yX1_tryLaws : MethodName := ⟨RX1, "tryLaws", "(LSmallWorlds$Terms;LSmallWorlds$Page;I)V"⟩
abbrev cX1_keepsAll : ByteArray := prog_3_method_8_code
def yX1_keepsAll : MethodName := ⟨RX1, "keepsAll", "(II)Z"⟩
abbrev cX1_howMany : ByteArray := prog_3_method_9_code
def yX1_howMany : MethodName := ⟨RX1, "howMany", "(IIZ)I"⟩
abbrev cX1_numberOf : ByteArray := prog_3_method_10_code
def yX1_numberOf : MethodName := ⟨RX1, "numberOf", "(III)I"⟩
abbrev cX1_isNeeded : ByteArray := prog_3_method_11_code
def yX1_isNeeded : MethodName := ⟨RX1, "isNeeded", "(II)Z"⟩
abbrev cX1_isEven : ByteArray := prog_3_method_12_code
def yX1_isEven : MethodName := ⟨RX1, "isEven", "(I)Z"⟩
abbrev cX1_keepPage : ByteArray := prog_3_method_13_code
def yX1_keepPage : MethodName := ⟨RX1, "keepPage", "(II)V"⟩
abbrev cX1_isPageOf : ByteArray := prog_3_method_14_code
def yX1_isPageOf : MethodName := ⟨RX1, "isPageOf", "(IIZ)Z"⟩
abbrev cX1_learnTurns : ByteArray := prog_3_method_15_code
def yX1_learnTurns : MethodName := ⟨RX1, "learnTurns", "()V"⟩
abbrev cX1_entryOf : ByteArray := prog_3_method_16_code
def yX1_entryOf : MethodName := ⟨RX1, "entryOf", "(II)I"⟩
def RX2 : String := "SmallWorlds$Notions"
def TX2 : u_T := fun k => match k with
  | 0 => ("SmallWorlds$Notions", "way", "[I", true)
  | 1 => ("SmallWorlds$Notions", "a", "[I", true)
  | 2 => ("SmallWorlds$Notions", "b", "[I", true)
  | 3 => ("SmallWorlds$Notions", "needs", "[I", true)
  | 4 => ("SmallWorlds$Notions", "deep", "[I", true)
  | 5 => ("SmallWorlds$Notions", "awake", "[Z", true)
  | _ => ("SmallWorlds$Notions", "size", "I", false)
def tyX2 : Nat → FieldType := fun k => match k with
  | 0 => .array .int
  | 1 => .array .int
  | 2 => .array .int
  | 3 => .array .int
  | 4 => .array .int
  | 5 => .array .boolean
  | _ => .int
theorem nmX2 : ∀ a, a < 7 → ∀ b, b < 7 → a ≠ b → (TX2 a).2.1 ≠ (TX2 b).2.1 := by decide +kernel
theorem tyX2_ok : ∀ k, k < 7 → parseFieldDescriptor (TX2 k).2.2.1 = some (tyX2 k) := by decide +kernel
abbrev cX2_init : ByteArray := prog_4_method_1_code
def yX2_init : MethodName := ⟨RX2, "<init>", "()V"⟩
abbrev cX2_has : ByteArray := prog_4_method_2_code
def yX2_has : MethodName := ⟨RX2, "has", "(I)Z"⟩
abbrev cX2_add : ByteArray := prog_4_method_3_code
def yX2_add : MethodName := ⟨RX2, "add", "(III)I"⟩
abbrev cX2_addPart : ByteArray := prog_4_method_4_code
def yX2_addPart : MethodName := ⟨RX2, "addPart", "(II)V"⟩
abbrev cX2_howManyAwake : ByteArray := prog_4_method_5_code
def yX2_howManyAwake : MethodName := ⟨RX2, "howManyAwake", "()I"⟩
def RX3 : String := "SmallWorlds$Page"
def TX3 : u_T := fun k => match k with
  | 0 => ("SmallWorlds$Page", "left", "[I", true)
  | 1 => ("SmallWorlds$Page", "right", "[I", true)
  | _ => ("SmallWorlds$Page", "size", "I", false)
def tyX3 : Nat → FieldType := fun k => match k with
  | 0 => .array .int
  | 1 => .array .int
  | _ => .int
theorem nmX3 : ∀ a, a < 3 → ∀ b, b < 3 → a ≠ b → (TX3 a).2.1 ≠ (TX3 b).2.1 := by decide +kernel
theorem tyX3_ok : ∀ k, k < 3 → parseFieldDescriptor (TX3 k).2.2.1 = some (tyX3 k) := by decide +kernel
abbrev cX3_init : ByteArray := prog_5_method_1_code
def yX3_init : MethodName := ⟨RX3, "<init>", "()V"⟩
abbrev cX3_add : ByteArray := prog_5_method_2_code
def yX3_add : MethodName := ⟨RX3, "add", "(II)I"⟩
abbrev cX3_all : ByteArray := prog_5_method_3_code
def yX3_all : MethodName := ⟨RX3, "all", "()I"⟩
def RX4 : String := "SmallWorlds$Rounds"
def TX4 : u_T := fun k => match k with
  | 0 => ("SmallWorlds$Rounds", "group", "[I", true)
  | 1 => ("SmallWorlds$Rounds", "ahead", "[I", true)
  | 2 => ("SmallWorlds$Rounds", "round", "[I", true)
  | 3 => ("SmallWorlds$Rounds", "image", "[I", true)
  | 4 => ("SmallWorlds$Rounds", "last", "I", false)
  | _ => ("SmallWorlds$Rounds", "known", "Z", false)
def tyX4 : Nat → FieldType := fun k => match k with
  | 0 => .array .int
  | 1 => .array .int
  | 2 => .array .int
  | 3 => .array .int
  | 4 => .int
  | _ => .boolean
theorem nmX4 : ∀ a, a < 6 → ∀ b, b < 6 → a ≠ b → (TX4 a).2.1 ≠ (TX4 b).2.1 := by decide +kernel
theorem tyX4_ok : ∀ k, k < 6 → parseFieldDescriptor (TX4 k).2.2.1 = some (tyX4 k) := by decide +kernel
abbrev cX4_init : ByteArray := prog_6_method_1_code
def yX4_init : MethodName := ⟨RX4, "<init>", "()V"⟩
abbrev cX4_forget : ByteArray := prog_6_method_2_code
def yX4_forget : MethodName := ⟨RX4, "forget", "()V"⟩
abbrev cX4_roundOf : ByteArray := prog_6_method_3_code
def yX4_roundOf : MethodName := ⟨RX4, "roundOf", "(II)I"⟩
abbrev cX4_howManyGroups : ByteArray := prog_6_method_4_code
def yX4_howManyGroups : MethodName := ⟨RX4, "howManyGroups", "(I)I"⟩
abbrev cX4_settle : ByteArray := prog_6_method_5_code
def yX4_settle : MethodName := ⟨RX4, "settle", "(LSmallWorlds$Terms;LSmallWorlds$Page;)V"⟩
abbrev cX4_begin : ByteArray := prog_6_method_6_code
def yX4_begin : MethodName := ⟨RX4, "begin", "(I)V"⟩
abbrev cX4_joinByLaws : ByteArray := prog_6_method_7_code
def yX4_joinByLaws : MethodName := ⟨RX4, "joinByLaws", "(LSmallWorlds$Terms;LSmallWorlds$Page;)V"⟩
abbrev cX4_isMadeByLaw : ByteArray := prog_6_method_8_code
def yX4_isMadeByLaw : MethodName := ⟨RX4, "isMadeByLaw", "(LSmallWorlds$Terms;IIII)Z"⟩
abbrev cX4_becomes : ByteArray := prog_6_method_9_code
def yX4_becomes : MethodName := ⟨RX4, "becomes", "(II)Z"⟩
abbrev cX4_joinByParts : ByteArray := prog_6_method_10_code
def yX4_joinByParts : MethodName := ⟨RX4, "joinByParts", "(LSmallWorlds$Terms;)V"⟩
abbrev cX4_join : ByteArray := prog_6_method_11_code
def yX4_join : MethodName := ⟨RX4, "join", "(III)V"⟩
abbrev cX4_noteRound : ByteArray := prog_6_method_12_code
def yX4_noteRound : MethodName := ⟨RX4, "noteRound", "(II)Z"⟩
def RX5 : String := "SmallWorlds$Rows"
def TX5 : u_T := fun k => match k with
  | 0 => ("SmallWorlds$Rows", "terms", "LSmallWorlds$Terms;", true)
  | 1 => ("SmallWorlds$Rows", "catalog", "LSmallWorlds$Catalog;", true)
  | 2 => ("SmallWorlds$Rows", "notions", "LSmallWorlds$Notions;", true)
  | 3 => ("SmallWorlds$Rows", "table", "LSmallWorlds$Table;", true)
  | 4 => ("SmallWorlds$Rows", "entries", "[I", true)
  | 5 => ("SmallWorlds$Rows", "start", "[I", true)
  | 6 => ("SmallWorlds$Rows", "size", "I", false)
  | 7 => ("SmallWorlds$Rows", "pairs", "I", false)
  | 8 => ("SmallWorlds$Rows", "listKnown", "Z", false)
  | 9 => ("SmallWorlds$Rows", "notionsKnown", "I", false)
  | 10 => ("SmallWorlds$Rows", "seen", "[J", true)
  | 11 => ("SmallWorlds$Rows", "candidate", "[I", true)
  | 12 => ("SmallWorlds$Rows", "nextCode", "I", false)
  | _ => ("SmallWorlds$Rows", "nextRare", "I", false)
def tyX5 : Nat → FieldType := fun k => match k with
  | 0 => .object "SmallWorlds$Terms"
  | 1 => .object "SmallWorlds$Catalog"
  | 2 => .object "SmallWorlds$Notions"
  | 3 => .object "SmallWorlds$Table"
  | 4 => .array .int
  | 5 => .array .int
  | 6 => .int
  | 7 => .int
  | 8 => .boolean
  | 9 => .int
  | 10 => .array .long
  | 11 => .array .int
  | 12 => .int
  | _ => .int
theorem nmX5 : ∀ a, a < 14 → ∀ b, b < 14 → a ≠ b → (TX5 a).2.1 ≠ (TX5 b).2.1 := by decide +kernel
theorem tyX5_ok : ∀ k, k < 14 → parseFieldDescriptor (TX5 k).2.2.1 = some (tyX5 k) := by decide +kernel
abbrev cX5_init : ByteArray := prog_7_method_1_code
def yX5_init : MethodName := ⟨RX5, "<init>", "(LSmallWorlds$Terms;LSmallWorlds$Catalog;LSmallWorlds$Notions;LSmallWorlds$Table;)V"⟩
abbrev cX5_forget : ByteArray := prog_7_method_2_code
def yX5_forget : MethodName := ⟨RX5, "forget", "()V"⟩
abbrev cX5_settle : ByteArray := prog_7_method_3_code
def yX5_settle : MethodName := ⟨RX5, "settle", "(I)V"⟩
abbrev cX5_fillList : ByteArray := prog_7_method_4_code
def yX5_fillList : MethodName := ⟨RX5, "fillList", "(I)V"⟩
abbrev cX5_has : ByteArray := prog_7_method_5_code
def yX5_has : MethodName := ⟨RX5, "has", "(I)Z"⟩
abbrev cX5_sizeAt : ByteArray := prog_7_method_6_code
def yX5_sizeAt : MethodName := ⟨RX5, "sizeAt", "(I)I"⟩
abbrev cX5_at : ByteArray := prog_7_method_7_code
def yX5_at : MethodName := ⟨RX5, "at", "(II)I"⟩
abbrev cX5_seenBits : ByteArray := prog_7_method_8_code
def yX5_seenBits : MethodName := ⟨RX5, "seenBits", "(II)I"⟩
abbrev cX5_see : ByteArray := prog_7_method_9_code
def yX5_see : MethodName := ⟨RX5, "see", "(II)V"⟩
abbrev cX5_workedOut : ByteArray := prog_7_method_10_code
def yX5_workedOut : MethodName := ⟨RX5, "workedOut", "(II)I"⟩
abbrev cX5_seeAll : ByteArray := prog_7_method_11_code
def yX5_seeAll : MethodName := ⟨RX5, "seeAll", "(II)V"⟩
abbrev cX5_pairsOf : ByteArray := prog_7_method_12_code
def yX5_pairsOf : MethodName := ⟨RX5, "pairsOf", "(I)I"⟩
abbrev cX5_agree : ByteArray := prog_7_method_13_code
def yX5_agree : MethodName := ⟨RX5, "agree", "(II)Z"⟩
abbrev cX5_pairsBeyond : ByteArray := prog_7_method_14_code
def yX5_pairsBeyond : MethodName := ⟨RX5, "pairsBeyond", "(II)I"⟩
abbrev cX5_pairBeyond : ByteArray := prog_7_method_15_code
def yX5_pairBeyond : MethodName := ⟨RX5, "pairBeyond", "(III)I"⟩
abbrev cX5_meet : ByteArray := prog_7_method_16_code
def yX5_meet : MethodName := ⟨RX5, "meet", "(II)Z"⟩
abbrev cX5_denier : ByteArray := prog_7_method_17_code
def yX5_denier : MethodName := ⟨RX5, "denier", "(III)I"⟩
abbrev cX5_rare : ByteArray := prog_7_method_18_code
def yX5_rare : MethodName := ⟨RX5, "rare", "(I)I"⟩
abbrev cX5_within : ByteArray := prog_7_method_19_code
def yX5_within : MethodName := ⟨RX5, "within", "(II)Z"⟩
abbrev cX5_serves : ByteArray := prog_7_method_20_code
def yX5_serves : MethodName := ⟨RX5, "serves", "(I)I"⟩
abbrev cX5_seekNext : ByteArray := prog_7_method_21_code
def yX5_seekNext : MethodName := ⟨RX5, "seekNext", "()I"⟩
abbrev cX5_mightBeMade : ByteArray := prog_7_method_22_code
def yX5_mightBeMade : MethodName := ⟨RX5, "mightBeMade", "(III)Z"⟩
abbrev cX5_tryNext : ByteArray := prog_7_method_23_code
def yX5_tryNext : MethodName := ⟨RX5, "tryNext", "(III)V"⟩
abbrev cX5_isCandidateNew : ByteArray := prog_7_method_24_code
def yX5_isCandidateNew : MethodName := ⟨RX5, "isCandidateNew", "()Z"⟩
abbrev cX5_isCandidate : ByteArray := prog_7_method_25_code
def yX5_isCandidate : MethodName := ⟨RX5, "isCandidate", "(I)Z"⟩
def RX6 : String := "SmallWorlds$Table"
def TX6 : u_T := fun k => match k with
  | 0 => ("SmallWorlds$Table", "cells", "[I", true)
  | 1 => ("SmallWorlds$Table", "value", "[I", true)
  | _ => ("SmallWorlds$Table", "size", "I", false)
def tyX6 : Nat → FieldType := fun k => match k with
  | 0 => .array .int
  | 1 => .array .int
  | _ => .int
theorem nmX6 : ∀ a, a < 3 → ∀ b, b < 3 → a ≠ b → (TX6 a).2.1 ≠ (TX6 b).2.1 := by decide +kernel
theorem tyX6_ok : ∀ k, k < 3 → parseFieldDescriptor (TX6 k).2.2.1 = some (tyX6 k) := by decide +kernel
abbrev cX6_init : ByteArray := prog_8_method_1_code
def yX6_init : MethodName := ⟨RX6, "<init>", "()V"⟩
abbrev cX6_load : ByteArray := prog_8_method_2_code
def yX6_load : MethodName := ⟨RX6, "load", "(II)V"⟩
abbrev cX6_advance : ByteArray := prog_8_method_3_code
def yX6_advance : MethodName := ⟨RX6, "advance", "()V"⟩
abbrev cX6_turnAbout : ByteArray := prog_8_method_4_code
def yX6_turnAbout : MethodName := ⟨RX6, "turnAbout", "()V"⟩
abbrev cX6_renamedCell : ByteArray := prog_8_method_5_code
def yX6_renamedCell : MethodName := ⟨RX6, "renamedCell", "(III)I"⟩
abbrev cX6_compareRenamed : ByteArray := prog_8_method_6_code
def yX6_compareRenamed : MethodName := ⟨RX6, "compareRenamed", "(I)I"⟩
abbrev cX6_renamedNumber : ByteArray := prog_8_method_7_code
def yX6_renamedNumber : MethodName := ⟨RX6, "renamedNumber", "(I)I"⟩
abbrev cX6_leastNumber : ByteArray := prog_8_method_8_code
def yX6_leastNumber : MethodName := ⟨RX6, "leastNumber", "()I"⟩
abbrev cX6_likesIfLeast : ByteArray := prog_8_method_9_code
def yX6_likesIfLeast : MethodName := ⟨RX6, "likesIfLeast", "()I"⟩
abbrev cX6_thingsFor : ByteArray := prog_8_method_10_code
def yX6_thingsFor : MethodName := ⟨RX6, "thingsFor", "(II)I"⟩
abbrev cX6_alikeForZ : ByteArray := prog_8_method_11_code
def yX6_alikeForZ : MethodName := ⟨RX6, "alikeForZ", "(LSmallWorlds$Terms;IIIII)Z"⟩
abbrev cX6_keepsLaw : ByteArray := prog_8_method_12_code
def yX6_keepsLaw : MethodName := ⟨RX6, "keepsLaw", "(LSmallWorlds$Terms;II)Z"⟩
abbrev cX6_pairsAlike : ByteArray := prog_8_method_13_code
def yX6_pairsAlike : MethodName := ⟨RX6, "pairsAlike", "(LSmallWorlds$Terms;II)I"⟩
def RX7 : String := "SmallWorlds$Terms"
def TX7 : u_T := fun k => match k with
  | 0 => ("SmallWorlds$Terms", "left", "[I", true)
  | 1 => ("SmallWorlds$Terms", "right", "[I", true)
  | 2 => ("SmallWorlds$Terms", "needs", "[I", true)
  | _ => ("SmallWorlds$Terms", "size", "I", false)
def tyX7 : Nat → FieldType := fun k => match k with
  | 0 => .array .int
  | 1 => .array .int
  | 2 => .array .int
  | _ => .int
theorem nmX7 : ∀ a, a < 4 → ∀ b, b < 4 → a ≠ b → (TX7 a).2.1 ≠ (TX7 b).2.1 := by decide +kernel
theorem tyX7_ok : ∀ k, k < 4 → parseFieldDescriptor (TX7 k).2.2.1 = some (tyX7 k) := by decide +kernel
abbrev cX7_init : ByteArray := prog_9_method_1_code
def yX7_init : MethodName := ⟨RX7, "<init>", "()V"⟩
abbrev cX7_has : ByteArray := prog_9_method_2_code
def yX7_has : MethodName := ⟨RX7, "has", "(I)Z"⟩
abbrev cX7_find : ByteArray := prog_9_method_3_code
def yX7_find : MethodName := ⟨RX7, "find", "(II)I"⟩
abbrev cX7_add : ByteArray := prog_9_method_4_code
def yX7_add : MethodName := ⟨RX7, "add", "(II)I"⟩
def RX8 : String := "SmallWorlds"
def TX8 : u_T := fun k => match k with
  | 0 => ("SmallWorlds", "terms", "LSmallWorlds$Terms;", true)
  | 1 => ("SmallWorlds", "page", "LSmallWorlds$Page;", true)
  | 2 => ("SmallWorlds", "table", "LSmallWorlds$Table;", true)
  | 3 => ("SmallWorlds", "catalog", "LSmallWorlds$Catalog;", true)
  | 4 => ("SmallWorlds", "notions", "LSmallWorlds$Notions;", true)
  | 5 => ("SmallWorlds", "rows", "LSmallWorlds$Rows;", true)
  | 6 => ("SmallWorlds", "rounds", "LSmallWorlds$Rounds;", true)
  | _ => ("SmallWorlds", "parts", "[I", true)
def tyX8 : Nat → FieldType := fun k => match k with
  | 0 => .object "SmallWorlds$Terms"
  | 1 => .object "SmallWorlds$Page"
  | 2 => .object "SmallWorlds$Table"
  | 3 => .object "SmallWorlds$Catalog"
  | 4 => .object "SmallWorlds$Notions"
  | 5 => .object "SmallWorlds$Rows"
  | 6 => .object "SmallWorlds$Rounds"
  | _ => .array .int
theorem nmX8 : ∀ a, a < 8 → ∀ b, b < 8 → a ≠ b → (TX8 a).2.1 ≠ (TX8 b).2.1 := by decide +kernel
theorem tyX8_ok : ∀ k, k < 8 → parseFieldDescriptor (TX8 k).2.2.1 = some (tyX8 k) := by decide +kernel
abbrev cX8_init : ByteArray := prog_1_method_1_code
def yX8_init : MethodName := ⟨RX8, "<init>", "()V"⟩
abbrev cX8_put : ByteArray := prog_1_method_2_code
def yX8_put : MethodName := ⟨RX8, "put", "(II)I"⟩
abbrev cX8_part : ByteArray := prog_1_method_3_code
def yX8_part : MethodName := ⟨RX8, "part", "(IZ)I"⟩
abbrev cX8_law : ByteArray := prog_1_method_4_code
def yX8_law : MethodName := ⟨RX8, "law", "(II)I"⟩
abbrev cX8_unlaw : ByteArray := prog_1_method_5_code
def yX8_unlaw : MethodName := ⟨RX8, "unlaw", "()I"⟩
abbrev cX8_worlds : ByteArray := prog_1_method_6_code
def yX8_worlds : MethodName := ⟨RX8, "worlds", "(IZ)I"⟩
abbrev cX8_number : ByteArray := prog_1_method_7_code
def yX8_number : MethodName := ⟨RX8, "number", "(II)I"⟩
abbrev cX8_keeps : ByteArray := prog_1_method_8_code
def yX8_keeps : MethodName := ⟨RX8, "keeps", "(II)I"⟩
abbrev cX8_breaks : ByteArray := prog_1_method_9_code
def yX8_breaks : MethodName := ⟨RX8, "breaks", "(II)I"⟩
abbrev cX8_plain : ByteArray := prog_1_method_10_code
def yX8_plain : MethodName := ⟨RX8, "plain", "(II)I"⟩
abbrev cX8_list : ByteArray := prog_1_method_11_code
def yX8_list : MethodName := ⟨RX8, "list", "(I)I"⟩
abbrev cX8_world : ByteArray := prog_1_method_12_code
def yX8_world : MethodName := ⟨RX8, "world", "(II)I"⟩
abbrev cX8_make : ByteArray := prog_1_method_13_code
def yX8_make : MethodName := ⟨RX8, "make", "(III)I"⟩
abbrev cX8_yes : ByteArray := prog_1_method_14_code
def yX8_yes : MethodName := ⟨RX8, "yes", "(IIII)I"⟩
abbrev cX8_many : ByteArray := prog_1_method_15_code
def yX8_many : MethodName := ⟨RX8, "many", "(I)I"⟩
abbrev cX8_twin : ByteArray := prog_1_method_16_code
def yX8_twin : MethodName := ⟨RX8, "twin", "(I)I"⟩
abbrev cX8_butFor : ByteArray := prog_1_method_17_code
def yX8_butFor : MethodName := ⟨RX8, "butFor", "(II)I"⟩
abbrev cX8_look : ByteArray := prog_1_method_18_code
def yX8_look : MethodName := ⟨RX8, "look", "(III)I"⟩
abbrev cX8_never : ByteArray := prog_1_method_19_code
def yX8_never : MethodName := ⟨RX8, "never", "(II)I"⟩
abbrev cX8_deny : ByteArray := prog_1_method_20_code
def yX8_deny : MethodName := ⟨RX8, "deny", "(II)I"⟩
abbrev cX8_weigh : ByteArray := prog_1_method_21_code
def yX8_weigh : MethodName := ⟨RX8, "weigh", "(II)I"⟩
abbrev cX8_wake : ByteArray := prog_1_method_22_code
def yX8_wake : MethodName := ⟨RX8, "wake", "(IZ)I"⟩
abbrev cX8_worth : ByteArray := prog_1_method_23_code
def yX8_worth : MethodName := ⟨RX8, "worth", "(II)I"⟩
abbrev cX8_best : ByteArray := prog_1_method_24_code
def yX8_best : MethodName := ⟨RX8, "best", "()I"⟩
abbrev cX8_next : ByteArray := prog_1_method_25_code
def yX8_next : MethodName := ⟨RX8, "next", "()I"⟩
abbrev cX8_makeNext : ByteArray := prog_1_method_26_code
def yX8_makeNext : MethodName := ⟨RX8, "makeNext", "()I"⟩
abbrev cX8_needed : ByteArray := prog_1_method_27_code
def yX8_needed : MethodName := ⟨RX8, "needed", "(I)I"⟩
abbrev cX8_least : ByteArray := prog_1_method_28_code
def yX8_least : MethodName := ⟨RX8, "least", "()I"⟩
abbrev cX8_even : ByteArray := prog_1_method_29_code
def yX8_even : MethodName := ⟨RX8, "even", "()I"⟩
abbrev cX8_keep : ByteArray := prog_1_method_30_code
def yX8_keep : MethodName := ⟨RX8, "keep", "(I)I"⟩
abbrev cX8_same : ByteArray := prog_1_method_31_code
def yX8_same : MethodName := ⟨RX8, "same", "(I)I"⟩
abbrev cX8_shown : ByteArray := prog_1_method_32_code
def yX8_shown : MethodName := ⟨RX8, "shown", "(II)I"⟩
abbrev cX8_groups : ByteArray := prog_1_method_33_code
def yX8_groups : MethodName := ⟨RX8, "groups", "()I"⟩
abbrev cX8_first : ByteArray := prog_1_method_34_code
def yX8_first : MethodName := ⟨RX8, "first", "(I)I"⟩
abbrev cX8_count : ByteArray := prog_1_method_35_code
def yX8_count : MethodName := ⟨RX8, "count", "(I)I"⟩
abbrev cX8_isSize : ByteArray := prog_1_method_36_code
def yX8_isSize : MethodName := ⟨RX8, "isSize", "(I)Z"⟩
abbrev cX8_isWorld : ByteArray := prog_1_method_37_code
def yX8_isWorld : MethodName := ⟨RX8, "isWorld", "(II)Z"⟩
abbrev cX8_isSlot : ByteArray := prog_1_method_38_code
def yX8_isSlot : MethodName := ⟨RX8, "isSlot", "(I)Z"⟩
abbrev cX8_isMadeOf : ByteArray := prog_1_method_39_code
def yX8_isMadeOf : MethodName := ⟨RX8, "isMadeOf", "(II)Z"⟩
abbrev cX8_pageChanged : ByteArray := prog_1_method_40_code
def yX8_pageChanged : MethodName := ⟨RX8, "pageChanged", "()V"⟩
abbrev cX8_settle : ByteArray := prog_1_method_41_code
def yX8_settle : MethodName := ⟨RX8, "settle", "()V"⟩
abbrev cX8_firstBroken : ByteArray := prog_1_method_42_code
def yX8_firstBroken : MethodName := ⟨RX8, "firstBroken", "(II)I"⟩
abbrev cX8_worthOf : ByteArray := prog_1_method_43_code
def yX8_worthOf : MethodName := ⟨RX8, "worthOf", "(I)I"⟩
def RX9 : String := "SmallWorldsModel"
def TX9 : u_T := fun k => match k with
  | 0 => ("SmallWorldsModel", "terms", "I", false)
  | 1 => ("SmallWorldsModel", "first", "[I", true)
  | 2 => ("SmallWorldsModel", "second", "[I", true)
  | 3 => ("SmallWorldsModel", "joined", "[I", true)
  | 4 => ("SmallWorldsModel", "laws", "I", false)
  | 5 => ("SmallWorldsModel", "lawA", "[I", true)
  | 6 => ("SmallWorldsModel", "lawB", "[I", true)
  | 7 => ("SmallWorldsModel", "isLaid", "Z", false)
  | 8 => ("SmallWorldsModel", "size", "I", false)
  | 9 => ("SmallWorldsModel", "table", "[I", true)
  | 10 => ("SmallWorldsModel", "value", "[I", true)
  | 11 => ("SmallWorldsModel", "isWanted", "[Z", true)
  | 12 => ("SmallWorldsModel", "broken", "[I", true)
  | 13 => ("SmallWorldsModel", "other", "[I", true)
  | 14 => ("SmallWorldsModel", "names", "[I", true)
  | 15 => ("SmallWorldsModel", "listed", "I", false)
  | 16 => ("SmallWorldsModel", "listedAt", "[I", true)
  | 17 => ("SmallWorldsModel", "pairsAt", "[I", true)
  | 18 => ("SmallWorldsModel", "notions", "I", false)
  | 19 => ("SmallWorldsModel", "way", "[I", true)
  | 20 => ("SmallWorldsModel", "partA", "[I", true)
  | 21 => ("SmallWorldsModel", "partB", "[I", true)
  | 22 => ("SmallWorldsModel", "isAsleep", "[Z", true)
  | 23 => ("SmallWorldsModel", "here", "[Z", true)
  | 24 => ("SmallWorldsModel", "rows", "[Z", true)
  | 25 => ("SmallWorldsModel", "rowsLaid", "I", false)
  | 26 => ("SmallWorldsModel", "parts", "[I", true)
  | 27 => ("SmallWorldsModel", "deep", "[I", true)
  | 28 => ("SmallWorldsModel", "slotLaws", "[I", true)
  | 29 => ("SmallWorldsModel", "slotA", "[I", true)
  | 30 => ("SmallWorldsModel", "slotB", "[I", true)
  | 31 => ("SmallWorldsModel", "pageA", "[I", true)
  | 32 => ("SmallWorldsModel", "pageB", "[I", true)
  | 33 => ("SmallWorldsModel", "round", "[I", true)
  | 34 => ("SmallWorldsModel", "group", "[I", true)
  | 35 => ("SmallWorldsModel", "image", "[I", true)
  | 36 => ("SmallWorldsModel", "now", "[Z", true)
  | _ => ("SmallWorldsModel", "roundCount", "I", false)
def tyX9 : Nat → FieldType := fun k => match k with
  | 0 => .int
  | 1 => .array .int
  | 2 => .array .int
  | 3 => .array .int
  | 4 => .int
  | 5 => .array .int
  | 6 => .array .int
  | 7 => .boolean
  | 8 => .int
  | 9 => .array .int
  | 10 => .array .int
  | 11 => .array .boolean
  | 12 => .array .int
  | 13 => .array .int
  | 14 => .array .int
  | 15 => .int
  | 16 => .array .int
  | 17 => .array .int
  | 18 => .int
  | 19 => .array .int
  | 20 => .array .int
  | 21 => .array .int
  | 22 => .array .boolean
  | 23 => .array .boolean
  | 24 => .array .boolean
  | 25 => .int
  | 26 => .array .int
  | 27 => .array .int
  | 28 => .array .int
  | 29 => .array .int
  | 30 => .array .int
  | 31 => .array .int
  | 32 => .array .int
  | 33 => .array .int
  | 34 => .array .int
  | 35 => .array .int
  | 36 => .array .boolean
  | _ => .int
theorem nmX9 : ∀ a, a < 38 → ∀ b, b < 38 → a ≠ b → (TX9 a).2.1 ≠ (TX9 b).2.1 := by decide +kernel
theorem tyX9_ok : ∀ k, k < 38 → parseFieldDescriptor (TX9 k).2.2.1 = some (tyX9 k) := by decide +kernel
abbrev cX9_init : ByteArray := prog_11_method_1_code
def yX9_init : MethodName := ⟨RX9, "<init>", "()V"⟩
abbrev cX9_in : ByteArray := prog_11_method_3_code
def yX9_in : MethodName := ⟨RX9, "in", "(JJJ)Z"⟩
abbrev cX9_isTerm : ByteArray := prog_11_method_4_code
def yX9_isTerm : MethodName := ⟨RX9, "isTerm", "(I)Z"⟩
abbrev cX9_put : ByteArray := prog_11_method_5_code
def yX9_put : MethodName := ⟨RX9, "put", "(II)I"⟩
abbrev cX9_part : ByteArray := prog_11_method_6_code
def yX9_part : MethodName := ⟨RX9, "part", "(IZ)I"⟩
abbrev cX9_law : ByteArray := prog_11_method_7_code
def yX9_law : MethodName := ⟨RX9, "law", "(II)I"⟩
abbrev cX9_unlaw : ByteArray := prog_11_method_8_code
def yX9_unlaw : MethodName := ⟨RX9, "unlaw", "()I"⟩
abbrev cX9_baseOf : ByteArray := prog_11_method_9_code
def yX9_baseOf : MethodName := ⟨RX9, "baseOf", "(I)I"⟩
abbrev cX9_countOf : ByteArray := prog_11_method_10_code
def yX9_countOf : MethodName := ⟨RX9, "countOf", "(I)I"⟩
abbrev cX9_sizeAt : ByteArray := prog_11_method_11_code
def yX9_sizeAt : MethodName := ⟨RX9, "sizeAt", "(I)I"⟩
abbrev cX9_layWorld : ByteArray := prog_11_method_12_code
def yX9_layWorld : MethodName := ⟨RX9, "layWorld", "(I)V"⟩
abbrev cX9_want : ByteArray := prog_11_method_13_code
def yX9_want : MethodName := ⟨RX9, "want", "(II)V"⟩
abbrev cX9_isSame : ByteArray := prog_11_method_14_code
def yX9_isSame : MethodName := ⟨RX9, "isSame", "(IIIII)Z"⟩
abbrev cX9_keepsOne : ByteArray := prog_11_method_15_code
def yX9_keepsOne : MethodName := ⟨RX9, "keepsOne", "(II)Z"⟩
abbrev cX9_layBroken : ByteArray := prog_11_method_16_code
def yX9_layBroken : MethodName := ⟨RX9, "layBroken", "([I[I[II)V"⟩
abbrev cX9_renamed : ByteArray := prog_11_method_17_code
def yX9_renamed : MethodName := ⟨RX9, "renamed", "(I)I"⟩
abbrev cX9_oldName : ByteArray := prog_11_method_18_code
def yX9_oldName : MethodName := ⟨RX9, "oldName", "(I)I"⟩
abbrev cX9_leastName : ByteArray := prog_11_method_19_code
def yX9_leastName : MethodName := ⟨RX9, "leastName", "()I"⟩
abbrev cX9_layAll : ByteArray := prog_11_method_20_code
def yX9_layAll : MethodName := ⟨RX9, "layAll", "()V"⟩
abbrev cX9_isSize : ByteArray := prog_11_method_21_code
def yX9_isSize : MethodName := ⟨RX9, "isSize", "(I)Z"⟩
abbrev cX9_isWorldOf : ByteArray := prog_11_method_22_code
def yX9_isWorldOf : MethodName := ⟨RX9, "isWorldOf", "(II)Z"⟩
abbrev cX9_worlds : ByteArray := prog_11_method_23_code
def yX9_worlds : MethodName := ⟨RX9, "worlds", "(IZ)I"⟩
abbrev cX9_number : ByteArray := prog_11_method_24_code
def yX9_number : MethodName := ⟨RX9, "number", "(II)I"⟩
abbrev cX9_keeps : ByteArray := prog_11_method_25_code
def yX9_keeps : MethodName := ⟨RX9, "keeps", "(II)I"⟩
abbrev cX9_breaks : ByteArray := prog_11_method_26_code
def yX9_breaks : MethodName := ⟨RX9, "breaks", "(II)I"⟩
abbrev cX9_plain : ByteArray := prog_11_method_27_code
def yX9_plain : MethodName := ⟨RX9, "plain", "(II)I"⟩
abbrev cX9_onList : ByteArray := prog_11_method_28_code
def yX9_onList : MethodName := ⟨RX9, "onList", "()I"⟩
abbrev cX9_pairs : ByteArray := prog_11_method_29_code
def yX9_pairs : MethodName := ⟨RX9, "pairs", "()I"⟩
abbrev cX9_list : ByteArray := prog_11_method_30_code
def yX9_list : MethodName := ⟨RX9, "list", "(I)I"⟩
abbrev cX9_world : ByteArray := prog_11_method_31_code
def yX9_world : MethodName := ⟨RX9, "world", "(II)I"⟩
abbrev cX9_isNotion : ByteArray := prog_11_method_32_code
def yX9_isNotion : MethodName := ⟨RX9, "isNotion", "(I)Z"⟩
abbrev cX9_make : ByteArray := prog_11_method_33_code
def yX9_make : MethodName := ⟨RX9, "make", "(III)I"⟩
abbrev cX9_set : ByteArray := prog_11_method_34_code
def yX9_set : MethodName := ⟨RX9, "set", "(IIII)V"⟩
abbrev cX9_isSo : ByteArray := prog_11_method_35_code
def yX9_isSo : MethodName := ⟨RX9, "isSo", "(III)Z"⟩
abbrev cX9_layHere : ByteArray := prog_11_method_36_code
def yX9_layHere : MethodName := ⟨RX9, "layHere", "(I)V"⟩
abbrev cX9_layRows : ByteArray := prog_11_method_37_code
def yX9_layRows : MethodName := ⟨RX9, "layRows", "()V"⟩
abbrev cX9_yes : ByteArray := prog_11_method_38_code
def yX9_yes : MethodName := ⟨RX9, "yes", "(IIII)I"⟩
abbrev cX9_manyOf : ByteArray := prog_11_method_39_code
def yX9_manyOf : MethodName := ⟨RX9, "manyOf", "(I)I"⟩
abbrev cX9_butForOf : ByteArray := prog_11_method_40_code
def yX9_butForOf : MethodName := ⟨RX9, "butForOf", "(II)I"⟩
abbrev cX9_agrees : ByteArray := prog_11_method_41_code
def yX9_agrees : MethodName := ⟨RX9, "agrees", "(II)Z"⟩
abbrev cX9_many : ByteArray := prog_11_method_42_code
def yX9_many : MethodName := ⟨RX9, "many", "(I)I"⟩
abbrev cX9_twin : ByteArray := prog_11_method_43_code
def yX9_twin : MethodName := ⟨RX9, "twin", "(I)I"⟩
abbrev cX9_butFor : ByteArray := prog_11_method_44_code
def yX9_butFor : MethodName := ⟨RX9, "butFor", "(II)I"⟩
abbrev cX9_look : ByteArray := prog_11_method_45_code
def yX9_look : MethodName := ⟨RX9, "look", "(III)I"⟩
abbrev cX9_never : ByteArray := prog_11_method_46_code
def yX9_never : MethodName := ⟨RX9, "never", "(II)I"⟩
abbrev cX9_deny : ByteArray := prog_11_method_47_code
def yX9_deny : MethodName := ⟨RX9, "deny", "(II)I"⟩
abbrev cX9_weigh : ByteArray := prog_11_method_48_code
def yX9_weigh : MethodName := ⟨RX9, "weigh", "(II)I"⟩
abbrev cX9_wake : ByteArray := prog_11_method_49_code
def yX9_wake : MethodName := ⟨RX9, "wake", "(IZ)I"⟩
abbrev cX9_rareOf : ByteArray := prog_11_method_50_code
def yX9_rareOf : MethodName := ⟨RX9, "rareOf", "(I)I"⟩
abbrev cX9_servesOf : ByteArray := prog_11_method_51_code
def yX9_servesOf : MethodName := ⟨RX9, "servesOf", "(I)I"⟩
abbrev cX9_deepOf : ByteArray := prog_11_method_52_code
def yX9_deepOf : MethodName := ⟨RX9, "deepOf", "(I)I"⟩
abbrev cX9_worthOf : ByteArray := prog_11_method_53_code
def yX9_worthOf : MethodName := ⟨RX9, "worthOf", "(I)I"⟩
abbrev cX9_worth : ByteArray := prog_11_method_54_code
def yX9_worth : MethodName := ⟨RX9, "worth", "(II)I"⟩
abbrev cX9_best : ByteArray := prog_11_method_55_code
def yX9_best : MethodName := ⟨RX9, "best", "()I"⟩
abbrev cX9_layTried : ByteArray := prog_11_method_56_code
def yX9_layTried : MethodName := ⟨RX9, "layTried", "(III)V"⟩
abbrev cX9_nextCode : ByteArray := prog_11_method_57_code
def yX9_nextCode : MethodName := ⟨RX9, "nextCode", "()I"⟩
abbrev cX9_next : ByteArray := prog_11_method_58_code
def yX9_next : MethodName := ⟨RX9, "next", "()I"⟩
abbrev cX9_makeNext : ByteArray := prog_11_method_59_code
def yX9_makeNext : MethodName := ⟨RX9, "makeNext", "()I"⟩
abbrev cX9_isNeeded : ByteArray := prog_11_method_60_code
def yX9_isNeeded : MethodName := ⟨RX9, "isNeeded", "(II)Z"⟩
abbrev cX9_needed : ByteArray := prog_11_method_61_code
def yX9_needed : MethodName := ⟨RX9, "needed", "(I)I"⟩
abbrev cX9_least : ByteArray := prog_11_method_62_code
def yX9_least : MethodName := ⟨RX9, "least", "()I"⟩
abbrev cX9_turned : ByteArray := prog_11_method_63_code
def yX9_turned : MethodName := ⟨RX9, "turned", "(I)I"⟩
abbrev cX9_even : ByteArray := prog_11_method_64_code
def yX9_even : MethodName := ⟨RX9, "even", "()I"⟩
abbrev cX9_keep : ByteArray := prog_11_method_65_code
def yX9_keep : MethodName := ⟨RX9, "keep", "(I)I"⟩
abbrev cX9_same : ByteArray := prog_11_method_66_code
def yX9_same : MethodName := ⟨RX9, "same", "(I)I"⟩
abbrev cX9_layImage : ByteArray := prog_11_method_67_code
def yX9_layImage : MethodName := ⟨RX9, "layImage", "(III)V"⟩
abbrev cX9_layLaws : ByteArray := prog_11_method_68_code
def yX9_layLaws : MethodName := ⟨RX9, "layLaws", "()V"⟩
abbrev cX9_layParts : ByteArray := prog_11_method_69_code
def yX9_layParts : MethodName := ⟨RX9, "layParts", "()V"⟩
abbrev cX9_joinAll : ByteArray := prog_11_method_70_code
def yX9_joinAll : MethodName := ⟨RX9, "joinAll", "()V"⟩
abbrev cX9_layShown : ByteArray := prog_11_method_71_code
def yX9_layShown : MethodName := ⟨RX9, "layShown", "()V"⟩
abbrev cX9_shown : ByteArray := prog_11_method_72_code
def yX9_shown : MethodName := ⟨RX9, "shown", "(II)I"⟩
abbrev cX9_groups : ByteArray := prog_11_method_73_code
def yX9_groups : MethodName := ⟨RX9, "groups", "()I"⟩
abbrev cX9_first : ByteArray := prog_11_method_74_code
def yX9_first : MethodName := ⟨RX9, "first", "(I)I"⟩
abbrev cX9_count : ByteArray := prog_11_method_75_code
def yX9_count : MethodName := ⟨RX9, "count", "(I)I"⟩
def RJ6 : String := "java/lang/Integer"
def TJ6 : u_T := fun k => match k with
  | _ => ("", "", "", false)
def tyJ6 : Nat → FieldType := fun k => match k with
  | _ => .int
theorem nmJ6 : ∀ a, a < 0 → ∀ b, b < 0 → a ≠ b → (TJ6 a).2.1 ≠ (TJ6 b).2.1 := by decide +kernel
theorem tyJ6_ok : ∀ k, k < 0 → parseFieldDescriptor (TJ6 k).2.2.1 = some (tyJ6 k) := by decide +kernel
abbrev cJ6_bitCount_0f7a4 : ByteArray := prog_12_method_49_code
def yJ6_bitCount_0f7a4 : MethodName := ⟨RJ6, "bitCount", "(I)I"⟩
def RJ9 : String := "java/lang/Math"
def TJ9 : u_T := fun k => match k with
  | _ => ("", "", "", false)
def tyJ9 : Nat → FieldType := fun k => match k with
  | _ => .int
theorem nmJ9 : ∀ a, a < 0 → ∀ b, b < 0 → a ≠ b → (TJ9 a).2.1 ≠ (TJ9 b).2.1 := by decide +kernel
theorem tyJ9_ok : ∀ k, k < 0 → parseFieldDescriptor (TJ9 k).2.2.1 = some (tyJ9 k) := by decide +kernel
abbrev cJ9_max_7cf53 : ByteArray := prog_13_method_65_code
def yJ9_max_7cf53 : MethodName := ⟨RJ9, "max", "(II)I"⟩
abbrev cJ9_min_7cf53 : ByteArray := prog_13_method_69_code
def yJ9_min_7cf53 : MethodName := ⟨RJ9, "min", "(II)I"⟩
def RJ10 : String := "java/lang/System"
def TJ10 : u_T := fun k => match k with
  | _ => ("", "", "", false)
def tyJ10 : Nat → FieldType := fun k => match k with
  | _ => .int
theorem nmJ10 : ∀ a, a < 0 → ∀ b, b < 0 → a ≠ b → (TJ10 a).2.1 ≠ (TJ10 b).2.1 := by decide +kernel
theorem tyJ10_ok : ∀ k, k < 0 → parseFieldDescriptor (TJ10 k).2.2.1 = some (tyJ10 k) := by decide +kernel
def RJ7 : String := "java/util/Arrays"
def TJ7 : u_T := fun k => match k with
  | _ => ("", "", "", false)
def tyJ7 : Nat → FieldType := fun k => match k with
  | _ => .int
theorem nmJ7 : ∀ a, a < 0 → ∀ b, b < 0 → a ≠ b → (TJ7 a).2.1 ≠ (TJ7 b).2.1 := by decide +kernel
theorem tyJ7_ok : ∀ k, k < 0 → parseFieldDescriptor (TJ7 k).2.2.1 = some (tyJ7 k) := by decide +kernel
abbrev cJ7_fill_53178 : ByteArray := prog_15_method_103_code
def yJ7_fill_53178 : MethodName := ⟨RJ7, "fill", "([II)V"⟩
def RL : String := "SmallWorldsLaw"
abbrev cL_law : ByteArray := code
def yL_law : MethodName := ⟨RL, "law", "([I)Z"⟩
abbrev vwCl : List vw_C := [(RX1, TX1, 8), (RX2, TX2, 7), (RX3, TX3, 3), (RX4, TX4, 6), (RX5, TX5, 14), (RX6, TX6, 3), (RX7, TX7, 4), (RX8, TX8, 8), (RX9, TX9, 38)]
end
section
theorem dX0_whole_0 : decode cX0_whole 0 = .ok (.iconst 1, 1) := by decide +kernel
theorem dX0_whole_1 : decode cX0_whole 1 = .ok (.iload_n 0, 1) := by decide +kernel
theorem dX0_whole_2 : decode cX0_whole 2 = .ok (.iload_n 0, 1) := by decide +kernel
theorem dX0_whole_3 : decode cX0_whole 3 = .ok (.imul, 1) := by decide +kernel
theorem dX0_whole_4 : decode cX0_whole 4 = .ok (.ishl, 1) := by decide +kernel
theorem dX0_whole_5 : decode cX0_whole 5 = .ok (.iconst 1, 1) := by decide +kernel
theorem dX0_whole_6 : decode cX0_whole 6 = .ok (.isub, 1) := by decide +kernel
theorem dX0_whole_7 : decode cX0_whole 7 = .ok (.ireturn, 1) := by decide +kernel
theorem dX0_made_0 : decode cX0_made 0 = .ok (.iload_n 0, 1) := by decide +kernel
theorem dX0_made_1 : decode cX0_made 1 = .ok (.tableswitch 54 1 5 #[35, 44, 54, 54, 48], 35) := by decide +kernel
theorem dX0_made_36 : decode cX0_made 36 = .ok (.iload_n 2, 1) := by decide +kernel
theorem dX0_made_37 : decode cX0_made 37 = .ok (.iconst (-1), 1) := by decide +kernel
theorem dX0_made_38 : decode cX0_made 38 = .ok (.ixor, 1) := by decide +kernel
theorem dX0_made_39 : decode cX0_made 39 = .ok (.iload_n 1, 1) := by decide +kernel
theorem dX0_made_40 : decode cX0_made 40 = .ok (.invokestatic 7, 3) := by decide +kernel
theorem dX0_made_43 : decode cX0_made 43 = .ok (.iand, 1) := by decide +kernel
theorem dX0_made_44 : decode cX0_made 44 = .ok (.ireturn, 1) := by decide +kernel
theorem dX0_made_45 : decode cX0_made 45 = .ok (.iload_n 2, 1) := by decide +kernel
theorem dX0_made_46 : decode cX0_made 46 = .ok (.iload_n 3, 1) := by decide +kernel
theorem dX0_made_47 : decode cX0_made 47 = .ok (.iand, 1) := by decide +kernel
theorem dX0_made_48 : decode cX0_made 48 = .ok (.ireturn, 1) := by decide +kernel
theorem dX0_made_49 : decode cX0_made 49 = .ok (.iload_n 1, 1) := by decide +kernel
theorem dX0_made_50 : decode cX0_made 50 = .ok (.iload_n 2, 1) := by decide +kernel
theorem dX0_made_51 : decode cX0_made 51 = .ok (.invokestatic 13, 3) := by decide +kernel
theorem dX0_made_54 : decode cX0_made 54 = .ok (.ireturn, 1) := by decide +kernel
theorem dX0_made_55 : decode cX0_made 55 = .ok (.iload_n 0, 1) := by decide +kernel
theorem dX0_made_56 : decode cX0_made 56 = .ok (.iload_n 1, 1) := by decide +kernel
theorem dX0_made_57 : decode cX0_made 57 = .ok (.iload_n 2, 1) := by decide +kernel
theorem dX0_made_58 : decode cX0_made 58 = .ok (.invokestatic 17, 3) := by decide +kernel
theorem dX0_made_61 : decode cX0_made 61 = .ok (.ireturn, 1) := by decide +kernel
theorem dX0_turnedAbout_0 : decode cX0_turnedAbout 0 = .ok (.iconst 0, 1) := by decide +kernel
theorem dX0_turnedAbout_1 : decode cX0_turnedAbout 1 = .ok (.istore_n 2, 1) := by decide +kernel
theorem dX0_turnedAbout_2 : decode cX0_turnedAbout 2 = .ok (.iconst 0, 1) := by decide +kernel
theorem dX0_turnedAbout_3 : decode cX0_turnedAbout 3 = .ok (.istore_n 3, 1) := by decide +kernel
theorem dX0_turnedAbout_4 : decode cX0_turnedAbout 4 = .ok (.iload_n 3, 1) := by decide +kernel
theorem dX0_turnedAbout_5 : decode cX0_turnedAbout 5 = .ok (.iload_n 0, 1) := by decide +kernel
theorem dX0_turnedAbout_6 : decode cX0_turnedAbout 6 = .ok (.if_icmp .ge 44, 3) := by decide +kernel
theorem dX0_turnedAbout_9 : decode cX0_turnedAbout 9 = .ok (.iconst 0, 1) := by decide +kernel
theorem dX0_turnedAbout_10 : decode cX0_turnedAbout 10 = .ok (.istore 4, 2) := by decide +kernel
theorem dX0_turnedAbout_12 : decode cX0_turnedAbout 12 = .ok (.iload 4, 2) := by decide +kernel
theorem dX0_turnedAbout_14 : decode cX0_turnedAbout 14 = .ok (.iload_n 0, 1) := by decide +kernel
theorem dX0_turnedAbout_15 : decode cX0_turnedAbout 15 = .ok (.if_icmp .ge 29, 3) := by decide +kernel
theorem dX0_turnedAbout_18 : decode cX0_turnedAbout 18 = .ok (.iload_n 2, 1) := by decide +kernel
theorem dX0_turnedAbout_19 : decode cX0_turnedAbout 19 = .ok (.iload_n 1, 1) := by decide +kernel
theorem dX0_turnedAbout_20 : decode cX0_turnedAbout 20 = .ok (.iload 4, 2) := by decide +kernel
theorem dX0_turnedAbout_22 : decode cX0_turnedAbout 22 = .ok (.iload_n 0, 1) := by decide +kernel
theorem dX0_turnedAbout_23 : decode cX0_turnedAbout 23 = .ok (.imul, 1) := by decide +kernel
theorem dX0_turnedAbout_24 : decode cX0_turnedAbout 24 = .ok (.iload_n 3, 1) := by decide +kernel
theorem dX0_turnedAbout_25 : decode cX0_turnedAbout 25 = .ok (.iadd, 1) := by decide +kernel
theorem dX0_turnedAbout_26 : decode cX0_turnedAbout 26 = .ok (.ishr, 1) := by decide +kernel
theorem dX0_turnedAbout_27 : decode cX0_turnedAbout 27 = .ok (.iconst 1, 1) := by decide +kernel
theorem dX0_turnedAbout_28 : decode cX0_turnedAbout 28 = .ok (.iand, 1) := by decide +kernel
theorem dX0_turnedAbout_29 : decode cX0_turnedAbout 29 = .ok (.iload_n 3, 1) := by decide +kernel
theorem dX0_turnedAbout_30 : decode cX0_turnedAbout 30 = .ok (.iload_n 0, 1) := by decide +kernel
theorem dX0_turnedAbout_31 : decode cX0_turnedAbout 31 = .ok (.imul, 1) := by decide +kernel
theorem dX0_turnedAbout_32 : decode cX0_turnedAbout 32 = .ok (.iload 4, 2) := by decide +kernel
theorem dX0_turnedAbout_34 : decode cX0_turnedAbout 34 = .ok (.iadd, 1) := by decide +kernel
theorem dX0_turnedAbout_35 : decode cX0_turnedAbout 35 = .ok (.ishl, 1) := by decide +kernel
theorem dX0_turnedAbout_36 : decode cX0_turnedAbout 36 = .ok (.ior, 1) := by decide +kernel
theorem dX0_turnedAbout_37 : decode cX0_turnedAbout 37 = .ok (.istore_n 2, 1) := by decide +kernel
theorem dX0_turnedAbout_38 : decode cX0_turnedAbout 38 = .ok (.iinc 4 1, 3) := by decide +kernel
theorem dX0_turnedAbout_41 : decode cX0_turnedAbout 41 = .ok (.goto (-29), 3) := by decide +kernel
theorem dX0_turnedAbout_44 : decode cX0_turnedAbout 44 = .ok (.iinc 3 1, 3) := by decide +kernel
theorem dX0_turnedAbout_47 : decode cX0_turnedAbout 47 = .ok (.goto (-43), 3) := by decide +kernel
theorem dX0_turnedAbout_50 : decode cX0_turnedAbout 50 = .ok (.iload_n 2, 1) := by decide +kernel
theorem dX0_turnedAbout_51 : decode cX0_turnedAbout 51 = .ok (.ireturn, 1) := by decide +kernel
theorem dX0_byLines_0 : decode cX0_byLines 0 = .ok (.iconst 1, 1) := by decide +kernel
theorem dX0_byLines_1 : decode cX0_byLines 1 = .ok (.iload_n 1, 1) := by decide +kernel
theorem dX0_byLines_2 : decode cX0_byLines 2 = .ok (.ishl, 1) := by decide +kernel
theorem dX0_byLines_3 : decode cX0_byLines 3 = .ok (.iconst 1, 1) := by decide +kernel
theorem dX0_byLines_4 : decode cX0_byLines 4 = .ok (.isub, 1) := by decide +kernel
theorem dX0_byLines_5 : decode cX0_byLines 5 = .ok (.istore_n 3, 1) := by decide +kernel
theorem dX0_byLines_6 : decode cX0_byLines 6 = .ok (.iconst 0, 1) := by decide +kernel
theorem dX0_byLines_7 : decode cX0_byLines 7 = .ok (.istore 4, 2) := by decide +kernel
theorem dX0_byLines_9 : decode cX0_byLines 9 = .ok (.iconst 0, 1) := by decide +kernel
theorem dX0_byLines_10 : decode cX0_byLines 10 = .ok (.istore 5, 2) := by decide +kernel
theorem dX0_byLines_12 : decode cX0_byLines 12 = .ok (.iload 5, 2) := by decide +kernel
theorem dX0_byLines_14 : decode cX0_byLines 14 = .ok (.iload_n 1, 1) := by decide +kernel
theorem dX0_byLines_15 : decode cX0_byLines 15 = .ok (.if_icmp .ge 89, 3) := by decide +kernel
theorem dX0_byLines_18 : decode cX0_byLines 18 = .ok (.iload_n 2, 1) := by decide +kernel
theorem dX0_byLines_19 : decode cX0_byLines 19 = .ok (.iload 5, 2) := by decide +kernel
theorem dX0_byLines_21 : decode cX0_byLines 21 = .ok (.iload_n 1, 1) := by decide +kernel
theorem dX0_byLines_22 : decode cX0_byLines 22 = .ok (.imul, 1) := by decide +kernel
theorem dX0_byLines_23 : decode cX0_byLines 23 = .ok (.ishr, 1) := by decide +kernel
theorem dX0_byLines_24 : decode cX0_byLines 24 = .ok (.iload_n 3, 1) := by decide +kernel
theorem dX0_byLines_25 : decode cX0_byLines 25 = .ok (.iand, 1) := by decide +kernel
theorem dX0_byLines_26 : decode cX0_byLines 26 = .ok (.istore 6, 2) := by decide +kernel
theorem dX0_byLines_28 : decode cX0_byLines 28 = .ok (.iload_n 0, 1) := by decide +kernel
theorem dX0_byLines_29 : decode cX0_byLines 29 = .ok (.iconst 3, 1) := by decide +kernel
theorem dX0_byLines_30 : decode cX0_byLines 30 = .ok (.if_icmp .ne 17, 3) := by decide +kernel
theorem dX0_byLines_33 : decode cX0_byLines 33 = .ok (.iload 6, 2) := by decide +kernel
theorem dX0_byLines_35 : decode cX0_byLines 35 = .ok (.iload_n 3, 1) := by decide +kernel
theorem dX0_byLines_36 : decode cX0_byLines 36 = .ok (.if_icmp .ne 7, 3) := by decide +kernel
theorem dX0_byLines_39 : decode cX0_byLines 39 = .ok (.iconst 1, 1) := by decide +kernel
theorem dX0_byLines_40 : decode cX0_byLines 40 = .ok (.goto 40, 3) := by decide +kernel
theorem dX0_byLines_43 : decode cX0_byLines 43 = .ok (.iconst 0, 1) := by decide +kernel
theorem dX0_byLines_44 : decode cX0_byLines 44 = .ok (.goto 36, 3) := by decide +kernel
theorem dX0_byLines_47 : decode cX0_byLines 47 = .ok (.iload_n 0, 1) := by decide +kernel
theorem dX0_byLines_48 : decode cX0_byLines 48 = .ok (.iconst 4, 1) := by decide +kernel
theorem dX0_byLines_49 : decode cX0_byLines 49 = .ok (.if_icmp .ne 16, 3) := by decide +kernel
theorem dX0_byLines_52 : decode cX0_byLines 52 = .ok (.iload 6, 2) := by decide +kernel
theorem dX0_byLines_54 : decode cX0_byLines 54 = .ok (.ifCond .eq 7, 3) := by decide +kernel
theorem dX0_byLines_57 : decode cX0_byLines 57 = .ok (.iconst 1, 1) := by decide +kernel
theorem dX0_byLines_58 : decode cX0_byLines 58 = .ok (.goto 22, 3) := by decide +kernel
theorem dX0_byLines_61 : decode cX0_byLines 61 = .ok (.iconst 0, 1) := by decide +kernel
theorem dX0_byLines_62 : decode cX0_byLines 62 = .ok (.goto 18, 3) := by decide +kernel
theorem dX0_byLines_65 : decode cX0_byLines 65 = .ok (.iload 6, 2) := by decide +kernel
theorem dX0_byLines_67 : decode cX0_byLines 67 = .ok (.iload 5, 2) := by decide +kernel
theorem dX0_byLines_69 : decode cX0_byLines 69 = .ok (.ishr, 1) := by decide +kernel
theorem dX0_byLines_70 : decode cX0_byLines 70 = .ok (.iconst 1, 1) := by decide +kernel
theorem dX0_byLines_71 : decode cX0_byLines 71 = .ok (.iand, 1) := by decide +kernel
theorem dX0_byLines_72 : decode cX0_byLines 72 = .ok (.ifCond .eq 7, 3) := by decide +kernel
theorem dX0_byLines_75 : decode cX0_byLines 75 = .ok (.iconst 1, 1) := by decide +kernel
theorem dX0_byLines_76 : decode cX0_byLines 76 = .ok (.goto 4, 3) := by decide +kernel
theorem dX0_byLines_79 : decode cX0_byLines 79 = .ok (.iconst 0, 1) := by decide +kernel
theorem dX0_byLines_80 : decode cX0_byLines 80 = .ok (.istore 7, 2) := by decide +kernel
theorem dX0_byLines_82 : decode cX0_byLines 82 = .ok (.iload 7, 2) := by decide +kernel
theorem dX0_byLines_84 : decode cX0_byLines 84 = .ok (.ifCond .eq 14, 3) := by decide +kernel
theorem dX0_byLines_87 : decode cX0_byLines 87 = .ok (.iload 4, 2) := by decide +kernel
theorem dX0_byLines_89 : decode cX0_byLines 89 = .ok (.iload_n 3, 1) := by decide +kernel
theorem dX0_byLines_90 : decode cX0_byLines 90 = .ok (.iload 5, 2) := by decide +kernel
theorem dX0_byLines_92 : decode cX0_byLines 92 = .ok (.iload_n 1, 1) := by decide +kernel
theorem dX0_byLines_93 : decode cX0_byLines 93 = .ok (.imul, 1) := by decide +kernel
theorem dX0_byLines_94 : decode cX0_byLines 94 = .ok (.ishl, 1) := by decide +kernel
theorem dX0_byLines_95 : decode cX0_byLines 95 = .ok (.ior, 1) := by decide +kernel
theorem dX0_byLines_96 : decode cX0_byLines 96 = .ok (.istore 4, 2) := by decide +kernel
theorem dX0_byLines_98 : decode cX0_byLines 98 = .ok (.iinc 5 1, 3) := by decide +kernel
theorem dX0_byLines_101 : decode cX0_byLines 101 = .ok (.goto (-89), 3) := by decide +kernel
theorem dX0_byLines_104 : decode cX0_byLines 104 = .ok (.iload 4, 2) := by decide +kernel
theorem dX0_byLines_106 : decode cX0_byLines 106 = .ok (.ireturn, 1) := by decide +kernel
theorem dX1_init_0 : decode cX1_init 0 = .ok (.aload_n 0, 1) := by decide +kernel
theorem dX1_init_1 : decode cX1_init 1 = .ok (.invokespecial 3, 3) := by decide +kernel
theorem dX1_init_4 : decode cX1_init 4 = .ok (.aload_n 0, 1) := by decide +kernel
theorem dX1_init_5 : decode cX1_init 5 = .ok (.sipush 3341, 3) := by decide +kernel
theorem dX1_init_8 : decode cX1_init 8 = .ok (.newarray .int, 2) := by decide +kernel
theorem dX1_init_10 : decode cX1_init 10 = .ok (.putfield 11, 3) := by decide +kernel
theorem dX1_init_13 : decode cX1_init 13 = .ok (.aload_n 0, 1) := by decide +kernel
theorem dX1_init_14 : decode cX1_init 14 = .ok (.sipush 3341, 3) := by decide +kernel
theorem dX1_init_17 : decode cX1_init 17 = .ok (.newarray .int, 2) := by decide +kernel
theorem dX1_init_19 : decode cX1_init 19 = .ok (.putfield 15, 3) := by decide +kernel
theorem dX1_init_22 : decode cX1_init 22 = .ok (.aload_n 0, 1) := by decide +kernel
theorem dX1_init_23 : decode cX1_init 23 = .ok (.sipush 3341, 3) := by decide +kernel
theorem dX1_init_26 : decode cX1_init 26 = .ok (.newarray .int, 2) := by decide +kernel
theorem dX1_init_28 : decode cX1_init 28 = .ok (.putfield 18, 3) := by decide +kernel
theorem dX1_init_31 : decode cX1_init 31 = .ok (.aload_n 0, 1) := by decide +kernel
theorem dX1_init_32 : decode cX1_init 32 = .ok (.sipush 3341, 3) := by decide +kernel
theorem dX1_init_35 : decode cX1_init 35 = .ok (.newarray .int, 2) := by decide +kernel
theorem dX1_init_37 : decode cX1_init 37 = .ok (.putfield 21, 3) := by decide +kernel
theorem dX1_init_40 : decode cX1_init 40 = .ok (.aload_n 0, 1) := by decide +kernel
theorem dX1_init_41 : decode cX1_init 41 = .ok (.iconst 0, 1) := by decide +kernel
theorem dX1_init_42 : decode cX1_init 42 = .ok (.putfield 24, 3) := by decide +kernel
theorem dX1_init_45 : decode cX1_init 45 = .ok (.aload_n 0, 1) := by decide +kernel
theorem dX1_init_46 : decode cX1_init 46 = .ok (.iconst 0, 1) := by decide +kernel
theorem dX1_init_47 : decode cX1_init 47 = .ok (.putfield 28, 3) := by decide +kernel
theorem dX1_init_50 : decode cX1_init 50 = .ok (.aload_n 0, 1) := by decide +kernel
theorem dX1_init_51 : decode cX1_init 51 = .ok (.iconst 0, 1) := by decide +kernel
theorem dX1_init_52 : decode cX1_init 52 = .ok (.putfield 31, 3) := by decide +kernel
theorem dX1_init_55 : decode cX1_init 55 = .ok (.aload_n 0, 1) := by decide +kernel
theorem dX1_init_56 : decode cX1_init 56 = .ok (.aload_n 1, 1) := by decide +kernel
theorem dX1_init_57 : decode cX1_init 57 = .ok (.putfield 35, 3) := by decide +kernel
theorem dX1_init_60 : decode cX1_init 60 = .ok (.aload_n 0, 1) := by decide +kernel
theorem dX1_init_61 : decode cX1_init 61 = .ok (.getfield 21, 3) := by decide +kernel
theorem dX1_init_64 : decode cX1_init 64 = .ok (.iconst 0, 1) := by decide +kernel
theorem dX1_init_65 : decode cX1_init 65 = .ok (.invokestatic 39, 3) := by decide +kernel
theorem dX1_init_68 : decode cX1_init 68 = .ok (.iconst 1, 1) := by decide +kernel
theorem dX1_init_69 : decode cX1_init 69 = .ok (.invokestatic 39, 3) := by decide +kernel
theorem dX1_init_72 : decode cX1_init 72 = .ok (.ior, 1) := by decide +kernel
theorem dX1_init_73 : decode cX1_init 73 = .ok (.invokestatic 43, 3) := by decide +kernel
theorem dX1_init_76 : decode cX1_init 76 = .ok (.return_, 1) := by decide +kernel
theorem dX1_slotBit_0 : decode cX1_slotBit 0 = .ok (.iconst 1, 1) := by decide +kernel
theorem dX1_slotBit_1 : decode cX1_slotBit 1 = .ok (.bipush 6, 2) := by decide +kernel
theorem dX1_slotBit_3 : decode cX1_slotBit 3 = .ok (.iload_n 0, 1) := by decide +kernel
theorem dX1_slotBit_4 : decode cX1_slotBit 4 = .ok (.iadd, 1) := by decide +kernel
theorem dX1_slotBit_5 : decode cX1_slotBit 5 = .ok (.ishl, 1) := by decide +kernel
theorem dX1_slotBit_6 : decode cX1_slotBit 6 = .ok (.ireturn, 1) := by decide +kernel
theorem dX1_sizeOf_0 : decode cX1_sizeOf 0 = .ok (.iload_n 1, 1) := by decide +kernel
theorem dX1_sizeOf_1 : decode cX1_sizeOf 1 = .ok (.getstatic 51, 3) := by decide +kernel
theorem dX1_sizeOf_4 : decode cX1_sizeOf 4 = .ok (.iconst 2, 1) := by decide +kernel
theorem dX1_sizeOf_5 : decode cX1_sizeOf 5 = .ok (.iaload, 1) := by decide +kernel
theorem dX1_sizeOf_6 : decode cX1_sizeOf 6 = .ok (.if_icmp .ge 7, 3) := by decide +kernel
theorem dX1_sizeOf_9 : decode cX1_sizeOf 9 = .ok (.iconst 1, 1) := by decide +kernel
theorem dX1_sizeOf_10 : decode cX1_sizeOf 10 = .ok (.goto 17, 3) := by decide +kernel
theorem dX1_sizeOf_13 : decode cX1_sizeOf 13 = .ok (.iload_n 1, 1) := by decide +kernel
theorem dX1_sizeOf_14 : decode cX1_sizeOf 14 = .ok (.getstatic 51, 3) := by decide +kernel
theorem dX1_sizeOf_17 : decode cX1_sizeOf 17 = .ok (.iconst 3, 1) := by decide +kernel
theorem dX1_sizeOf_18 : decode cX1_sizeOf 18 = .ok (.iaload, 1) := by decide +kernel
theorem dX1_sizeOf_19 : decode cX1_sizeOf 19 = .ok (.if_icmp .ge 7, 3) := by decide +kernel
theorem dX1_sizeOf_22 : decode cX1_sizeOf 22 = .ok (.iconst 2, 1) := by decide +kernel
theorem dX1_sizeOf_23 : decode cX1_sizeOf 23 = .ok (.goto 4, 3) := by decide +kernel
theorem dX1_sizeOf_26 : decode cX1_sizeOf 26 = .ok (.iconst 3, 1) := by decide +kernel
theorem dX1_sizeOf_27 : decode cX1_sizeOf 27 = .ok (.ireturn, 1) := by decide +kernel
theorem dX1_fill_0 : decode cX1_fill 0 = .ok (.iconst 0, 1) := by decide +kernel
theorem dX1_fill_1 : decode cX1_fill 1 = .ok (.istore_n 1, 1) := by decide +kernel
theorem dX1_fill_2 : decode cX1_fill 2 = .ok (.iconst 1, 1) := by decide +kernel
theorem dX1_fill_3 : decode cX1_fill 3 = .ok (.istore_n 2, 1) := by decide +kernel
theorem dX1_fill_4 : decode cX1_fill 4 = .ok (.iload_n 2, 1) := by decide +kernel
theorem dX1_fill_5 : decode cX1_fill 5 = .ok (.iconst 3, 1) := by decide +kernel
theorem dX1_fill_6 : decode cX1_fill 6 = .ok (.if_icmp .gt 81, 3) := by decide +kernel
theorem dX1_fill_9 : decode cX1_fill 9 = .ok (.aload_n 0, 1) := by decide +kernel
theorem dX1_fill_10 : decode cX1_fill 10 = .ok (.getfield 35, 3) := by decide +kernel
theorem dX1_fill_13 : decode cX1_fill 13 = .ok (.iload_n 2, 1) := by decide +kernel
theorem dX1_fill_14 : decode cX1_fill 14 = .ok (.iconst 0, 1) := by decide +kernel
theorem dX1_fill_15 : decode cX1_fill 15 = .ok (.invokevirtual 54, 3) := by decide +kernel
theorem dX1_fill_18 : decode cX1_fill 18 = .ok (.iconst 0, 1) := by decide +kernel
theorem dX1_fill_19 : decode cX1_fill 19 = .ok (.istore_n 3, 1) := by decide +kernel
theorem dX1_fill_20 : decode cX1_fill 20 = .ok (.iload_n 3, 1) := by decide +kernel
theorem dX1_fill_21 : decode cX1_fill 21 = .ok (.getstatic 60, 3) := by decide +kernel
theorem dX1_fill_24 : decode cX1_fill 24 = .ok (.iload_n 2, 1) := by decide +kernel
theorem dX1_fill_25 : decode cX1_fill 25 = .ok (.iaload, 1) := by decide +kernel
theorem dX1_fill_26 : decode cX1_fill 26 = .ok (.if_icmp .ge 55, 3) := by decide +kernel
theorem dX1_fill_29 : decode cX1_fill 29 = .ok (.iload_n 1, 1) := by decide +kernel
theorem dX1_fill_30 : decode cX1_fill 30 = .ok (.sipush 3341, 3) := by decide +kernel
theorem dX1_fill_33 : decode cX1_fill 33 = .ok (.if_icmp .ge 48, 3) := by decide +kernel
theorem dX1_fill_36 : decode cX1_fill 36 = .ok (.aload_n 0, 1) := by decide +kernel
theorem dX1_fill_37 : decode cX1_fill 37 = .ok (.getfield 35, 3) := by decide +kernel
theorem dX1_fill_40 : decode cX1_fill 40 = .ok (.invokevirtual 63, 3) := by decide +kernel
theorem dX1_fill_43 : decode cX1_fill 43 = .ok (.istore 4, 2) := by decide +kernel
theorem dX1_fill_45 : decode cX1_fill 45 = .ok (.iload 4, 2) := by decide +kernel
theorem dX1_fill_47 : decode cX1_fill 47 = .ok (.ifCond .le 21, 3) := by decide +kernel
theorem dX1_fill_50 : decode cX1_fill 50 = .ok (.aload_n 0, 1) := by decide +kernel
theorem dX1_fill_51 : decode cX1_fill 51 = .ok (.getfield 11, 3) := by decide +kernel
theorem dX1_fill_54 : decode cX1_fill 54 = .ok (.iload_n 1, 1) := by decide +kernel
theorem dX1_fill_55 : decode cX1_fill 55 = .ok (.iload_n 3, 1) := by decide +kernel
theorem dX1_fill_56 : decode cX1_fill 56 = .ok (.iastore, 1) := by decide +kernel
theorem dX1_fill_57 : decode cX1_fill 57 = .ok (.aload_n 0, 1) := by decide +kernel
theorem dX1_fill_58 : decode cX1_fill 58 = .ok (.getfield 15, 3) := by decide +kernel
theorem dX1_fill_61 : decode cX1_fill 61 = .ok (.iload_n 1, 1) := by decide +kernel
theorem dX1_fill_62 : decode cX1_fill 62 = .ok (.iload 4, 2) := by decide +kernel
theorem dX1_fill_64 : decode cX1_fill 64 = .ok (.iastore, 1) := by decide +kernel
theorem dX1_fill_65 : decode cX1_fill 65 = .ok (.iinc 1 1, 3) := by decide +kernel
theorem dX1_fill_68 : decode cX1_fill 68 = .ok (.aload_n 0, 1) := by decide +kernel
theorem dX1_fill_69 : decode cX1_fill 69 = .ok (.getfield 35, 3) := by decide +kernel
theorem dX1_fill_72 : decode cX1_fill 72 = .ok (.invokevirtual 67, 3) := by decide +kernel
theorem dX1_fill_75 : decode cX1_fill 75 = .ok (.iinc 3 1, 3) := by decide +kernel
theorem dX1_fill_78 : decode cX1_fill 78 = .ok (.goto (-58), 3) := by decide +kernel
theorem dX1_fill_81 : decode cX1_fill 81 = .ok (.iinc 2 1, 3) := by decide +kernel
theorem dX1_fill_84 : decode cX1_fill 84 = .ok (.goto (-80), 3) := by decide +kernel
theorem dX1_fill_87 : decode cX1_fill 87 = .ok (.aload_n 0, 1) := by decide +kernel
theorem dX1_fill_88 : decode cX1_fill 88 = .ok (.iconst 1, 1) := by decide +kernel
theorem dX1_fill_89 : decode cX1_fill 89 = .ok (.putfield 24, 3) := by decide +kernel
theorem dX1_fill_92 : decode cX1_fill 92 = .ok (.return_, 1) := by decide +kernel
theorem dX1_forgetLaws_0 : decode cX1_forgetLaws 0 = .ok (.aload_n 0, 1) := by decide +kernel
theorem dX1_forgetLaws_1 : decode cX1_forgetLaws 1 = .ok (.aload_n 0, 1) := by decide +kernel
theorem dX1_forgetLaws_2 : decode cX1_forgetLaws 2 = .ok (.getfield 31, 3) := by decide +kernel
theorem dX1_forgetLaws_5 : decode cX1_forgetLaws 5 = .ok (.iload_n 1, 1) := by decide +kernel
theorem dX1_forgetLaws_6 : decode cX1_forgetLaws 6 = .ok (.invokestatic 70, 3) := by decide +kernel
theorem dX1_forgetLaws_9 : decode cX1_forgetLaws 9 = .ok (.putfield 31, 3) := by decide +kernel
theorem dX1_forgetLaws_12 : decode cX1_forgetLaws 12 = .ok (.return_, 1) := by decide +kernel
theorem dX1_settle_0 : decode cX1_settle 0 = .ok (.aload_n 0, 1) := by decide +kernel
theorem dX1_settle_1 : decode cX1_settle 1 = .ok (.getfield 24, 3) := by decide +kernel
theorem dX1_settle_4 : decode cX1_settle 4 = .ok (.ifCond .ne 7, 3) := by decide +kernel
theorem dX1_settle_7 : decode cX1_settle 7 = .ok (.aload_n 0, 1) := by decide +kernel
theorem dX1_settle_8 : decode cX1_settle 8 = .ok (.invokevirtual 76, 3) := by decide +kernel
theorem dX1_settle_11 : decode cX1_settle 11 = .ok (.aload_n 0, 1) := by decide +kernel
theorem dX1_settle_12 : decode cX1_settle 12 = .ok (.getfield 31, 3) := by decide +kernel
theorem dX1_settle_15 : decode cX1_settle 15 = .ok (.aload_n 2, 1) := by decide +kernel
theorem dX1_settle_16 : decode cX1_settle 16 = .ok (.getfield 78, 3) := by decide +kernel
theorem dX1_settle_19 : decode cX1_settle 19 = .ok (.if_icmp .ge 51, 3) := by decide +kernel
theorem dX1_settle_22 : decode cX1_settle 22 = .ok (.iconst 0, 1) := by decide +kernel
theorem dX1_settle_23 : decode cX1_settle 23 = .ok (.istore_n 3, 1) := by decide +kernel
theorem dX1_settle_24 : decode cX1_settle 24 = .ok (.iload_n 3, 1) := by decide +kernel
theorem dX1_settle_25 : decode cX1_settle 25 = .ok (.sipush 3341, 3) := by decide +kernel
theorem dX1_settle_28 : decode cX1_settle 28 = .ok (.if_icmp .ge 34, 3) := by decide +kernel
theorem dX1_settle_31 : decode cX1_settle 31 = .ok (.aload_n 0, 1) := by decide +kernel
theorem dX1_settle_32 : decode cX1_settle 32 = .ok (.getfield 35, 3) := by decide +kernel
theorem dX1_settle_35 : decode cX1_settle 35 = .ok (.aload_n 0, 1) := by decide +kernel
theorem dX1_settle_36 : decode cX1_settle 36 = .ok (.iload_n 3, 1) := by decide +kernel
theorem dX1_settle_37 : decode cX1_settle 37 = .ok (.invokevirtual 81, 3) := by decide +kernel
theorem dX1_settle_40 : decode cX1_settle 40 = .ok (.aload_n 0, 1) := by decide +kernel
theorem dX1_settle_41 : decode cX1_settle 41 = .ok (.getfield 11, 3) := by decide +kernel
theorem dX1_settle_44 : decode cX1_settle 44 = .ok (.iload_n 3, 1) := by decide +kernel
theorem dX1_settle_45 : decode cX1_settle 45 = .ok (.iaload, 1) := by decide +kernel
theorem dX1_settle_46 : decode cX1_settle 46 = .ok (.invokevirtual 54, 3) := by decide +kernel
theorem dX1_settle_49 : decode cX1_settle 49 = .ok (.aload_n 0, 1) := by decide +kernel
theorem dX1_settle_50 : decode cX1_settle 50 = .ok (.aload_n 1, 1) := by decide +kernel
theorem dX1_settle_51 : decode cX1_settle 51 = .ok (.aload_n 2, 1) := by decide +kernel
theorem dX1_settle_52 : decode cX1_settle 52 = .ok (.iload_n 3, 1) := by decide +kernel
theorem dX1_settle_53 : decode cX1_settle 53 = .ok (.invokevirtual 84, 3) := by decide +kernel
theorem dX1_settle_56 : decode cX1_settle 56 = .ok (.iinc 3 1, 3) := by decide +kernel
theorem dX1_settle_59 : decode cX1_settle 59 = .ok (.goto (-35), 3) := by decide +kernel
theorem dX1_settle_62 : decode cX1_settle 62 = .ok (.aload_n 0, 1) := by decide +kernel
theorem dX1_settle_63 : decode cX1_settle 63 = .ok (.aload_n 2, 1) := by decide +kernel
theorem dX1_settle_64 : decode cX1_settle 64 = .ok (.getfield 78, 3) := by decide +kernel
theorem dX1_settle_67 : decode cX1_settle 67 = .ok (.putfield 31, 3) := by decide +kernel
theorem dX1_settle_70 : decode cX1_settle 70 = .ok (.return_, 1) := by decide +kernel
theorem dX1_tryLaws_0 : decode cX1_tryLaws 0 = .ok (.aload_n 0, 1) := by decide +kernel
theorem dX1_tryLaws_1 : decode cX1_tryLaws 1 = .ok (.getfield 31, 3) := by decide +kernel
theorem dX1_tryLaws_4 : decode cX1_tryLaws 4 = .ok (.istore 4, 2) := by decide +kernel
theorem dX1_tryLaws_6 : decode cX1_tryLaws 6 = .ok (.iload 4, 2) := by decide +kernel
theorem dX1_tryLaws_8 : decode cX1_tryLaws 8 = .ok (.aload_n 2, 1) := by decide +kernel
theorem dX1_tryLaws_9 : decode cX1_tryLaws 9 = .ok (.getfield 78, 3) := by decide +kernel
theorem dX1_tryLaws_12 : decode cX1_tryLaws 12 = .ok (.if_icmp .ge 65, 3) := by decide +kernel
theorem dX1_tryLaws_15 : decode cX1_tryLaws 15 = .ok (.aload_n 0, 1) := by decide +kernel
theorem dX1_tryLaws_16 : decode cX1_tryLaws 16 = .ok (.getfield 35, 3) := by decide +kernel
theorem dX1_tryLaws_19 : decode cX1_tryLaws 19 = .ok (.aload_n 1, 1) := by decide +kernel
theorem dX1_tryLaws_20 : decode cX1_tryLaws 20 = .ok (.aload_n 2, 1) := by decide +kernel
theorem dX1_tryLaws_21 : decode cX1_tryLaws 21 = .ok (.getfield 88, 3) := by decide +kernel
theorem dX1_tryLaws_24 : decode cX1_tryLaws 24 = .ok (.iload 4, 2) := by decide +kernel
theorem dX1_tryLaws_26 : decode cX1_tryLaws 26 = .ok (.iaload, 1) := by decide +kernel
theorem dX1_tryLaws_27 : decode cX1_tryLaws 27 = .ok (.aload_n 2, 1) := by decide +kernel
theorem dX1_tryLaws_28 : decode cX1_tryLaws 28 = .ok (.getfield 91, 3) := by decide +kernel
theorem dX1_tryLaws_31 : decode cX1_tryLaws 31 = .ok (.iload 4, 2) := by decide +kernel
theorem dX1_tryLaws_33 : decode cX1_tryLaws 33 = .ok (.iaload, 1) := by decide +kernel
theorem dX1_tryLaws_34 : decode cX1_tryLaws 34 = .ok (.invokevirtual 94, 3) := by decide +kernel
theorem dX1_tryLaws_37 : decode cX1_tryLaws 37 = .ok (.ifCond .eq 19, 3) := by decide +kernel
theorem dX1_tryLaws_40 : decode cX1_tryLaws 40 = .ok (.aload_n 0, 1) := by decide +kernel
theorem dX1_tryLaws_41 : decode cX1_tryLaws 41 = .ok (.getfield 21, 3) := by decide +kernel
theorem dX1_tryLaws_44 : decode cX1_tryLaws 44 = .ok (.iload_n 3, 1) := by decide +kernel
theorem dX1_tryLaws_45 : decode cX1_tryLaws 45 = .ok (.dup2, 1) := by decide +kernel
theorem dX1_tryLaws_46 : decode cX1_tryLaws 46 = .ok (.iaload, 1) := by decide +kernel
theorem dX1_tryLaws_47 : decode cX1_tryLaws 47 = .ok (.iconst 1, 1) := by decide +kernel
theorem dX1_tryLaws_48 : decode cX1_tryLaws 48 = .ok (.iload 4, 2) := by decide +kernel
theorem dX1_tryLaws_50 : decode cX1_tryLaws 50 = .ok (.ishl, 1) := by decide +kernel
theorem dX1_tryLaws_51 : decode cX1_tryLaws 51 = .ok (.ior, 1) := by decide +kernel
theorem dX1_tryLaws_52 : decode cX1_tryLaws 52 = .ok (.iastore, 1) := by decide +kernel
theorem dX1_tryLaws_53 : decode cX1_tryLaws 53 = .ok (.goto 18, 3) := by decide +kernel
theorem dX1_tryLaws_56 : decode cX1_tryLaws 56 = .ok (.aload_n 0, 1) := by decide +kernel
theorem dX1_tryLaws_57 : decode cX1_tryLaws 57 = .ok (.getfield 21, 3) := by decide +kernel
theorem dX1_tryLaws_60 : decode cX1_tryLaws 60 = .ok (.iload_n 3, 1) := by decide +kernel
theorem dX1_tryLaws_61 : decode cX1_tryLaws 61 = .ok (.dup2, 1) := by decide +kernel
theorem dX1_tryLaws_62 : decode cX1_tryLaws 62 = .ok (.iaload, 1) := by decide +kernel
theorem dX1_tryLaws_63 : decode cX1_tryLaws 63 = .ok (.iconst 1, 1) := by decide +kernel
theorem dX1_tryLaws_64 : decode cX1_tryLaws 64 = .ok (.iload 4, 2) := by decide +kernel
theorem dX1_tryLaws_66 : decode cX1_tryLaws 66 = .ok (.ishl, 1) := by decide +kernel
theorem dX1_tryLaws_67 : decode cX1_tryLaws 67 = .ok (.iconst (-1), 1) := by decide +kernel
theorem dX1_tryLaws_68 : decode cX1_tryLaws 68 = .ok (.ixor, 1) := by decide +kernel
theorem dX1_tryLaws_69 : decode cX1_tryLaws 69 = .ok (.iand, 1) := by decide +kernel
theorem dX1_tryLaws_70 : decode cX1_tryLaws 70 = .ok (.iastore, 1) := by decide +kernel
theorem dX1_tryLaws_71 : decode cX1_tryLaws 71 = .ok (.iinc 4 1, 3) := by decide +kernel
theorem dX1_tryLaws_74 : decode cX1_tryLaws 74 = .ok (.goto (-68), 3) := by decide +kernel
theorem dX1_tryLaws_77 : decode cX1_tryLaws 77 = .ok (.return_, 1) := by decide +kernel
theorem dX1_keepsAll_0 : decode cX1_keepsAll 0 = .ok (.aload_n 0, 1) := by decide +kernel
theorem dX1_keepsAll_1 : decode cX1_keepsAll 1 = .ok (.getfield 21, 3) := by decide +kernel
theorem dX1_keepsAll_4 : decode cX1_keepsAll 4 = .ok (.iload_n 1, 1) := by decide +kernel
theorem dX1_keepsAll_5 : decode cX1_keepsAll 5 = .ok (.iaload, 1) := by decide +kernel
theorem dX1_keepsAll_6 : decode cX1_keepsAll 6 = .ok (.iload_n 2, 1) := by decide +kernel
theorem dX1_keepsAll_7 : decode cX1_keepsAll 7 = .ok (.iand, 1) := by decide +kernel
theorem dX1_keepsAll_8 : decode cX1_keepsAll 8 = .ok (.iload_n 2, 1) := by decide +kernel
theorem dX1_keepsAll_9 : decode cX1_keepsAll 9 = .ok (.if_icmp .ne 7, 3) := by decide +kernel
theorem dX1_keepsAll_12 : decode cX1_keepsAll 12 = .ok (.iconst 1, 1) := by decide +kernel
theorem dX1_keepsAll_13 : decode cX1_keepsAll 13 = .ok (.goto 4, 3) := by decide +kernel
theorem dX1_keepsAll_16 : decode cX1_keepsAll 16 = .ok (.iconst 0, 1) := by decide +kernel
theorem dX1_keepsAll_17 : decode cX1_keepsAll 17 = .ok (.ireturn, 1) := by decide +kernel
theorem dX1_howMany_0 : decode cX1_howMany 0 = .ok (.iconst 0, 1) := by decide +kernel
theorem dX1_howMany_1 : decode cX1_howMany 1 = .ok (.istore 4, 2) := by decide +kernel
theorem dX1_howMany_3 : decode cX1_howMany 3 = .ok (.getstatic 51, 3) := by decide +kernel
theorem dX1_howMany_6 : decode cX1_howMany 6 = .ok (.iload_n 1, 1) := by decide +kernel
theorem dX1_howMany_7 : decode cX1_howMany 7 = .ok (.iaload, 1) := by decide +kernel
theorem dX1_howMany_8 : decode cX1_howMany 8 = .ok (.istore 5, 2) := by decide +kernel
theorem dX1_howMany_10 : decode cX1_howMany 10 = .ok (.iload 5, 2) := by decide +kernel
theorem dX1_howMany_12 : decode cX1_howMany 12 = .ok (.getstatic 51, 3) := by decide +kernel
theorem dX1_howMany_15 : decode cX1_howMany 15 = .ok (.iload_n 1, 1) := by decide +kernel
theorem dX1_howMany_16 : decode cX1_howMany 16 = .ok (.iconst 1, 1) := by decide +kernel
theorem dX1_howMany_17 : decode cX1_howMany 17 = .ok (.iadd, 1) := by decide +kernel
theorem dX1_howMany_18 : decode cX1_howMany 18 = .ok (.iaload, 1) := by decide +kernel
theorem dX1_howMany_19 : decode cX1_howMany 19 = .ok (.if_icmp .ge 39, 3) := by decide +kernel
theorem dX1_howMany_22 : decode cX1_howMany 22 = .ok (.aload_n 0, 1) := by decide +kernel
theorem dX1_howMany_23 : decode cX1_howMany 23 = .ok (.iload 5, 2) := by decide +kernel
theorem dX1_howMany_25 : decode cX1_howMany 25 = .ok (.iload_n 2, 1) := by decide +kernel
theorem dX1_howMany_26 : decode cX1_howMany 26 = .ok (.invokevirtual 98, 3) := by decide +kernel
theorem dX1_howMany_29 : decode cX1_howMany 29 = .ok (.ifCond .eq 23, 3) := by decide +kernel
theorem dX1_howMany_32 : decode cX1_howMany 32 = .ok (.iload 4, 2) := by decide +kernel
theorem dX1_howMany_34 : decode cX1_howMany 34 = .ok (.iload_n 3, 1) := by decide +kernel
theorem dX1_howMany_35 : decode cX1_howMany 35 = .ok (.ifCond .eq 7, 3) := by decide +kernel
theorem dX1_howMany_38 : decode cX1_howMany 38 = .ok (.iconst 1, 1) := by decide +kernel
theorem dX1_howMany_39 : decode cX1_howMany 39 = .ok (.goto 10, 3) := by decide +kernel
theorem dX1_howMany_42 : decode cX1_howMany 42 = .ok (.aload_n 0, 1) := by decide +kernel
theorem dX1_howMany_43 : decode cX1_howMany 43 = .ok (.getfield 15, 3) := by decide +kernel
theorem dX1_howMany_46 : decode cX1_howMany 46 = .ok (.iload 5, 2) := by decide +kernel
theorem dX1_howMany_48 : decode cX1_howMany 48 = .ok (.iaload, 1) := by decide +kernel
theorem dX1_howMany_49 : decode cX1_howMany 49 = .ok (.iadd, 1) := by decide +kernel
theorem dX1_howMany_50 : decode cX1_howMany 50 = .ok (.istore 4, 2) := by decide +kernel
theorem dX1_howMany_52 : decode cX1_howMany 52 = .ok (.iinc 5 1, 3) := by decide +kernel
theorem dX1_howMany_55 : decode cX1_howMany 55 = .ok (.goto (-45), 3) := by decide +kernel
theorem dX1_howMany_58 : decode cX1_howMany 58 = .ok (.iload 4, 2) := by decide +kernel
theorem dX1_howMany_60 : decode cX1_howMany 60 = .ok (.ireturn, 1) := by decide +kernel
theorem dX1_numberOf_0 : decode cX1_numberOf 0 = .ok (.iconst 0, 1) := by decide +kernel
theorem dX1_numberOf_1 : decode cX1_numberOf 1 = .ok (.istore 4, 2) := by decide +kernel
theorem dX1_numberOf_3 : decode cX1_numberOf 3 = .ok (.getstatic 51, 3) := by decide +kernel
theorem dX1_numberOf_6 : decode cX1_numberOf 6 = .ok (.iload_n 1, 1) := by decide +kernel
theorem dX1_numberOf_7 : decode cX1_numberOf 7 = .ok (.iaload, 1) := by decide +kernel
theorem dX1_numberOf_8 : decode cX1_numberOf 8 = .ok (.istore 5, 2) := by decide +kernel
theorem dX1_numberOf_10 : decode cX1_numberOf 10 = .ok (.iload 5, 2) := by decide +kernel
theorem dX1_numberOf_12 : decode cX1_numberOf 12 = .ok (.getstatic 51, 3) := by decide +kernel
theorem dX1_numberOf_15 : decode cX1_numberOf 15 = .ok (.iload_n 1, 1) := by decide +kernel
theorem dX1_numberOf_16 : decode cX1_numberOf 16 = .ok (.iconst 1, 1) := by decide +kernel
theorem dX1_numberOf_17 : decode cX1_numberOf 17 = .ok (.iadd, 1) := by decide +kernel
theorem dX1_numberOf_18 : decode cX1_numberOf 18 = .ok (.iaload, 1) := by decide +kernel
theorem dX1_numberOf_19 : decode cX1_numberOf 19 = .ok (.if_icmp .ge 36, 3) := by decide +kernel
theorem dX1_numberOf_22 : decode cX1_numberOf 22 = .ok (.aload_n 0, 1) := by decide +kernel
theorem dX1_numberOf_23 : decode cX1_numberOf 23 = .ok (.iload 5, 2) := by decide +kernel
theorem dX1_numberOf_25 : decode cX1_numberOf 25 = .ok (.iload_n 2, 1) := by decide +kernel
theorem dX1_numberOf_26 : decode cX1_numberOf 26 = .ok (.invokevirtual 98, 3) := by decide +kernel
theorem dX1_numberOf_29 : decode cX1_numberOf 29 = .ok (.ifCond .eq 20, 3) := by decide +kernel
theorem dX1_numberOf_32 : decode cX1_numberOf 32 = .ok (.iload 4, 2) := by decide +kernel
theorem dX1_numberOf_34 : decode cX1_numberOf 34 = .ok (.iload_n 3, 1) := by decide +kernel
theorem dX1_numberOf_35 : decode cX1_numberOf 35 = .ok (.if_icmp .ne 11, 3) := by decide +kernel
theorem dX1_numberOf_38 : decode cX1_numberOf 38 = .ok (.aload_n 0, 1) := by decide +kernel
theorem dX1_numberOf_39 : decode cX1_numberOf 39 = .ok (.getfield 11, 3) := by decide +kernel
theorem dX1_numberOf_42 : decode cX1_numberOf 42 = .ok (.iload 5, 2) := by decide +kernel
theorem dX1_numberOf_44 : decode cX1_numberOf 44 = .ok (.iaload, 1) := by decide +kernel
theorem dX1_numberOf_45 : decode cX1_numberOf 45 = .ok (.ireturn, 1) := by decide +kernel
theorem dX1_numberOf_46 : decode cX1_numberOf 46 = .ok (.iinc 4 1, 3) := by decide +kernel
theorem dX1_numberOf_49 : decode cX1_numberOf 49 = .ok (.iinc 5 1, 3) := by decide +kernel
theorem dX1_numberOf_52 : decode cX1_numberOf 52 = .ok (.goto (-42), 3) := by decide +kernel
theorem dX1_numberOf_55 : decode cX1_numberOf 55 = .ok (.bipush (-9), 2) := by decide +kernel
theorem dX1_numberOf_57 : decode cX1_numberOf 57 = .ok (.ireturn, 1) := by decide +kernel
theorem dX1_isNeeded_0 : decode cX1_isNeeded 0 = .ok (.iload_n 2, 1) := by decide +kernel
theorem dX1_isNeeded_1 : decode cX1_isNeeded 1 = .ok (.iconst 1, 1) := by decide +kernel
theorem dX1_isNeeded_2 : decode cX1_isNeeded 2 = .ok (.iload_n 1, 1) := by decide +kernel
theorem dX1_isNeeded_3 : decode cX1_isNeeded 3 = .ok (.ishl, 1) := by decide +kernel
theorem dX1_isNeeded_4 : decode cX1_isNeeded 4 = .ok (.iconst (-1), 1) := by decide +kernel
theorem dX1_isNeeded_5 : decode cX1_isNeeded 5 = .ok (.ixor, 1) := by decide +kernel
theorem dX1_isNeeded_6 : decode cX1_isNeeded 6 = .ok (.iand, 1) := by decide +kernel
theorem dX1_isNeeded_7 : decode cX1_isNeeded 7 = .ok (.istore_n 3, 1) := by decide +kernel
theorem dX1_isNeeded_8 : decode cX1_isNeeded 8 = .ok (.iconst 0, 1) := by decide +kernel
theorem dX1_isNeeded_9 : decode cX1_isNeeded 9 = .ok (.istore 4, 2) := by decide +kernel
theorem dX1_isNeeded_11 : decode cX1_isNeeded 11 = .ok (.iload 4, 2) := by decide +kernel
theorem dX1_isNeeded_13 : decode cX1_isNeeded 13 = .ok (.sipush 3341, 3) := by decide +kernel
theorem dX1_isNeeded_16 : decode cX1_isNeeded 16 = .ok (.if_icmp .ge 33, 3) := by decide +kernel
theorem dX1_isNeeded_19 : decode cX1_isNeeded 19 = .ok (.aload_n 0, 1) := by decide +kernel
theorem dX1_isNeeded_20 : decode cX1_isNeeded 20 = .ok (.iload 4, 2) := by decide +kernel
theorem dX1_isNeeded_22 : decode cX1_isNeeded 22 = .ok (.iload_n 3, 1) := by decide +kernel
theorem dX1_isNeeded_23 : decode cX1_isNeeded 23 = .ok (.invokevirtual 98, 3) := by decide +kernel
theorem dX1_isNeeded_26 : decode cX1_isNeeded 26 = .ok (.ifCond .eq 17, 3) := by decide +kernel
theorem dX1_isNeeded_29 : decode cX1_isNeeded 29 = .ok (.aload_n 0, 1) := by decide +kernel
theorem dX1_isNeeded_30 : decode cX1_isNeeded 30 = .ok (.iload 4, 2) := by decide +kernel
theorem dX1_isNeeded_32 : decode cX1_isNeeded 32 = .ok (.iconst 1, 1) := by decide +kernel
theorem dX1_isNeeded_33 : decode cX1_isNeeded 33 = .ok (.iload_n 1, 1) := by decide +kernel
theorem dX1_isNeeded_34 : decode cX1_isNeeded 34 = .ok (.ishl, 1) := by decide +kernel
theorem dX1_isNeeded_35 : decode cX1_isNeeded 35 = .ok (.invokevirtual 98, 3) := by decide +kernel
theorem dX1_isNeeded_38 : decode cX1_isNeeded 38 = .ok (.ifCond .ne 5, 3) := by decide +kernel
theorem dX1_isNeeded_41 : decode cX1_isNeeded 41 = .ok (.iconst 1, 1) := by decide +kernel
theorem dX1_isNeeded_42 : decode cX1_isNeeded 42 = .ok (.ireturn, 1) := by decide +kernel
theorem dX1_isNeeded_43 : decode cX1_isNeeded 43 = .ok (.iinc 4 1, 3) := by decide +kernel
theorem dX1_isNeeded_46 : decode cX1_isNeeded 46 = .ok (.goto (-35), 3) := by decide +kernel
theorem dX1_isNeeded_49 : decode cX1_isNeeded 49 = .ok (.iconst 0, 1) := by decide +kernel
theorem dX1_isNeeded_50 : decode cX1_isNeeded 50 = .ok (.ireturn, 1) := by decide +kernel
theorem dX1_isEven_0 : decode cX1_isEven 0 = .ok (.aload_n 0, 1) := by decide +kernel
theorem dX1_isEven_1 : decode cX1_isEven 1 = .ok (.invokevirtual 102, 3) := by decide +kernel
theorem dX1_isEven_4 : decode cX1_isEven 4 = .ok (.iconst 0, 1) := by decide +kernel
theorem dX1_isEven_5 : decode cX1_isEven 5 = .ok (.istore_n 2, 1) := by decide +kernel
theorem dX1_isEven_6 : decode cX1_isEven 6 = .ok (.iload_n 2, 1) := by decide +kernel
theorem dX1_isEven_7 : decode cX1_isEven 7 = .ok (.sipush 3341, 3) := by decide +kernel
theorem dX1_isEven_10 : decode cX1_isEven 10 = .ok (.if_icmp .ge 34, 3) := by decide +kernel
theorem dX1_isEven_13 : decode cX1_isEven 13 = .ok (.aload_n 0, 1) := by decide +kernel
theorem dX1_isEven_14 : decode cX1_isEven 14 = .ok (.iload_n 2, 1) := by decide +kernel
theorem dX1_isEven_15 : decode cX1_isEven 15 = .ok (.iload_n 1, 1) := by decide +kernel
theorem dX1_isEven_16 : decode cX1_isEven 16 = .ok (.invokevirtual 98, 3) := by decide +kernel
theorem dX1_isEven_19 : decode cX1_isEven 19 = .ok (.ifCond .eq 19, 3) := by decide +kernel
theorem dX1_isEven_22 : decode cX1_isEven 22 = .ok (.aload_n 0, 1) := by decide +kernel
theorem dX1_isEven_23 : decode cX1_isEven 23 = .ok (.aload_n 0, 1) := by decide +kernel
theorem dX1_isEven_24 : decode cX1_isEven 24 = .ok (.getfield 18, 3) := by decide +kernel
theorem dX1_isEven_27 : decode cX1_isEven 27 = .ok (.iload_n 2, 1) := by decide +kernel
theorem dX1_isEven_28 : decode cX1_isEven 28 = .ok (.iaload, 1) := by decide +kernel
theorem dX1_isEven_29 : decode cX1_isEven 29 = .ok (.iload_n 1, 1) := by decide +kernel
theorem dX1_isEven_30 : decode cX1_isEven 30 = .ok (.invokevirtual 98, 3) := by decide +kernel
theorem dX1_isEven_33 : decode cX1_isEven 33 = .ok (.ifCond .ne 5, 3) := by decide +kernel
theorem dX1_isEven_36 : decode cX1_isEven 36 = .ok (.iconst 0, 1) := by decide +kernel
theorem dX1_isEven_37 : decode cX1_isEven 37 = .ok (.ireturn, 1) := by decide +kernel
theorem dX1_isEven_38 : decode cX1_isEven 38 = .ok (.iinc 2 1, 3) := by decide +kernel
theorem dX1_isEven_41 : decode cX1_isEven 41 = .ok (.goto (-35), 3) := by decide +kernel
theorem dX1_isEven_44 : decode cX1_isEven 44 = .ok (.iconst 1, 1) := by decide +kernel
theorem dX1_isEven_45 : decode cX1_isEven 45 = .ok (.ireturn, 1) := by decide +kernel
theorem dX1_keepPage_0 : decode cX1_keepPage 0 = .ok (.iconst 0, 1) := by decide +kernel
theorem dX1_keepPage_1 : decode cX1_keepPage 1 = .ok (.istore_n 3, 1) := by decide +kernel
theorem dX1_keepPage_2 : decode cX1_keepPage 2 = .ok (.iload_n 3, 1) := by decide +kernel
theorem dX1_keepPage_3 : decode cX1_keepPage 3 = .ok (.sipush 3341, 3) := by decide +kernel
theorem dX1_keepPage_6 : decode cX1_keepPage 6 = .ok (.if_icmp .ge 49, 3) := by decide +kernel
theorem dX1_keepPage_9 : decode cX1_keepPage 9 = .ok (.aload_n 0, 1) := by decide +kernel
theorem dX1_keepPage_10 : decode cX1_keepPage 10 = .ok (.iload_n 3, 1) := by decide +kernel
theorem dX1_keepPage_11 : decode cX1_keepPage 11 = .ok (.iload_n 2, 1) := by decide +kernel
theorem dX1_keepPage_12 : decode cX1_keepPage 12 = .ok (.invokevirtual 98, 3) := by decide +kernel
theorem dX1_keepPage_15 : decode cX1_keepPage 15 = .ok (.ifCond .eq 19, 3) := by decide +kernel
theorem dX1_keepPage_18 : decode cX1_keepPage 18 = .ok (.aload_n 0, 1) := by decide +kernel
theorem dX1_keepPage_19 : decode cX1_keepPage 19 = .ok (.getfield 21, 3) := by decide +kernel
theorem dX1_keepPage_22 : decode cX1_keepPage 22 = .ok (.iload_n 3, 1) := by decide +kernel
theorem dX1_keepPage_23 : decode cX1_keepPage 23 = .ok (.dup2, 1) := by decide +kernel
theorem dX1_keepPage_24 : decode cX1_keepPage 24 = .ok (.iaload, 1) := by decide +kernel
theorem dX1_keepPage_25 : decode cX1_keepPage 25 = .ok (.iload_n 1, 1) := by decide +kernel
theorem dX1_keepPage_26 : decode cX1_keepPage 26 = .ok (.invokestatic 39, 3) := by decide +kernel
theorem dX1_keepPage_29 : decode cX1_keepPage 29 = .ok (.ior, 1) := by decide +kernel
theorem dX1_keepPage_30 : decode cX1_keepPage 30 = .ok (.iastore, 1) := by decide +kernel
theorem dX1_keepPage_31 : decode cX1_keepPage 31 = .ok (.goto 18, 3) := by decide +kernel
theorem dX1_keepPage_34 : decode cX1_keepPage 34 = .ok (.aload_n 0, 1) := by decide +kernel
theorem dX1_keepPage_35 : decode cX1_keepPage 35 = .ok (.getfield 21, 3) := by decide +kernel
theorem dX1_keepPage_38 : decode cX1_keepPage 38 = .ok (.iload_n 3, 1) := by decide +kernel
theorem dX1_keepPage_39 : decode cX1_keepPage 39 = .ok (.dup2, 1) := by decide +kernel
theorem dX1_keepPage_40 : decode cX1_keepPage 40 = .ok (.iaload, 1) := by decide +kernel
theorem dX1_keepPage_41 : decode cX1_keepPage 41 = .ok (.iload_n 1, 1) := by decide +kernel
theorem dX1_keepPage_42 : decode cX1_keepPage 42 = .ok (.invokestatic 39, 3) := by decide +kernel
theorem dX1_keepPage_45 : decode cX1_keepPage 45 = .ok (.iconst (-1), 1) := by decide +kernel
theorem dX1_keepPage_46 : decode cX1_keepPage 46 = .ok (.ixor, 1) := by decide +kernel
theorem dX1_keepPage_47 : decode cX1_keepPage 47 = .ok (.iand, 1) := by decide +kernel
theorem dX1_keepPage_48 : decode cX1_keepPage 48 = .ok (.iastore, 1) := by decide +kernel
theorem dX1_keepPage_49 : decode cX1_keepPage 49 = .ok (.iinc 3 1, 3) := by decide +kernel
theorem dX1_keepPage_52 : decode cX1_keepPage 52 = .ok (.goto (-50), 3) := by decide +kernel
theorem dX1_keepPage_55 : decode cX1_keepPage 55 = .ok (.return_, 1) := by decide +kernel
theorem dX1_isPageOf_0 : decode cX1_isPageOf 0 = .ok (.iload_n 3, 1) := by decide +kernel
theorem dX1_isPageOf_1 : decode cX1_isPageOf 1 = .ok (.ifCond .eq 7, 3) := by decide +kernel
theorem dX1_isPageOf_4 : decode cX1_isPageOf 4 = .ok (.aload_n 0, 1) := by decide +kernel
theorem dX1_isPageOf_5 : decode cX1_isPageOf 5 = .ok (.invokevirtual 102, 3) := by decide +kernel
theorem dX1_isPageOf_8 : decode cX1_isPageOf 8 = .ok (.iconst 0, 1) := by decide +kernel
theorem dX1_isPageOf_9 : decode cX1_isPageOf 9 = .ok (.istore 4, 2) := by decide +kernel
theorem dX1_isPageOf_11 : decode cX1_isPageOf 11 = .ok (.iload 4, 2) := by decide +kernel
theorem dX1_isPageOf_13 : decode cX1_isPageOf 13 = .ok (.sipush 3341, 3) := by decide +kernel
theorem dX1_isPageOf_16 : decode cX1_isPageOf 16 = .ok (.if_icmp .ge 49, 3) := by decide +kernel
theorem dX1_isPageOf_19 : decode cX1_isPageOf 19 = .ok (.iload_n 3, 1) := by decide +kernel
theorem dX1_isPageOf_20 : decode cX1_isPageOf 20 = .ok (.ifCond .eq 13, 3) := by decide +kernel
theorem dX1_isPageOf_23 : decode cX1_isPageOf 23 = .ok (.aload_n 0, 1) := by decide +kernel
theorem dX1_isPageOf_24 : decode cX1_isPageOf 24 = .ok (.getfield 18, 3) := by decide +kernel
theorem dX1_isPageOf_27 : decode cX1_isPageOf 27 = .ok (.iload 4, 2) := by decide +kernel
theorem dX1_isPageOf_29 : decode cX1_isPageOf 29 = .ok (.iaload, 1) := by decide +kernel
theorem dX1_isPageOf_30 : decode cX1_isPageOf 30 = .ok (.goto 5, 3) := by decide +kernel
theorem dX1_isPageOf_33 : decode cX1_isPageOf 33 = .ok (.iload 4, 2) := by decide +kernel
theorem dX1_isPageOf_35 : decode cX1_isPageOf 35 = .ok (.istore 5, 2) := by decide +kernel
theorem dX1_isPageOf_37 : decode cX1_isPageOf 37 = .ok (.aload_n 0, 1) := by decide +kernel
theorem dX1_isPageOf_38 : decode cX1_isPageOf 38 = .ok (.iload 4, 2) := by decide +kernel
theorem dX1_isPageOf_40 : decode cX1_isPageOf 40 = .ok (.iload_n 2, 1) := by decide +kernel
theorem dX1_isPageOf_41 : decode cX1_isPageOf 41 = .ok (.invokevirtual 98, 3) := by decide +kernel
theorem dX1_isPageOf_44 : decode cX1_isPageOf 44 = .ok (.aload_n 0, 1) := by decide +kernel
theorem dX1_isPageOf_45 : decode cX1_isPageOf 45 = .ok (.iload 5, 2) := by decide +kernel
theorem dX1_isPageOf_47 : decode cX1_isPageOf 47 = .ok (.iload_n 1, 1) := by decide +kernel
theorem dX1_isPageOf_48 : decode cX1_isPageOf 48 = .ok (.invokestatic 39, 3) := by decide +kernel
theorem dX1_isPageOf_51 : decode cX1_isPageOf 51 = .ok (.invokevirtual 98, 3) := by decide +kernel
theorem dX1_isPageOf_54 : decode cX1_isPageOf 54 = .ok (.if_icmp .eq 5, 3) := by decide +kernel
theorem dX1_isPageOf_57 : decode cX1_isPageOf 57 = .ok (.iconst 0, 1) := by decide +kernel
theorem dX1_isPageOf_58 : decode cX1_isPageOf 58 = .ok (.ireturn, 1) := by decide +kernel
theorem dX1_isPageOf_59 : decode cX1_isPageOf 59 = .ok (.iinc 4 1, 3) := by decide +kernel
theorem dX1_isPageOf_62 : decode cX1_isPageOf 62 = .ok (.goto (-51), 3) := by decide +kernel
theorem dX1_isPageOf_65 : decode cX1_isPageOf 65 = .ok (.iconst 1, 1) := by decide +kernel
theorem dX1_isPageOf_66 : decode cX1_isPageOf 66 = .ok (.ireturn, 1) := by decide +kernel
theorem dX1_learnTurns_0 : decode cX1_learnTurns 0 = .ok (.aload_n 0, 1) := by decide +kernel
theorem dX1_learnTurns_1 : decode cX1_learnTurns 1 = .ok (.getfield 28, 3) := by decide +kernel
theorem dX1_learnTurns_4 : decode cX1_learnTurns 4 = .ok (.ifCond .eq 4, 3) := by decide +kernel
theorem dX1_learnTurns_7 : decode cX1_learnTurns 7 = .ok (.return_, 1) := by decide +kernel
theorem dX1_learnTurns_8 : decode cX1_learnTurns 8 = .ok (.iconst 0, 1) := by decide +kernel
theorem dX1_learnTurns_9 : decode cX1_learnTurns 9 = .ok (.istore_n 1, 1) := by decide +kernel
theorem dX1_learnTurns_10 : decode cX1_learnTurns 10 = .ok (.iload_n 1, 1) := by decide +kernel
theorem dX1_learnTurns_11 : decode cX1_learnTurns 11 = .ok (.sipush 3341, 3) := by decide +kernel
theorem dX1_learnTurns_14 : decode cX1_learnTurns 14 = .ok (.if_icmp .ge 54, 3) := by decide +kernel
theorem dX1_learnTurns_17 : decode cX1_learnTurns 17 = .ok (.aload_n 0, 1) := by decide +kernel
theorem dX1_learnTurns_18 : decode cX1_learnTurns 18 = .ok (.iload_n 1, 1) := by decide +kernel
theorem dX1_learnTurns_19 : decode cX1_learnTurns 19 = .ok (.invokevirtual 81, 3) := by decide +kernel
theorem dX1_learnTurns_22 : decode cX1_learnTurns 22 = .ok (.istore_n 2, 1) := by decide +kernel
theorem dX1_learnTurns_23 : decode cX1_learnTurns 23 = .ok (.aload_n 0, 1) := by decide +kernel
theorem dX1_learnTurns_24 : decode cX1_learnTurns 24 = .ok (.getfield 35, 3) := by decide +kernel
theorem dX1_learnTurns_27 : decode cX1_learnTurns 27 = .ok (.iload_n 2, 1) := by decide +kernel
theorem dX1_learnTurns_28 : decode cX1_learnTurns 28 = .ok (.aload_n 0, 1) := by decide +kernel
theorem dX1_learnTurns_29 : decode cX1_learnTurns 29 = .ok (.getfield 11, 3) := by decide +kernel
theorem dX1_learnTurns_32 : decode cX1_learnTurns 32 = .ok (.iload_n 1, 1) := by decide +kernel
theorem dX1_learnTurns_33 : decode cX1_learnTurns 33 = .ok (.iaload, 1) := by decide +kernel
theorem dX1_learnTurns_34 : decode cX1_learnTurns 34 = .ok (.invokevirtual 54, 3) := by decide +kernel
theorem dX1_learnTurns_37 : decode cX1_learnTurns 37 = .ok (.aload_n 0, 1) := by decide +kernel
theorem dX1_learnTurns_38 : decode cX1_learnTurns 38 = .ok (.getfield 35, 3) := by decide +kernel
theorem dX1_learnTurns_41 : decode cX1_learnTurns 41 = .ok (.invokevirtual 105, 3) := by decide +kernel
theorem dX1_learnTurns_44 : decode cX1_learnTurns 44 = .ok (.aload_n 0, 1) := by decide +kernel
theorem dX1_learnTurns_45 : decode cX1_learnTurns 45 = .ok (.getfield 18, 3) := by decide +kernel
theorem dX1_learnTurns_48 : decode cX1_learnTurns 48 = .ok (.iload_n 1, 1) := by decide +kernel
theorem dX1_learnTurns_49 : decode cX1_learnTurns 49 = .ok (.aload_n 0, 1) := by decide +kernel
theorem dX1_learnTurns_50 : decode cX1_learnTurns 50 = .ok (.iload_n 2, 1) := by decide +kernel
theorem dX1_learnTurns_51 : decode cX1_learnTurns 51 = .ok (.aload_n 0, 1) := by decide +kernel
theorem dX1_learnTurns_52 : decode cX1_learnTurns 52 = .ok (.getfield 35, 3) := by decide +kernel
theorem dX1_learnTurns_55 : decode cX1_learnTurns 55 = .ok (.invokevirtual 108, 3) := by decide +kernel
theorem dX1_learnTurns_58 : decode cX1_learnTurns 58 = .ok (.invokevirtual 111, 3) := by decide +kernel
theorem dX1_learnTurns_61 : decode cX1_learnTurns 61 = .ok (.iastore, 1) := by decide +kernel
theorem dX1_learnTurns_62 : decode cX1_learnTurns 62 = .ok (.iinc 1 1, 3) := by decide +kernel
theorem dX1_learnTurns_65 : decode cX1_learnTurns 65 = .ok (.goto (-55), 3) := by decide +kernel
theorem dX1_learnTurns_68 : decode cX1_learnTurns 68 = .ok (.aload_n 0, 1) := by decide +kernel
theorem dX1_learnTurns_69 : decode cX1_learnTurns 69 = .ok (.iconst 1, 1) := by decide +kernel
theorem dX1_learnTurns_70 : decode cX1_learnTurns 70 = .ok (.putfield 28, 3) := by decide +kernel
theorem dX1_learnTurns_73 : decode cX1_learnTurns 73 = .ok (.return_, 1) := by decide +kernel
theorem dX1_entryOf_0 : decode cX1_entryOf 0 = .ok (.getstatic 51, 3) := by decide +kernel
theorem dX1_entryOf_3 : decode cX1_entryOf 3 = .ok (.iload_n 1, 1) := by decide +kernel
theorem dX1_entryOf_4 : decode cX1_entryOf 4 = .ok (.iaload, 1) := by decide +kernel
theorem dX1_entryOf_5 : decode cX1_entryOf 5 = .ok (.istore_n 3, 1) := by decide +kernel
theorem dX1_entryOf_6 : decode cX1_entryOf 6 = .ok (.getstatic 51, 3) := by decide +kernel
theorem dX1_entryOf_9 : decode cX1_entryOf 9 = .ok (.iload_n 1, 1) := by decide +kernel
theorem dX1_entryOf_10 : decode cX1_entryOf 10 = .ok (.iconst 1, 1) := by decide +kernel
theorem dX1_entryOf_11 : decode cX1_entryOf 11 = .ok (.iadd, 1) := by decide +kernel
theorem dX1_entryOf_12 : decode cX1_entryOf 12 = .ok (.iaload, 1) := by decide +kernel
theorem dX1_entryOf_13 : decode cX1_entryOf 13 = .ok (.iconst 1, 1) := by decide +kernel
theorem dX1_entryOf_14 : decode cX1_entryOf 14 = .ok (.isub, 1) := by decide +kernel
theorem dX1_entryOf_15 : decode cX1_entryOf 15 = .ok (.istore 4, 2) := by decide +kernel
theorem dX1_entryOf_17 : decode cX1_entryOf 17 = .ok (.iconst 0, 1) := by decide +kernel
theorem dX1_entryOf_18 : decode cX1_entryOf 18 = .ok (.istore 5, 2) := by decide +kernel
theorem dX1_entryOf_20 : decode cX1_entryOf 20 = .ok (.iload 5, 2) := by decide +kernel
theorem dX1_entryOf_22 : decode cX1_entryOf 22 = .ok (.bipush 32, 2) := by decide +kernel
theorem dX1_entryOf_24 : decode cX1_entryOf 24 = .ok (.if_icmp .ge 46, 3) := by decide +kernel
theorem dX1_entryOf_27 : decode cX1_entryOf 27 = .ok (.iload_n 3, 1) := by decide +kernel
theorem dX1_entryOf_28 : decode cX1_entryOf 28 = .ok (.iload 4, 2) := by decide +kernel
theorem dX1_entryOf_30 : decode cX1_entryOf 30 = .ok (.if_icmp .ge 40, 3) := by decide +kernel
theorem dX1_entryOf_33 : decode cX1_entryOf 33 = .ok (.iload_n 3, 1) := by decide +kernel
theorem dX1_entryOf_34 : decode cX1_entryOf 34 = .ok (.iload 4, 2) := by decide +kernel
theorem dX1_entryOf_36 : decode cX1_entryOf 36 = .ok (.iadd, 1) := by decide +kernel
theorem dX1_entryOf_37 : decode cX1_entryOf 37 = .ok (.iconst 2, 1) := by decide +kernel
theorem dX1_entryOf_38 : decode cX1_entryOf 38 = .ok (.idiv, 1) := by decide +kernel
theorem dX1_entryOf_39 : decode cX1_entryOf 39 = .ok (.istore 6, 2) := by decide +kernel
theorem dX1_entryOf_41 : decode cX1_entryOf 41 = .ok (.aload_n 0, 1) := by decide +kernel
theorem dX1_entryOf_42 : decode cX1_entryOf 42 = .ok (.getfield 11, 3) := by decide +kernel
theorem dX1_entryOf_45 : decode cX1_entryOf 45 = .ok (.iload 6, 2) := by decide +kernel
theorem dX1_entryOf_47 : decode cX1_entryOf 47 = .ok (.iaload, 1) := by decide +kernel
theorem dX1_entryOf_48 : decode cX1_entryOf 48 = .ok (.iload_n 2, 1) := by decide +kernel
theorem dX1_entryOf_49 : decode cX1_entryOf 49 = .ok (.if_icmp .ge 11, 3) := by decide +kernel
theorem dX1_entryOf_52 : decode cX1_entryOf 52 = .ok (.iload 6, 2) := by decide +kernel
theorem dX1_entryOf_54 : decode cX1_entryOf 54 = .ok (.iconst 1, 1) := by decide +kernel
theorem dX1_entryOf_55 : decode cX1_entryOf 55 = .ok (.iadd, 1) := by decide +kernel
theorem dX1_entryOf_56 : decode cX1_entryOf 56 = .ok (.istore_n 3, 1) := by decide +kernel
theorem dX1_entryOf_57 : decode cX1_entryOf 57 = .ok (.goto 7, 3) := by decide +kernel
theorem dX1_entryOf_60 : decode cX1_entryOf 60 = .ok (.iload 6, 2) := by decide +kernel
theorem dX1_entryOf_62 : decode cX1_entryOf 62 = .ok (.istore 4, 2) := by decide +kernel
theorem dX1_entryOf_64 : decode cX1_entryOf 64 = .ok (.iinc 5 1, 3) := by decide +kernel
theorem dX1_entryOf_67 : decode cX1_entryOf 67 = .ok (.goto (-47), 3) := by decide +kernel
theorem dX1_entryOf_70 : decode cX1_entryOf 70 = .ok (.iload_n 3, 1) := by decide +kernel
theorem dX1_entryOf_71 : decode cX1_entryOf 71 = .ok (.ireturn, 1) := by decide +kernel
theorem dX2_init_0 : decode cX2_init 0 = .ok (.aload_n 0, 1) := by decide +kernel
theorem dX2_init_1 : decode cX2_init 1 = .ok (.invokespecial 3, 3) := by decide +kernel
theorem dX2_init_4 : decode cX2_init 4 = .ok (.aload_n 0, 1) := by decide +kernel
theorem dX2_init_5 : decode cX2_init 5 = .ok (.bipush 12, 2) := by decide +kernel
theorem dX2_init_7 : decode cX2_init 7 = .ok (.newarray .int, 2) := by decide +kernel
theorem dX2_init_9 : decode cX2_init 9 = .ok (.putfield 11, 3) := by decide +kernel
theorem dX2_init_12 : decode cX2_init 12 = .ok (.aload_n 0, 1) := by decide +kernel
theorem dX2_init_13 : decode cX2_init 13 = .ok (.bipush 12, 2) := by decide +kernel
theorem dX2_init_15 : decode cX2_init 15 = .ok (.newarray .int, 2) := by decide +kernel
theorem dX2_init_17 : decode cX2_init 17 = .ok (.putfield 15, 3) := by decide +kernel
theorem dX2_init_20 : decode cX2_init 20 = .ok (.aload_n 0, 1) := by decide +kernel
theorem dX2_init_21 : decode cX2_init 21 = .ok (.bipush 12, 2) := by decide +kernel
theorem dX2_init_23 : decode cX2_init 23 = .ok (.newarray .int, 2) := by decide +kernel
theorem dX2_init_25 : decode cX2_init 25 = .ok (.putfield 18, 3) := by decide +kernel
theorem dX2_init_28 : decode cX2_init 28 = .ok (.aload_n 0, 1) := by decide +kernel
theorem dX2_init_29 : decode cX2_init 29 = .ok (.bipush 12, 2) := by decide +kernel
theorem dX2_init_31 : decode cX2_init 31 = .ok (.newarray .int, 2) := by decide +kernel
theorem dX2_init_33 : decode cX2_init 33 = .ok (.putfield 21, 3) := by decide +kernel
theorem dX2_init_36 : decode cX2_init 36 = .ok (.aload_n 0, 1) := by decide +kernel
theorem dX2_init_37 : decode cX2_init 37 = .ok (.bipush 12, 2) := by decide +kernel
theorem dX2_init_39 : decode cX2_init 39 = .ok (.newarray .int, 2) := by decide +kernel
theorem dX2_init_41 : decode cX2_init 41 = .ok (.putfield 24, 3) := by decide +kernel
theorem dX2_init_44 : decode cX2_init 44 = .ok (.aload_n 0, 1) := by decide +kernel
theorem dX2_init_45 : decode cX2_init 45 = .ok (.bipush 12, 2) := by decide +kernel
theorem dX2_init_47 : decode cX2_init 47 = .ok (.newarray .boolean, 2) := by decide +kernel
theorem dX2_init_49 : decode cX2_init 49 = .ok (.putfield 27, 3) := by decide +kernel
theorem dX2_init_52 : decode cX2_init 52 = .ok (.aload_n 0, 1) := by decide +kernel
theorem dX2_init_53 : decode cX2_init 53 = .ok (.iconst 0, 1) := by decide +kernel
theorem dX2_init_54 : decode cX2_init 54 = .ok (.putfield 31, 3) := by decide +kernel
theorem dX2_init_57 : decode cX2_init 57 = .ok (.return_, 1) := by decide +kernel
theorem dX2_has_0 : decode cX2_has 0 = .ok (.iload_n 1, 1) := by decide +kernel
theorem dX2_has_1 : decode cX2_has 1 = .ok (.ifCond .lt 15, 3) := by decide +kernel
theorem dX2_has_4 : decode cX2_has 4 = .ok (.iload_n 1, 1) := by decide +kernel
theorem dX2_has_5 : decode cX2_has 5 = .ok (.aload_n 0, 1) := by decide +kernel
theorem dX2_has_6 : decode cX2_has 6 = .ok (.getfield 31, 3) := by decide +kernel
theorem dX2_has_9 : decode cX2_has 9 = .ok (.if_icmp .ge 7, 3) := by decide +kernel
theorem dX2_has_12 : decode cX2_has 12 = .ok (.iconst 1, 1) := by decide +kernel
theorem dX2_has_13 : decode cX2_has 13 = .ok (.goto 4, 3) := by decide +kernel
theorem dX2_has_16 : decode cX2_has 16 = .ok (.iconst 0, 1) := by decide +kernel
theorem dX2_has_17 : decode cX2_has 17 = .ok (.ireturn, 1) := by decide +kernel
theorem dX2_add_0 : decode cX2_add 0 = .ok (.aload_n 0, 1) := by decide +kernel
theorem dX2_add_1 : decode cX2_add 1 = .ok (.getfield 31, 3) := by decide +kernel
theorem dX2_add_4 : decode cX2_add 4 = .ok (.bipush 12, 2) := by decide +kernel
theorem dX2_add_6 : decode cX2_add 6 = .ok (.if_icmp .lt 6, 3) := by decide +kernel
theorem dX2_add_9 : decode cX2_add 9 = .ok (.bipush (-4), 2) := by decide +kernel
theorem dX2_add_11 : decode cX2_add 11 = .ok (.ireturn, 1) := by decide +kernel
theorem dX2_add_12 : decode cX2_add 12 = .ok (.aload_n 0, 1) := by decide +kernel
theorem dX2_add_13 : decode cX2_add 13 = .ok (.dup, 1) := by decide +kernel
theorem dX2_add_14 : decode cX2_add 14 = .ok (.getfield 31, 3) := by decide +kernel
theorem dX2_add_17 : decode cX2_add 17 = .ok (.dup_x1, 1) := by decide +kernel
theorem dX2_add_18 : decode cX2_add 18 = .ok (.iconst 1, 1) := by decide +kernel
theorem dX2_add_19 : decode cX2_add 19 = .ok (.iadd, 1) := by decide +kernel
theorem dX2_add_20 : decode cX2_add 20 = .ok (.putfield 31, 3) := by decide +kernel
theorem dX2_add_23 : decode cX2_add 23 = .ok (.istore 4, 2) := by decide +kernel
theorem dX2_add_25 : decode cX2_add 25 = .ok (.aload_n 0, 1) := by decide +kernel
theorem dX2_add_26 : decode cX2_add 26 = .ok (.getfield 11, 3) := by decide +kernel
theorem dX2_add_29 : decode cX2_add 29 = .ok (.iload 4, 2) := by decide +kernel
theorem dX2_add_31 : decode cX2_add 31 = .ok (.iload_n 1, 1) := by decide +kernel
theorem dX2_add_32 : decode cX2_add 32 = .ok (.iastore, 1) := by decide +kernel
theorem dX2_add_33 : decode cX2_add 33 = .ok (.aload_n 0, 1) := by decide +kernel
theorem dX2_add_34 : decode cX2_add 34 = .ok (.getfield 15, 3) := by decide +kernel
theorem dX2_add_37 : decode cX2_add 37 = .ok (.iload 4, 2) := by decide +kernel
theorem dX2_add_39 : decode cX2_add 39 = .ok (.iload_n 2, 1) := by decide +kernel
theorem dX2_add_40 : decode cX2_add 40 = .ok (.iastore, 1) := by decide +kernel
theorem dX2_add_41 : decode cX2_add 41 = .ok (.aload_n 0, 1) := by decide +kernel
theorem dX2_add_42 : decode cX2_add 42 = .ok (.getfield 18, 3) := by decide +kernel
theorem dX2_add_45 : decode cX2_add 45 = .ok (.iload 4, 2) := by decide +kernel
theorem dX2_add_47 : decode cX2_add 47 = .ok (.iload_n 3, 1) := by decide +kernel
theorem dX2_add_48 : decode cX2_add 48 = .ok (.iastore, 1) := by decide +kernel
theorem dX2_add_49 : decode cX2_add 49 = .ok (.aload_n 0, 1) := by decide +kernel
theorem dX2_add_50 : decode cX2_add 50 = .ok (.getfield 27, 3) := by decide +kernel
theorem dX2_add_53 : decode cX2_add 53 = .ok (.iload 4, 2) := by decide +kernel
theorem dX2_add_55 : decode cX2_add 55 = .ok (.iconst 1, 1) := by decide +kernel
theorem dX2_add_56 : decode cX2_add 56 = .ok (.bastore, 1) := by decide +kernel
theorem dX2_add_57 : decode cX2_add 57 = .ok (.aload_n 0, 1) := by decide +kernel
theorem dX2_add_58 : decode cX2_add 58 = .ok (.getfield 24, 3) := by decide +kernel
theorem dX2_add_61 : decode cX2_add 61 = .ok (.iload 4, 2) := by decide +kernel
theorem dX2_add_63 : decode cX2_add 63 = .ok (.iconst 1, 1) := by decide +kernel
theorem dX2_add_64 : decode cX2_add 64 = .ok (.iastore, 1) := by decide +kernel
theorem dX2_add_65 : decode cX2_add 65 = .ok (.aload_n 0, 1) := by decide +kernel
theorem dX2_add_66 : decode cX2_add 66 = .ok (.getfield 21, 3) := by decide +kernel
theorem dX2_add_69 : decode cX2_add 69 = .ok (.iload 4, 2) := by decide +kernel
theorem dX2_add_71 : decode cX2_add 71 = .ok (.iconst 1, 1) := by decide +kernel
theorem dX2_add_72 : decode cX2_add 72 = .ok (.iload 4, 2) := by decide +kernel
theorem dX2_add_74 : decode cX2_add 74 = .ok (.ishl, 1) := by decide +kernel
theorem dX2_add_75 : decode cX2_add 75 = .ok (.iastore, 1) := by decide +kernel
theorem dX2_add_76 : decode cX2_add 76 = .ok (.iload_n 1, 1) := by decide +kernel
theorem dX2_add_77 : decode cX2_add 77 = .ok (.ifCond .eq 10, 3) := by decide +kernel
theorem dX2_add_80 : decode cX2_add 80 = .ok (.aload_n 0, 1) := by decide +kernel
theorem dX2_add_81 : decode cX2_add 81 = .ok (.iload 4, 2) := by decide +kernel
theorem dX2_add_83 : decode cX2_add 83 = .ok (.iload_n 2, 1) := by decide +kernel
theorem dX2_add_84 : decode cX2_add 84 = .ok (.invokevirtual 35, 3) := by decide +kernel
theorem dX2_add_87 : decode cX2_add 87 = .ok (.iload_n 1, 1) := by decide +kernel
theorem dX2_add_88 : decode cX2_add 88 = .ok (.iconst 2, 1) := by decide +kernel
theorem dX2_add_89 : decode cX2_add 89 = .ok (.if_icmp .ne 10, 3) := by decide +kernel
theorem dX2_add_92 : decode cX2_add 92 = .ok (.aload_n 0, 1) := by decide +kernel
theorem dX2_add_93 : decode cX2_add 93 = .ok (.iload 4, 2) := by decide +kernel
theorem dX2_add_95 : decode cX2_add 95 = .ok (.iload_n 3, 1) := by decide +kernel
theorem dX2_add_96 : decode cX2_add 96 = .ok (.invokevirtual 35, 3) := by decide +kernel
theorem dX2_add_99 : decode cX2_add 99 = .ok (.iload 4, 2) := by decide +kernel
theorem dX2_add_101 : decode cX2_add 101 = .ok (.ireturn, 1) := by decide +kernel
theorem dX2_addPart_0 : decode cX2_addPart 0 = .ok (.aload_n 0, 1) := by decide +kernel
theorem dX2_addPart_1 : decode cX2_addPart 1 = .ok (.getfield 24, 3) := by decide +kernel
theorem dX2_addPart_4 : decode cX2_addPart 4 = .ok (.iload_n 1, 1) := by decide +kernel
theorem dX2_addPart_5 : decode cX2_addPart 5 = .ok (.dup2, 1) := by decide +kernel
theorem dX2_addPart_6 : decode cX2_addPart 6 = .ok (.iaload, 1) := by decide +kernel
theorem dX2_addPart_7 : decode cX2_addPart 7 = .ok (.aload_n 0, 1) := by decide +kernel
theorem dX2_addPart_8 : decode cX2_addPart 8 = .ok (.getfield 24, 3) := by decide +kernel
theorem dX2_addPart_11 : decode cX2_addPart 11 = .ok (.iload_n 2, 1) := by decide +kernel
theorem dX2_addPart_12 : decode cX2_addPart 12 = .ok (.iaload, 1) := by decide +kernel
theorem dX2_addPart_13 : decode cX2_addPart 13 = .ok (.iadd, 1) := by decide +kernel
theorem dX2_addPart_14 : decode cX2_addPart 14 = .ok (.iastore, 1) := by decide +kernel
theorem dX2_addPart_15 : decode cX2_addPart 15 = .ok (.aload_n 0, 1) := by decide +kernel
theorem dX2_addPart_16 : decode cX2_addPart 16 = .ok (.getfield 21, 3) := by decide +kernel
theorem dX2_addPart_19 : decode cX2_addPart 19 = .ok (.iload_n 1, 1) := by decide +kernel
theorem dX2_addPart_20 : decode cX2_addPart 20 = .ok (.dup2, 1) := by decide +kernel
theorem dX2_addPart_21 : decode cX2_addPart 21 = .ok (.iaload, 1) := by decide +kernel
theorem dX2_addPart_22 : decode cX2_addPart 22 = .ok (.aload_n 0, 1) := by decide +kernel
theorem dX2_addPart_23 : decode cX2_addPart 23 = .ok (.getfield 21, 3) := by decide +kernel
theorem dX2_addPart_26 : decode cX2_addPart 26 = .ok (.iload_n 2, 1) := by decide +kernel
theorem dX2_addPart_27 : decode cX2_addPart 27 = .ok (.iaload, 1) := by decide +kernel
theorem dX2_addPart_28 : decode cX2_addPart 28 = .ok (.ior, 1) := by decide +kernel
theorem dX2_addPart_29 : decode cX2_addPart 29 = .ok (.iastore, 1) := by decide +kernel
theorem dX2_addPart_30 : decode cX2_addPart 30 = .ok (.return_, 1) := by decide +kernel
theorem dX2_howManyAwake_0 : decode cX2_howManyAwake 0 = .ok (.iconst 0, 1) := by decide +kernel
theorem dX2_howManyAwake_1 : decode cX2_howManyAwake 1 = .ok (.istore_n 1, 1) := by decide +kernel
theorem dX2_howManyAwake_2 : decode cX2_howManyAwake 2 = .ok (.iconst 0, 1) := by decide +kernel
theorem dX2_howManyAwake_3 : decode cX2_howManyAwake 3 = .ok (.istore_n 2, 1) := by decide +kernel
theorem dX2_howManyAwake_4 : decode cX2_howManyAwake 4 = .ok (.iload_n 2, 1) := by decide +kernel
theorem dX2_howManyAwake_5 : decode cX2_howManyAwake 5 = .ok (.aload_n 0, 1) := by decide +kernel
theorem dX2_howManyAwake_6 : decode cX2_howManyAwake 6 = .ok (.getfield 31, 3) := by decide +kernel
theorem dX2_howManyAwake_9 : decode cX2_howManyAwake 9 = .ok (.if_icmp .ge 21, 3) := by decide +kernel
theorem dX2_howManyAwake_12 : decode cX2_howManyAwake 12 = .ok (.aload_n 0, 1) := by decide +kernel
theorem dX2_howManyAwake_13 : decode cX2_howManyAwake 13 = .ok (.getfield 27, 3) := by decide +kernel
theorem dX2_howManyAwake_16 : decode cX2_howManyAwake 16 = .ok (.iload_n 2, 1) := by decide +kernel
theorem dX2_howManyAwake_17 : decode cX2_howManyAwake 17 = .ok (.baload, 1) := by decide +kernel
theorem dX2_howManyAwake_18 : decode cX2_howManyAwake 18 = .ok (.ifCond .eq 6, 3) := by decide +kernel
theorem dX2_howManyAwake_21 : decode cX2_howManyAwake 21 = .ok (.iinc 1 1, 3) := by decide +kernel
theorem dX2_howManyAwake_24 : decode cX2_howManyAwake 24 = .ok (.iinc 2 1, 3) := by decide +kernel
theorem dX2_howManyAwake_27 : decode cX2_howManyAwake 27 = .ok (.goto (-23), 3) := by decide +kernel
theorem dX2_howManyAwake_30 : decode cX2_howManyAwake 30 = .ok (.iload_n 1, 1) := by decide +kernel
theorem dX2_howManyAwake_31 : decode cX2_howManyAwake 31 = .ok (.ireturn, 1) := by decide +kernel
theorem dX3_init_0 : decode cX3_init 0 = .ok (.aload_n 0, 1) := by decide +kernel
theorem dX3_init_1 : decode cX3_init 1 = .ok (.invokespecial 3, 3) := by decide +kernel
theorem dX3_init_4 : decode cX3_init 4 = .ok (.aload_n 0, 1) := by decide +kernel
theorem dX3_init_5 : decode cX3_init 5 = .ok (.bipush 6, 2) := by decide +kernel
theorem dX3_init_7 : decode cX3_init 7 = .ok (.newarray .int, 2) := by decide +kernel
theorem dX3_init_9 : decode cX3_init 9 = .ok (.putfield 11, 3) := by decide +kernel
theorem dX3_init_12 : decode cX3_init 12 = .ok (.aload_n 0, 1) := by decide +kernel
theorem dX3_init_13 : decode cX3_init 13 = .ok (.bipush 6, 2) := by decide +kernel
theorem dX3_init_15 : decode cX3_init 15 = .ok (.newarray .int, 2) := by decide +kernel
theorem dX3_init_17 : decode cX3_init 17 = .ok (.putfield 15, 3) := by decide +kernel
theorem dX3_init_20 : decode cX3_init 20 = .ok (.aload_n 0, 1) := by decide +kernel
theorem dX3_init_21 : decode cX3_init 21 = .ok (.iconst 0, 1) := by decide +kernel
theorem dX3_init_22 : decode cX3_init 22 = .ok (.putfield 18, 3) := by decide +kernel
theorem dX3_init_25 : decode cX3_init 25 = .ok (.return_, 1) := by decide +kernel
theorem dX3_add_0 : decode cX3_add 0 = .ok (.aload_n 0, 1) := by decide +kernel
theorem dX3_add_1 : decode cX3_add 1 = .ok (.getfield 18, 3) := by decide +kernel
theorem dX3_add_4 : decode cX3_add 4 = .ok (.bipush 6, 2) := by decide +kernel
theorem dX3_add_6 : decode cX3_add 6 = .ok (.if_icmp .lt 6, 3) := by decide +kernel
theorem dX3_add_9 : decode cX3_add 9 = .ok (.bipush (-4), 2) := by decide +kernel
theorem dX3_add_11 : decode cX3_add 11 = .ok (.ireturn, 1) := by decide +kernel
theorem dX3_add_12 : decode cX3_add 12 = .ok (.aload_n 0, 1) := by decide +kernel
theorem dX3_add_13 : decode cX3_add 13 = .ok (.getfield 11, 3) := by decide +kernel
theorem dX3_add_16 : decode cX3_add 16 = .ok (.aload_n 0, 1) := by decide +kernel
theorem dX3_add_17 : decode cX3_add 17 = .ok (.getfield 18, 3) := by decide +kernel
theorem dX3_add_20 : decode cX3_add 20 = .ok (.iload_n 1, 1) := by decide +kernel
theorem dX3_add_21 : decode cX3_add 21 = .ok (.iastore, 1) := by decide +kernel
theorem dX3_add_22 : decode cX3_add 22 = .ok (.aload_n 0, 1) := by decide +kernel
theorem dX3_add_23 : decode cX3_add 23 = .ok (.getfield 15, 3) := by decide +kernel
theorem dX3_add_26 : decode cX3_add 26 = .ok (.aload_n 0, 1) := by decide +kernel
theorem dX3_add_27 : decode cX3_add 27 = .ok (.getfield 18, 3) := by decide +kernel
theorem dX3_add_30 : decode cX3_add 30 = .ok (.iload_n 2, 1) := by decide +kernel
theorem dX3_add_31 : decode cX3_add 31 = .ok (.iastore, 1) := by decide +kernel
theorem dX3_add_32 : decode cX3_add 32 = .ok (.aload_n 0, 1) := by decide +kernel
theorem dX3_add_33 : decode cX3_add 33 = .ok (.dup, 1) := by decide +kernel
theorem dX3_add_34 : decode cX3_add 34 = .ok (.getfield 18, 3) := by decide +kernel
theorem dX3_add_37 : decode cX3_add 37 = .ok (.dup_x1, 1) := by decide +kernel
theorem dX3_add_38 : decode cX3_add 38 = .ok (.iconst 1, 1) := by decide +kernel
theorem dX3_add_39 : decode cX3_add 39 = .ok (.iadd, 1) := by decide +kernel
theorem dX3_add_40 : decode cX3_add 40 = .ok (.putfield 18, 3) := by decide +kernel
theorem dX3_add_43 : decode cX3_add 43 = .ok (.ireturn, 1) := by decide +kernel
theorem dX3_all_0 : decode cX3_all 0 = .ok (.iconst 1, 1) := by decide +kernel
theorem dX3_all_1 : decode cX3_all 1 = .ok (.aload_n 0, 1) := by decide +kernel
theorem dX3_all_2 : decode cX3_all 2 = .ok (.getfield 18, 3) := by decide +kernel
theorem dX3_all_5 : decode cX3_all 5 = .ok (.ishl, 1) := by decide +kernel
theorem dX3_all_6 : decode cX3_all 6 = .ok (.iconst 1, 1) := by decide +kernel
theorem dX3_all_7 : decode cX3_all 7 = .ok (.isub, 1) := by decide +kernel
theorem dX3_all_8 : decode cX3_all 8 = .ok (.ireturn, 1) := by decide +kernel
theorem dX4_init_0 : decode cX4_init 0 = .ok (.aload_n 0, 1) := by decide +kernel
theorem dX4_init_1 : decode cX4_init 1 = .ok (.invokespecial 3, 3) := by decide +kernel
theorem dX4_init_4 : decode cX4_init 4 = .ok (.aload_n 0, 1) := by decide +kernel
theorem dX4_init_5 : decode cX4_init 5 = .ok (.bipush 20, 2) := by decide +kernel
theorem dX4_init_7 : decode cX4_init 7 = .ok (.newarray .int, 2) := by decide +kernel
theorem dX4_init_9 : decode cX4_init 9 = .ok (.putfield 11, 3) := by decide +kernel
theorem dX4_init_12 : decode cX4_init 12 = .ok (.aload_n 0, 1) := by decide +kernel
theorem dX4_init_13 : decode cX4_init 13 = .ok (.bipush 20, 2) := by decide +kernel
theorem dX4_init_15 : decode cX4_init 15 = .ok (.newarray .int, 2) := by decide +kernel
theorem dX4_init_17 : decode cX4_init 17 = .ok (.putfield 17, 3) := by decide +kernel
theorem dX4_init_20 : decode cX4_init 20 = .ok (.aload_n 0, 1) := by decide +kernel
theorem dX4_init_21 : decode cX4_init 21 = .ok (.sipush 400, 3) := by decide +kernel
theorem dX4_init_24 : decode cX4_init 24 = .ok (.newarray .int, 2) := by decide +kernel
theorem dX4_init_26 : decode cX4_init 26 = .ok (.putfield 20, 3) := by decide +kernel
theorem dX4_init_29 : decode cX4_init 29 = .ok (.aload_n 0, 1) := by decide +kernel
theorem dX4_init_30 : decode cX4_init 30 = .ok (.bipush 20, 2) := by decide +kernel
theorem dX4_init_32 : decode cX4_init 32 = .ok (.newarray .int, 2) := by decide +kernel
theorem dX4_init_34 : decode cX4_init 34 = .ok (.putfield 23, 3) := by decide +kernel
theorem dX4_init_37 : decode cX4_init 37 = .ok (.aload_n 0, 1) := by decide +kernel
theorem dX4_init_38 : decode cX4_init 38 = .ok (.iconst 0, 1) := by decide +kernel
theorem dX4_init_39 : decode cX4_init 39 = .ok (.putfield 26, 3) := by decide +kernel
theorem dX4_init_42 : decode cX4_init 42 = .ok (.aload_n 0, 1) := by decide +kernel
theorem dX4_init_43 : decode cX4_init 43 = .ok (.iconst 0, 1) := by decide +kernel
theorem dX4_init_44 : decode cX4_init 44 = .ok (.putfield 30, 3) := by decide +kernel
theorem dX4_init_47 : decode cX4_init 47 = .ok (.return_, 1) := by decide +kernel
theorem dX4_forget_0 : decode cX4_forget 0 = .ok (.aload_n 0, 1) := by decide +kernel
theorem dX4_forget_1 : decode cX4_forget 1 = .ok (.iconst 0, 1) := by decide +kernel
theorem dX4_forget_2 : decode cX4_forget 2 = .ok (.putfield 30, 3) := by decide +kernel
theorem dX4_forget_5 : decode cX4_forget 5 = .ok (.return_, 1) := by decide +kernel
theorem dX4_roundOf_0 : decode cX4_roundOf 0 = .ok (.aload_n 0, 1) := by decide +kernel
theorem dX4_roundOf_1 : decode cX4_roundOf 1 = .ok (.getfield 20, 3) := by decide +kernel
theorem dX4_roundOf_4 : decode cX4_roundOf 4 = .ok (.iload_n 1, 1) := by decide +kernel
theorem dX4_roundOf_5 : decode cX4_roundOf 5 = .ok (.bipush 20, 2) := by decide +kernel
theorem dX4_roundOf_7 : decode cX4_roundOf 7 = .ok (.imul, 1) := by decide +kernel
theorem dX4_roundOf_8 : decode cX4_roundOf 8 = .ok (.iload_n 2, 1) := by decide +kernel
theorem dX4_roundOf_9 : decode cX4_roundOf 9 = .ok (.iadd, 1) := by decide +kernel
theorem dX4_roundOf_10 : decode cX4_roundOf 10 = .ok (.iaload, 1) := by decide +kernel
theorem dX4_roundOf_11 : decode cX4_roundOf 11 = .ok (.ireturn, 1) := by decide +kernel
theorem dX4_howManyGroups_0 : decode cX4_howManyGroups 0 = .ok (.iconst 0, 1) := by decide +kernel
theorem dX4_howManyGroups_1 : decode cX4_howManyGroups 1 = .ok (.istore_n 2, 1) := by decide +kernel
theorem dX4_howManyGroups_2 : decode cX4_howManyGroups 2 = .ok (.iconst 0, 1) := by decide +kernel
theorem dX4_howManyGroups_3 : decode cX4_howManyGroups 3 = .ok (.istore_n 3, 1) := by decide +kernel
theorem dX4_howManyGroups_4 : decode cX4_howManyGroups 4 = .ok (.iload_n 3, 1) := by decide +kernel
theorem dX4_howManyGroups_5 : decode cX4_howManyGroups 5 = .ok (.iload_n 1, 1) := by decide +kernel
theorem dX4_howManyGroups_6 : decode cX4_howManyGroups 6 = .ok (.if_icmp .ge 22, 3) := by decide +kernel
theorem dX4_howManyGroups_9 : decode cX4_howManyGroups 9 = .ok (.aload_n 0, 1) := by decide +kernel
theorem dX4_howManyGroups_10 : decode cX4_howManyGroups 10 = .ok (.getfield 11, 3) := by decide +kernel
theorem dX4_howManyGroups_13 : decode cX4_howManyGroups 13 = .ok (.iload_n 3, 1) := by decide +kernel
theorem dX4_howManyGroups_14 : decode cX4_howManyGroups 14 = .ok (.iaload, 1) := by decide +kernel
theorem dX4_howManyGroups_15 : decode cX4_howManyGroups 15 = .ok (.iload_n 3, 1) := by decide +kernel
theorem dX4_howManyGroups_16 : decode cX4_howManyGroups 16 = .ok (.if_icmp .ne 6, 3) := by decide +kernel
theorem dX4_howManyGroups_19 : decode cX4_howManyGroups 19 = .ok (.iinc 2 1, 3) := by decide +kernel
theorem dX4_howManyGroups_22 : decode cX4_howManyGroups 22 = .ok (.iinc 3 1, 3) := by decide +kernel
theorem dX4_howManyGroups_25 : decode cX4_howManyGroups 25 = .ok (.goto (-21), 3) := by decide +kernel
theorem dX4_howManyGroups_28 : decode cX4_howManyGroups 28 = .ok (.iload_n 2, 1) := by decide +kernel
theorem dX4_howManyGroups_29 : decode cX4_howManyGroups 29 = .ok (.ireturn, 1) := by decide +kernel
theorem dX4_settle_0 : decode cX4_settle 0 = .ok (.aload_n 0, 1) := by decide +kernel
theorem dX4_settle_1 : decode cX4_settle 1 = .ok (.getfield 30, 3) := by decide +kernel
theorem dX4_settle_4 : decode cX4_settle 4 = .ok (.ifCond .eq 4, 3) := by decide +kernel
theorem dX4_settle_7 : decode cX4_settle 7 = .ok (.return_, 1) := by decide +kernel
theorem dX4_settle_8 : decode cX4_settle 8 = .ok (.aload_n 0, 1) := by decide +kernel
theorem dX4_settle_9 : decode cX4_settle 9 = .ok (.aload_n 1, 1) := by decide +kernel
theorem dX4_settle_10 : decode cX4_settle 10 = .ok (.getfield 34, 3) := by decide +kernel
theorem dX4_settle_13 : decode cX4_settle 13 = .ok (.invokevirtual 37, 3) := by decide +kernel
theorem dX4_settle_16 : decode cX4_settle 16 = .ok (.iconst 1, 1) := by decide +kernel
theorem dX4_settle_17 : decode cX4_settle 17 = .ok (.istore_n 3, 1) := by decide +kernel
theorem dX4_settle_18 : decode cX4_settle 18 = .ok (.iload_n 3, 1) := by decide +kernel
theorem dX4_settle_19 : decode cX4_settle 19 = .ok (.bipush 20, 2) := by decide +kernel
theorem dX4_settle_21 : decode cX4_settle 21 = .ok (.if_icmp .gt 62, 3) := by decide +kernel
theorem dX4_settle_24 : decode cX4_settle 24 = .ok (.aload_n 0, 1) := by decide +kernel
theorem dX4_settle_25 : decode cX4_settle 25 = .ok (.getfield 11, 3) := by decide +kernel
theorem dX4_settle_28 : decode cX4_settle 28 = .ok (.iconst 0, 1) := by decide +kernel
theorem dX4_settle_29 : decode cX4_settle 29 = .ok (.aload_n 0, 1) := by decide +kernel
theorem dX4_settle_30 : decode cX4_settle 30 = .ok (.getfield 17, 3) := by decide +kernel
theorem dX4_settle_33 : decode cX4_settle 33 = .ok (.iconst 0, 1) := by decide +kernel
theorem dX4_settle_34 : decode cX4_settle 34 = .ok (.aload_n 1, 1) := by decide +kernel
theorem dX4_settle_35 : decode cX4_settle 35 = .ok (.getfield 34, 3) := by decide +kernel
theorem dX4_settle_38 : decode cX4_settle 38 = .ok (.invokestatic 41, 3) := by decide +kernel
theorem dX4_settle_41 : decode cX4_settle 41 = .ok (.iload_n 3, 1) := by decide +kernel
theorem dX4_settle_42 : decode cX4_settle 42 = .ok (.iconst 1, 1) := by decide +kernel
theorem dX4_settle_43 : decode cX4_settle 43 = .ok (.if_icmp .ne 9, 3) := by decide +kernel
theorem dX4_settle_46 : decode cX4_settle 46 = .ok (.aload_n 0, 1) := by decide +kernel
theorem dX4_settle_47 : decode cX4_settle 47 = .ok (.aload_n 1, 1) := by decide +kernel
theorem dX4_settle_48 : decode cX4_settle 48 = .ok (.aload_n 2, 1) := by decide +kernel
theorem dX4_settle_49 : decode cX4_settle 49 = .ok (.invokevirtual 47, 3) := by decide +kernel
theorem dX4_settle_52 : decode cX4_settle 52 = .ok (.aload_n 0, 1) := by decide +kernel
theorem dX4_settle_53 : decode cX4_settle 53 = .ok (.aload_n 1, 1) := by decide +kernel
theorem dX4_settle_54 : decode cX4_settle 54 = .ok (.invokevirtual 51, 3) := by decide +kernel
theorem dX4_settle_57 : decode cX4_settle 57 = .ok (.aload_n 0, 1) := by decide +kernel
theorem dX4_settle_58 : decode cX4_settle 58 = .ok (.aload_n 1, 1) := by decide +kernel
theorem dX4_settle_59 : decode cX4_settle 59 = .ok (.getfield 34, 3) := by decide +kernel
theorem dX4_settle_62 : decode cX4_settle 62 = .ok (.iload_n 3, 1) := by decide +kernel
theorem dX4_settle_63 : decode cX4_settle 63 = .ok (.invokevirtual 55, 3) := by decide +kernel
theorem dX4_settle_66 : decode cX4_settle 66 = .ok (.ifCond .ne 6, 3) := by decide +kernel
theorem dX4_settle_69 : decode cX4_settle 69 = .ok (.goto 14, 3) := by decide +kernel
theorem dX4_settle_72 : decode cX4_settle 72 = .ok (.aload_n 0, 1) := by decide +kernel
theorem dX4_settle_73 : decode cX4_settle 73 = .ok (.iload_n 3, 1) := by decide +kernel
theorem dX4_settle_74 : decode cX4_settle 74 = .ok (.putfield 26, 3) := by decide +kernel
theorem dX4_settle_77 : decode cX4_settle 77 = .ok (.iinc 3 1, 3) := by decide +kernel
theorem dX4_settle_80 : decode cX4_settle 80 = .ok (.goto (-62), 3) := by decide +kernel
theorem dX4_settle_83 : decode cX4_settle 83 = .ok (.aload_n 0, 1) := by decide +kernel
theorem dX4_settle_84 : decode cX4_settle 84 = .ok (.iconst 1, 1) := by decide +kernel
theorem dX4_settle_85 : decode cX4_settle 85 = .ok (.putfield 30, 3) := by decide +kernel
theorem dX4_settle_88 : decode cX4_settle 88 = .ok (.return_, 1) := by decide +kernel
theorem dX4_begin_0 : decode cX4_begin 0 = .ok (.aload_n 0, 1) := by decide +kernel
theorem dX4_begin_1 : decode cX4_begin 1 = .ok (.iconst 0, 1) := by decide +kernel
theorem dX4_begin_2 : decode cX4_begin 2 = .ok (.putfield 26, 3) := by decide +kernel
theorem dX4_begin_5 : decode cX4_begin 5 = .ok (.aload_n 0, 1) := by decide +kernel
theorem dX4_begin_6 : decode cX4_begin 6 = .ok (.getfield 20, 3) := by decide +kernel
theorem dX4_begin_9 : decode cX4_begin 9 = .ok (.bipush (-9), 2) := by decide +kernel
theorem dX4_begin_11 : decode cX4_begin 11 = .ok (.invokestatic 59, 3) := by decide +kernel
theorem dX4_begin_14 : decode cX4_begin 14 = .ok (.iconst 0, 1) := by decide +kernel
theorem dX4_begin_15 : decode cX4_begin 15 = .ok (.istore_n 2, 1) := by decide +kernel
theorem dX4_begin_16 : decode cX4_begin 16 = .ok (.iload_n 2, 1) := by decide +kernel
theorem dX4_begin_17 : decode cX4_begin 17 = .ok (.iload_n 1, 1) := by decide +kernel
theorem dX4_begin_18 : decode cX4_begin 18 = .ok (.if_icmp .ge 28, 3) := by decide +kernel
theorem dX4_begin_21 : decode cX4_begin 21 = .ok (.aload_n 0, 1) := by decide +kernel
theorem dX4_begin_22 : decode cX4_begin 22 = .ok (.getfield 11, 3) := by decide +kernel
theorem dX4_begin_25 : decode cX4_begin 25 = .ok (.iload_n 2, 1) := by decide +kernel
theorem dX4_begin_26 : decode cX4_begin 26 = .ok (.iload_n 2, 1) := by decide +kernel
theorem dX4_begin_27 : decode cX4_begin 27 = .ok (.iastore, 1) := by decide +kernel
theorem dX4_begin_28 : decode cX4_begin 28 = .ok (.aload_n 0, 1) := by decide +kernel
theorem dX4_begin_29 : decode cX4_begin 29 = .ok (.getfield 20, 3) := by decide +kernel
theorem dX4_begin_32 : decode cX4_begin 32 = .ok (.iload_n 2, 1) := by decide +kernel
theorem dX4_begin_33 : decode cX4_begin 33 = .ok (.bipush 20, 2) := by decide +kernel
theorem dX4_begin_35 : decode cX4_begin 35 = .ok (.imul, 1) := by decide +kernel
theorem dX4_begin_36 : decode cX4_begin 36 = .ok (.iload_n 2, 1) := by decide +kernel
theorem dX4_begin_37 : decode cX4_begin 37 = .ok (.iadd, 1) := by decide +kernel
theorem dX4_begin_38 : decode cX4_begin 38 = .ok (.iconst 0, 1) := by decide +kernel
theorem dX4_begin_39 : decode cX4_begin 39 = .ok (.iastore, 1) := by decide +kernel
theorem dX4_begin_40 : decode cX4_begin 40 = .ok (.iinc 2 1, 3) := by decide +kernel
theorem dX4_begin_43 : decode cX4_begin 43 = .ok (.goto (-27), 3) := by decide +kernel
theorem dX4_begin_46 : decode cX4_begin 46 = .ok (.return_, 1) := by decide +kernel
theorem dX4_joinByLaws_0 : decode cX4_joinByLaws 0 = .ok (.iconst 0, 1) := by decide +kernel
theorem dX4_joinByLaws_1 : decode cX4_joinByLaws 1 = .ok (.istore_n 3, 1) := by decide +kernel
theorem dX4_joinByLaws_2 : decode cX4_joinByLaws 2 = .ok (.iload_n 3, 1) := by decide +kernel
theorem dX4_joinByLaws_3 : decode cX4_joinByLaws 3 = .ok (.aload_n 2, 1) := by decide +kernel
theorem dX4_joinByLaws_4 : decode cX4_joinByLaws 4 = .ok (.getfield 65, 3) := by decide +kernel
theorem dX4_joinByLaws_7 : decode cX4_joinByLaws 7 = .ok (.if_icmp .ge 98, 3) := by decide +kernel
theorem dX4_joinByLaws_10 : decode cX4_joinByLaws 10 = .ok (.iconst 0, 1) := by decide +kernel
theorem dX4_joinByLaws_11 : decode cX4_joinByLaws 11 = .ok (.istore 4, 2) := by decide +kernel
theorem dX4_joinByLaws_13 : decode cX4_joinByLaws 13 = .ok (.iload 4, 2) := by decide +kernel
theorem dX4_joinByLaws_15 : decode cX4_joinByLaws 15 = .ok (.aload_n 1, 1) := by decide +kernel
theorem dX4_joinByLaws_16 : decode cX4_joinByLaws 16 = .ok (.getfield 34, 3) := by decide +kernel
theorem dX4_joinByLaws_19 : decode cX4_joinByLaws 19 = .ok (.if_icmp .ge 80, 3) := by decide +kernel
theorem dX4_joinByLaws_22 : decode cX4_joinByLaws 22 = .ok (.iconst 0, 1) := by decide +kernel
theorem dX4_joinByLaws_23 : decode cX4_joinByLaws 23 = .ok (.istore 5, 2) := by decide +kernel
theorem dX4_joinByLaws_25 : decode cX4_joinByLaws 25 = .ok (.iload 5, 2) := by decide +kernel
theorem dX4_joinByLaws_27 : decode cX4_joinByLaws 27 = .ok (.aload_n 1, 1) := by decide +kernel
theorem dX4_joinByLaws_28 : decode cX4_joinByLaws 28 = .ok (.getfield 34, 3) := by decide +kernel
theorem dX4_joinByLaws_31 : decode cX4_joinByLaws 31 = .ok (.if_icmp .ge 62, 3) := by decide +kernel
theorem dX4_joinByLaws_34 : decode cX4_joinByLaws 34 = .ok (.aload_n 0, 1) := by decide +kernel
theorem dX4_joinByLaws_35 : decode cX4_joinByLaws 35 = .ok (.getfield 11, 3) := by decide +kernel
theorem dX4_joinByLaws_38 : decode cX4_joinByLaws 38 = .ok (.iload 4, 2) := by decide +kernel
theorem dX4_joinByLaws_40 : decode cX4_joinByLaws 40 = .ok (.iaload, 1) := by decide +kernel
theorem dX4_joinByLaws_41 : decode cX4_joinByLaws 41 = .ok (.aload_n 0, 1) := by decide +kernel
theorem dX4_joinByLaws_42 : decode cX4_joinByLaws 42 = .ok (.getfield 11, 3) := by decide +kernel
theorem dX4_joinByLaws_45 : decode cX4_joinByLaws 45 = .ok (.iload 5, 2) := by decide +kernel
theorem dX4_joinByLaws_47 : decode cX4_joinByLaws 47 = .ok (.iaload, 1) := by decide +kernel
theorem dX4_joinByLaws_48 : decode cX4_joinByLaws 48 = .ok (.if_icmp .eq 39, 3) := by decide +kernel
theorem dX4_joinByLaws_51 : decode cX4_joinByLaws 51 = .ok (.aload_n 0, 1) := by decide +kernel
theorem dX4_joinByLaws_52 : decode cX4_joinByLaws 52 = .ok (.aload_n 1, 1) := by decide +kernel
theorem dX4_joinByLaws_53 : decode cX4_joinByLaws 53 = .ok (.aload_n 2, 1) := by decide +kernel
theorem dX4_joinByLaws_54 : decode cX4_joinByLaws 54 = .ok (.getfield 68, 3) := by decide +kernel
theorem dX4_joinByLaws_57 : decode cX4_joinByLaws 57 = .ok (.iload_n 3, 1) := by decide +kernel
theorem dX4_joinByLaws_58 : decode cX4_joinByLaws 58 = .ok (.iaload, 1) := by decide +kernel
theorem dX4_joinByLaws_59 : decode cX4_joinByLaws 59 = .ok (.aload_n 2, 1) := by decide +kernel
theorem dX4_joinByLaws_60 : decode cX4_joinByLaws 60 = .ok (.getfield 71, 3) := by decide +kernel
theorem dX4_joinByLaws_63 : decode cX4_joinByLaws 63 = .ok (.iload_n 3, 1) := by decide +kernel
theorem dX4_joinByLaws_64 : decode cX4_joinByLaws 64 = .ok (.iaload, 1) := by decide +kernel
theorem dX4_joinByLaws_65 : decode cX4_joinByLaws 65 = .ok (.iload 4, 2) := by decide +kernel
theorem dX4_joinByLaws_67 : decode cX4_joinByLaws 67 = .ok (.iload 5, 2) := by decide +kernel
theorem dX4_joinByLaws_69 : decode cX4_joinByLaws 69 = .ok (.invokevirtual 74, 3) := by decide +kernel
theorem dX4_joinByLaws_72 : decode cX4_joinByLaws 72 = .ok (.ifCond .eq 15, 3) := by decide +kernel
theorem dX4_joinByLaws_75 : decode cX4_joinByLaws 75 = .ok (.aload_n 0, 1) := by decide +kernel
theorem dX4_joinByLaws_76 : decode cX4_joinByLaws 76 = .ok (.aload_n 1, 1) := by decide +kernel
theorem dX4_joinByLaws_77 : decode cX4_joinByLaws 77 = .ok (.getfield 34, 3) := by decide +kernel
theorem dX4_joinByLaws_80 : decode cX4_joinByLaws 80 = .ok (.iload 4, 2) := by decide +kernel
theorem dX4_joinByLaws_82 : decode cX4_joinByLaws 82 = .ok (.iload 5, 2) := by decide +kernel
theorem dX4_joinByLaws_84 : decode cX4_joinByLaws 84 = .ok (.invokevirtual 78, 3) := by decide +kernel
theorem dX4_joinByLaws_87 : decode cX4_joinByLaws 87 = .ok (.iinc 5 1, 3) := by decide +kernel
theorem dX4_joinByLaws_90 : decode cX4_joinByLaws 90 = .ok (.goto (-65), 3) := by decide +kernel
theorem dX4_joinByLaws_93 : decode cX4_joinByLaws 93 = .ok (.iinc 4 1, 3) := by decide +kernel
theorem dX4_joinByLaws_96 : decode cX4_joinByLaws 96 = .ok (.goto (-83), 3) := by decide +kernel
theorem dX4_joinByLaws_99 : decode cX4_joinByLaws 99 = .ok (.iinc 3 1, 3) := by decide +kernel
theorem dX4_joinByLaws_102 : decode cX4_joinByLaws 102 = .ok (.goto (-100), 3) := by decide +kernel
theorem dX4_joinByLaws_105 : decode cX4_joinByLaws 105 = .ok (.return_, 1) := by decide +kernel
theorem dX4_isMadeByLaw_0 : decode cX4_isMadeByLaw 0 = .ok (.aload_n 0, 1) := by decide +kernel
theorem dX4_isMadeByLaw_1 : decode cX4_isMadeByLaw 1 = .ok (.getfield 23, 3) := by decide +kernel
theorem dX4_isMadeByLaw_4 : decode cX4_isMadeByLaw 4 = .ok (.bipush (-9), 2) := by decide +kernel
theorem dX4_isMadeByLaw_6 : decode cX4_isMadeByLaw 6 = .ok (.invokestatic 59, 3) := by decide +kernel
theorem dX4_isMadeByLaw_9 : decode cX4_isMadeByLaw 9 = .ok (.aload_n 0, 1) := by decide +kernel
theorem dX4_isMadeByLaw_10 : decode cX4_isMadeByLaw 10 = .ok (.iload_n 2, 1) := by decide +kernel
theorem dX4_isMadeByLaw_11 : decode cX4_isMadeByLaw 11 = .ok (.iload 4, 2) := by decide +kernel
theorem dX4_isMadeByLaw_13 : decode cX4_isMadeByLaw 13 = .ok (.invokevirtual 82, 3) := by decide +kernel
theorem dX4_isMadeByLaw_16 : decode cX4_isMadeByLaw 16 = .ok (.ifCond .eq 13, 3) := by decide +kernel
end
section
theorem dX4_isMadeByLaw_19 : decode cX4_isMadeByLaw 19 = .ok (.aload_n 0, 1) := by decide +kernel
theorem dX4_isMadeByLaw_20 : decode cX4_isMadeByLaw 20 = .ok (.iload_n 3, 1) := by decide +kernel
theorem dX4_isMadeByLaw_21 : decode cX4_isMadeByLaw 21 = .ok (.iload 5, 2) := by decide +kernel
theorem dX4_isMadeByLaw_23 : decode cX4_isMadeByLaw 23 = .ok (.invokevirtual 82, 3) := by decide +kernel
theorem dX4_isMadeByLaw_26 : decode cX4_isMadeByLaw 26 = .ok (.ifCond .ne 5, 3) := by decide +kernel
theorem dX4_isMadeByLaw_29 : decode cX4_isMadeByLaw 29 = .ok (.iconst 0, 1) := by decide +kernel
theorem dX4_isMadeByLaw_30 : decode cX4_isMadeByLaw 30 = .ok (.ireturn, 1) := by decide +kernel
theorem dX4_isMadeByLaw_31 : decode cX4_isMadeByLaw 31 = .ok (.iload_n 2, 1) := by decide +kernel
theorem dX4_isMadeByLaw_32 : decode cX4_isMadeByLaw 32 = .ok (.iload_n 3, 1) := by decide +kernel
theorem dX4_isMadeByLaw_33 : decode cX4_isMadeByLaw 33 = .ok (.invokestatic 85, 3) := by decide +kernel
theorem dX4_isMadeByLaw_36 : decode cX4_isMadeByLaw 36 = .ok (.istore 6, 2) := by decide +kernel
theorem dX4_isMadeByLaw_38 : decode cX4_isMadeByLaw 38 = .ok (.iload 6, 2) := by decide +kernel
theorem dX4_isMadeByLaw_40 : decode cX4_isMadeByLaw 40 = .ok (.iconst 3, 1) := by decide +kernel
theorem dX4_isMadeByLaw_41 : decode cX4_isMadeByLaw 41 = .ok (.if_icmp .lt 78, 3) := by decide +kernel
theorem dX4_isMadeByLaw_44 : decode cX4_isMadeByLaw 44 = .ok (.aload_n 0, 1) := by decide +kernel
theorem dX4_isMadeByLaw_45 : decode cX4_isMadeByLaw 45 = .ok (.getfield 23, 3) := by decide +kernel
theorem dX4_isMadeByLaw_48 : decode cX4_isMadeByLaw 48 = .ok (.iload 6, 2) := by decide +kernel
theorem dX4_isMadeByLaw_50 : decode cX4_isMadeByLaw 50 = .ok (.iaload, 1) := by decide +kernel
theorem dX4_isMadeByLaw_51 : decode cX4_isMadeByLaw 51 = .ok (.istore 7, 2) := by decide +kernel
theorem dX4_isMadeByLaw_53 : decode cX4_isMadeByLaw 53 = .ok (.iload 7, 2) := by decide +kernel
theorem dX4_isMadeByLaw_55 : decode cX4_isMadeByLaw 55 = .ok (.bipush (-9), 2) := by decide +kernel
theorem dX4_isMadeByLaw_57 : decode cX4_isMadeByLaw 57 = .ok (.if_icmp .ne 6, 3) := by decide +kernel
theorem dX4_isMadeByLaw_60 : decode cX4_isMadeByLaw 60 = .ok (.goto 53, 3) := by decide +kernel
theorem dX4_isMadeByLaw_63 : decode cX4_isMadeByLaw 63 = .ok (.iload 7, 2) := by decide +kernel
theorem dX4_isMadeByLaw_65 : decode cX4_isMadeByLaw 65 = .ok (.iconst 3, 1) := by decide +kernel
theorem dX4_isMadeByLaw_66 : decode cX4_isMadeByLaw 66 = .ok (.if_icmp .lt 45, 3) := by decide +kernel
theorem dX4_isMadeByLaw_69 : decode cX4_isMadeByLaw 69 = .ok (.aload_n 0, 1) := by decide +kernel
theorem dX4_isMadeByLaw_70 : decode cX4_isMadeByLaw 70 = .ok (.aload_n 1, 1) := by decide +kernel
theorem dX4_isMadeByLaw_71 : decode cX4_isMadeByLaw 71 = .ok (.getfield 91, 3) := by decide +kernel
theorem dX4_isMadeByLaw_74 : decode cX4_isMadeByLaw 74 = .ok (.iload 6, 2) := by decide +kernel
theorem dX4_isMadeByLaw_76 : decode cX4_isMadeByLaw 76 = .ok (.iaload, 1) := by decide +kernel
theorem dX4_isMadeByLaw_77 : decode cX4_isMadeByLaw 77 = .ok (.aload_n 1, 1) := by decide +kernel
theorem dX4_isMadeByLaw_78 : decode cX4_isMadeByLaw 78 = .ok (.getfield 91, 3) := by decide +kernel
theorem dX4_isMadeByLaw_81 : decode cX4_isMadeByLaw 81 = .ok (.iload 7, 2) := by decide +kernel
theorem dX4_isMadeByLaw_83 : decode cX4_isMadeByLaw 83 = .ok (.iaload, 1) := by decide +kernel
theorem dX4_isMadeByLaw_84 : decode cX4_isMadeByLaw 84 = .ok (.invokevirtual 82, 3) := by decide +kernel
theorem dX4_isMadeByLaw_87 : decode cX4_isMadeByLaw 87 = .ok (.ifCond .eq 24, 3) := by decide +kernel
theorem dX4_isMadeByLaw_90 : decode cX4_isMadeByLaw 90 = .ok (.aload_n 0, 1) := by decide +kernel
theorem dX4_isMadeByLaw_91 : decode cX4_isMadeByLaw 91 = .ok (.aload_n 1, 1) := by decide +kernel
theorem dX4_isMadeByLaw_92 : decode cX4_isMadeByLaw 92 = .ok (.getfield 92, 3) := by decide +kernel
theorem dX4_isMadeByLaw_95 : decode cX4_isMadeByLaw 95 = .ok (.iload 6, 2) := by decide +kernel
theorem dX4_isMadeByLaw_97 : decode cX4_isMadeByLaw 97 = .ok (.iaload, 1) := by decide +kernel
theorem dX4_isMadeByLaw_98 : decode cX4_isMadeByLaw 98 = .ok (.aload_n 1, 1) := by decide +kernel
theorem dX4_isMadeByLaw_99 : decode cX4_isMadeByLaw 99 = .ok (.getfield 92, 3) := by decide +kernel
theorem dX4_isMadeByLaw_102 : decode cX4_isMadeByLaw 102 = .ok (.iload 7, 2) := by decide +kernel
theorem dX4_isMadeByLaw_104 : decode cX4_isMadeByLaw 104 = .ok (.iaload, 1) := by decide +kernel
theorem dX4_isMadeByLaw_105 : decode cX4_isMadeByLaw 105 = .ok (.invokevirtual 82, 3) := by decide +kernel
theorem dX4_isMadeByLaw_108 : decode cX4_isMadeByLaw 108 = .ok (.ifCond .ne 5, 3) := by decide +kernel
theorem dX4_isMadeByLaw_111 : decode cX4_isMadeByLaw 111 = .ok (.iconst 0, 1) := by decide +kernel
theorem dX4_isMadeByLaw_112 : decode cX4_isMadeByLaw 112 = .ok (.ireturn, 1) := by decide +kernel
theorem dX4_isMadeByLaw_113 : decode cX4_isMadeByLaw 113 = .ok (.iinc 6 (-1), 3) := by decide +kernel
theorem dX4_isMadeByLaw_116 : decode cX4_isMadeByLaw 116 = .ok (.goto (-78), 3) := by decide +kernel
theorem dX4_isMadeByLaw_119 : decode cX4_isMadeByLaw 119 = .ok (.iconst 1, 1) := by decide +kernel
theorem dX4_isMadeByLaw_120 : decode cX4_isMadeByLaw 120 = .ok (.ireturn, 1) := by decide +kernel
theorem dX4_becomes_0 : decode cX4_becomes 0 = .ok (.aload_n 0, 1) := by decide +kernel
theorem dX4_becomes_1 : decode cX4_becomes 1 = .ok (.getfield 23, 3) := by decide +kernel
theorem dX4_becomes_4 : decode cX4_becomes 4 = .ok (.iload_n 1, 1) := by decide +kernel
theorem dX4_becomes_5 : decode cX4_becomes 5 = .ok (.iaload, 1) := by decide +kernel
theorem dX4_becomes_6 : decode cX4_becomes 6 = .ok (.bipush (-9), 2) := by decide +kernel
theorem dX4_becomes_8 : decode cX4_becomes 8 = .ok (.if_icmp .ne 10, 3) := by decide +kernel
theorem dX4_becomes_11 : decode cX4_becomes 11 = .ok (.aload_n 0, 1) := by decide +kernel
theorem dX4_becomes_12 : decode cX4_becomes 12 = .ok (.getfield 23, 3) := by decide +kernel
theorem dX4_becomes_15 : decode cX4_becomes 15 = .ok (.iload_n 1, 1) := by decide +kernel
theorem dX4_becomes_16 : decode cX4_becomes 16 = .ok (.iload_n 2, 1) := by decide +kernel
theorem dX4_becomes_17 : decode cX4_becomes 17 = .ok (.iastore, 1) := by decide +kernel
theorem dX4_becomes_18 : decode cX4_becomes 18 = .ok (.aload_n 0, 1) := by decide +kernel
theorem dX4_becomes_19 : decode cX4_becomes 19 = .ok (.getfield 23, 3) := by decide +kernel
theorem dX4_becomes_22 : decode cX4_becomes 22 = .ok (.iload_n 1, 1) := by decide +kernel
theorem dX4_becomes_23 : decode cX4_becomes 23 = .ok (.iaload, 1) := by decide +kernel
theorem dX4_becomes_24 : decode cX4_becomes 24 = .ok (.iload_n 2, 1) := by decide +kernel
theorem dX4_becomes_25 : decode cX4_becomes 25 = .ok (.if_icmp .ne 7, 3) := by decide +kernel
theorem dX4_becomes_28 : decode cX4_becomes 28 = .ok (.iconst 1, 1) := by decide +kernel
theorem dX4_becomes_29 : decode cX4_becomes 29 = .ok (.goto 4, 3) := by decide +kernel
theorem dX4_becomes_32 : decode cX4_becomes 32 = .ok (.iconst 0, 1) := by decide +kernel
theorem dX4_becomes_33 : decode cX4_becomes 33 = .ok (.ireturn, 1) := by decide +kernel
theorem dX4_joinByParts_0 : decode cX4_joinByParts 0 = .ok (.iconst 3, 1) := by decide +kernel
theorem dX4_joinByParts_1 : decode cX4_joinByParts 1 = .ok (.istore_n 2, 1) := by decide +kernel
theorem dX4_joinByParts_2 : decode cX4_joinByParts 2 = .ok (.iload_n 2, 1) := by decide +kernel
theorem dX4_joinByParts_3 : decode cX4_joinByParts 3 = .ok (.aload_n 1, 1) := by decide +kernel
theorem dX4_joinByParts_4 : decode cX4_joinByParts 4 = .ok (.getfield 34, 3) := by decide +kernel
theorem dX4_joinByParts_7 : decode cX4_joinByParts 7 = .ok (.if_icmp .ge 87, 3) := by decide +kernel
theorem dX4_joinByParts_10 : decode cX4_joinByParts 10 = .ok (.iload_n 2, 1) := by decide +kernel
theorem dX4_joinByParts_11 : decode cX4_joinByParts 11 = .ok (.iconst 1, 1) := by decide +kernel
theorem dX4_joinByParts_12 : decode cX4_joinByParts 12 = .ok (.iadd, 1) := by decide +kernel
theorem dX4_joinByParts_13 : decode cX4_joinByParts 13 = .ok (.istore_n 3, 1) := by decide +kernel
theorem dX4_joinByParts_14 : decode cX4_joinByParts 14 = .ok (.iload_n 3, 1) := by decide +kernel
theorem dX4_joinByParts_15 : decode cX4_joinByParts 15 = .ok (.aload_n 1, 1) := by decide +kernel
theorem dX4_joinByParts_16 : decode cX4_joinByParts 16 = .ok (.getfield 34, 3) := by decide +kernel
theorem dX4_joinByParts_19 : decode cX4_joinByParts 19 = .ok (.if_icmp .ge 69, 3) := by decide +kernel
theorem dX4_joinByParts_22 : decode cX4_joinByParts 22 = .ok (.aload_n 0, 1) := by decide +kernel
theorem dX4_joinByParts_23 : decode cX4_joinByParts 23 = .ok (.getfield 17, 3) := by decide +kernel
theorem dX4_joinByParts_26 : decode cX4_joinByParts 26 = .ok (.aload_n 1, 1) := by decide +kernel
theorem dX4_joinByParts_27 : decode cX4_joinByParts 27 = .ok (.getfield 91, 3) := by decide +kernel
theorem dX4_joinByParts_30 : decode cX4_joinByParts 30 = .ok (.iload_n 2, 1) := by decide +kernel
theorem dX4_joinByParts_31 : decode cX4_joinByParts 31 = .ok (.iaload, 1) := by decide +kernel
theorem dX4_joinByParts_32 : decode cX4_joinByParts 32 = .ok (.iaload, 1) := by decide +kernel
theorem dX4_joinByParts_33 : decode cX4_joinByParts 33 = .ok (.aload_n 0, 1) := by decide +kernel
theorem dX4_joinByParts_34 : decode cX4_joinByParts 34 = .ok (.getfield 17, 3) := by decide +kernel
theorem dX4_joinByParts_37 : decode cX4_joinByParts 37 = .ok (.aload_n 1, 1) := by decide +kernel
theorem dX4_joinByParts_38 : decode cX4_joinByParts 38 = .ok (.getfield 91, 3) := by decide +kernel
theorem dX4_joinByParts_41 : decode cX4_joinByParts 41 = .ok (.iload_n 3, 1) := by decide +kernel
theorem dX4_joinByParts_42 : decode cX4_joinByParts 42 = .ok (.iaload, 1) := by decide +kernel
theorem dX4_joinByParts_43 : decode cX4_joinByParts 43 = .ok (.iaload, 1) := by decide +kernel
theorem dX4_joinByParts_44 : decode cX4_joinByParts 44 = .ok (.if_icmp .ne 38, 3) := by decide +kernel
theorem dX4_joinByParts_47 : decode cX4_joinByParts 47 = .ok (.aload_n 0, 1) := by decide +kernel
theorem dX4_joinByParts_48 : decode cX4_joinByParts 48 = .ok (.getfield 17, 3) := by decide +kernel
theorem dX4_joinByParts_51 : decode cX4_joinByParts 51 = .ok (.aload_n 1, 1) := by decide +kernel
theorem dX4_joinByParts_52 : decode cX4_joinByParts 52 = .ok (.getfield 92, 3) := by decide +kernel
theorem dX4_joinByParts_55 : decode cX4_joinByParts 55 = .ok (.iload_n 2, 1) := by decide +kernel
theorem dX4_joinByParts_56 : decode cX4_joinByParts 56 = .ok (.iaload, 1) := by decide +kernel
theorem dX4_joinByParts_57 : decode cX4_joinByParts 57 = .ok (.iaload, 1) := by decide +kernel
theorem dX4_joinByParts_58 : decode cX4_joinByParts 58 = .ok (.aload_n 0, 1) := by decide +kernel
theorem dX4_joinByParts_59 : decode cX4_joinByParts 59 = .ok (.getfield 17, 3) := by decide +kernel
theorem dX4_joinByParts_62 : decode cX4_joinByParts 62 = .ok (.aload_n 1, 1) := by decide +kernel
theorem dX4_joinByParts_63 : decode cX4_joinByParts 63 = .ok (.getfield 92, 3) := by decide +kernel
theorem dX4_joinByParts_66 : decode cX4_joinByParts 66 = .ok (.iload_n 3, 1) := by decide +kernel
theorem dX4_joinByParts_67 : decode cX4_joinByParts 67 = .ok (.iaload, 1) := by decide +kernel
theorem dX4_joinByParts_68 : decode cX4_joinByParts 68 = .ok (.iaload, 1) := by decide +kernel
theorem dX4_joinByParts_69 : decode cX4_joinByParts 69 = .ok (.if_icmp .ne 13, 3) := by decide +kernel
theorem dX4_joinByParts_72 : decode cX4_joinByParts 72 = .ok (.aload_n 0, 1) := by decide +kernel
theorem dX4_joinByParts_73 : decode cX4_joinByParts 73 = .ok (.aload_n 1, 1) := by decide +kernel
theorem dX4_joinByParts_74 : decode cX4_joinByParts 74 = .ok (.getfield 34, 3) := by decide +kernel
theorem dX4_joinByParts_77 : decode cX4_joinByParts 77 = .ok (.iload_n 2, 1) := by decide +kernel
theorem dX4_joinByParts_78 : decode cX4_joinByParts 78 = .ok (.iload_n 3, 1) := by decide +kernel
theorem dX4_joinByParts_79 : decode cX4_joinByParts 79 = .ok (.invokevirtual 78, 3) := by decide +kernel
theorem dX4_joinByParts_82 : decode cX4_joinByParts 82 = .ok (.iinc 3 1, 3) := by decide +kernel
theorem dX4_joinByParts_85 : decode cX4_joinByParts 85 = .ok (.goto (-71), 3) := by decide +kernel
theorem dX4_joinByParts_88 : decode cX4_joinByParts 88 = .ok (.iinc 2 1, 3) := by decide +kernel
theorem dX4_joinByParts_91 : decode cX4_joinByParts 91 = .ok (.goto (-89), 3) := by decide +kernel
theorem dX4_joinByParts_94 : decode cX4_joinByParts 94 = .ok (.return_, 1) := by decide +kernel
theorem dX4_join_0 : decode cX4_join 0 = .ok (.aload_n 0, 1) := by decide +kernel
theorem dX4_join_1 : decode cX4_join 1 = .ok (.getfield 11, 3) := by decide +kernel
theorem dX4_join_4 : decode cX4_join 4 = .ok (.iload_n 2, 1) := by decide +kernel
theorem dX4_join_5 : decode cX4_join 5 = .ok (.iaload, 1) := by decide +kernel
theorem dX4_join_6 : decode cX4_join 6 = .ok (.aload_n 0, 1) := by decide +kernel
theorem dX4_join_7 : decode cX4_join 7 = .ok (.getfield 11, 3) := by decide +kernel
theorem dX4_join_10 : decode cX4_join 10 = .ok (.iload_n 3, 1) := by decide +kernel
theorem dX4_join_11 : decode cX4_join 11 = .ok (.iaload, 1) := by decide +kernel
theorem dX4_join_12 : decode cX4_join 12 = .ok (.invokestatic 93, 3) := by decide +kernel
theorem dX4_join_15 : decode cX4_join 15 = .ok (.istore 4, 2) := by decide +kernel
theorem dX4_join_17 : decode cX4_join 17 = .ok (.aload_n 0, 1) := by decide +kernel
theorem dX4_join_18 : decode cX4_join 18 = .ok (.getfield 11, 3) := by decide +kernel
theorem dX4_join_21 : decode cX4_join 21 = .ok (.iload_n 2, 1) := by decide +kernel
theorem dX4_join_22 : decode cX4_join 22 = .ok (.iaload, 1) := by decide +kernel
theorem dX4_join_23 : decode cX4_join 23 = .ok (.aload_n 0, 1) := by decide +kernel
theorem dX4_join_24 : decode cX4_join 24 = .ok (.getfield 11, 3) := by decide +kernel
theorem dX4_join_27 : decode cX4_join 27 = .ok (.iload_n 3, 1) := by decide +kernel
theorem dX4_join_28 : decode cX4_join 28 = .ok (.iaload, 1) := by decide +kernel
theorem dX4_join_29 : decode cX4_join 29 = .ok (.invokestatic 85, 3) := by decide +kernel
theorem dX4_join_32 : decode cX4_join 32 = .ok (.istore 5, 2) := by decide +kernel
theorem dX4_join_34 : decode cX4_join 34 = .ok (.iconst 0, 1) := by decide +kernel
theorem dX4_join_35 : decode cX4_join 35 = .ok (.istore 6, 2) := by decide +kernel
theorem dX4_join_37 : decode cX4_join 37 = .ok (.iload 6, 2) := by decide +kernel
theorem dX4_join_39 : decode cX4_join 39 = .ok (.iload_n 1, 1) := by decide +kernel
theorem dX4_join_40 : decode cX4_join 40 = .ok (.if_icmp .ge 30, 3) := by decide +kernel
theorem dX4_join_43 : decode cX4_join 43 = .ok (.aload_n 0, 1) := by decide +kernel
theorem dX4_join_44 : decode cX4_join 44 = .ok (.getfield 11, 3) := by decide +kernel
theorem dX4_join_47 : decode cX4_join 47 = .ok (.iload 6, 2) := by decide +kernel
theorem dX4_join_49 : decode cX4_join 49 = .ok (.iaload, 1) := by decide +kernel
theorem dX4_join_50 : decode cX4_join 50 = .ok (.iload 5, 2) := by decide +kernel
theorem dX4_join_52 : decode cX4_join 52 = .ok (.if_icmp .ne 12, 3) := by decide +kernel
theorem dX4_join_55 : decode cX4_join 55 = .ok (.aload_n 0, 1) := by decide +kernel
theorem dX4_join_56 : decode cX4_join 56 = .ok (.getfield 11, 3) := by decide +kernel
theorem dX4_join_59 : decode cX4_join 59 = .ok (.iload 6, 2) := by decide +kernel
theorem dX4_join_61 : decode cX4_join 61 = .ok (.iload 4, 2) := by decide +kernel
theorem dX4_join_63 : decode cX4_join 63 = .ok (.iastore, 1) := by decide +kernel
theorem dX4_join_64 : decode cX4_join 64 = .ok (.iinc 6 1, 3) := by decide +kernel
theorem dX4_join_67 : decode cX4_join 67 = .ok (.goto (-30), 3) := by decide +kernel
theorem dX4_join_70 : decode cX4_join 70 = .ok (.return_, 1) := by decide +kernel
theorem dX4_noteRound_0 : decode cX4_noteRound 0 = .ok (.iconst 0, 1) := by decide +kernel
theorem dX4_noteRound_1 : decode cX4_noteRound 1 = .ok (.istore_n 3, 1) := by decide +kernel
theorem dX4_noteRound_2 : decode cX4_noteRound 2 = .ok (.iconst 0, 1) := by decide +kernel
theorem dX4_noteRound_3 : decode cX4_noteRound 3 = .ok (.istore 4, 2) := by decide +kernel
theorem dX4_noteRound_5 : decode cX4_noteRound 5 = .ok (.iload 4, 2) := by decide +kernel
theorem dX4_noteRound_7 : decode cX4_noteRound 7 = .ok (.iload_n 1, 1) := by decide +kernel
theorem dX4_noteRound_8 : decode cX4_noteRound 8 = .ok (.if_icmp .ge 73, 3) := by decide +kernel
theorem dX4_noteRound_11 : decode cX4_noteRound 11 = .ok (.iconst 0, 1) := by decide +kernel
theorem dX4_noteRound_12 : decode cX4_noteRound 12 = .ok (.istore 5, 2) := by decide +kernel
theorem dX4_noteRound_14 : decode cX4_noteRound 14 = .ok (.iload 5, 2) := by decide +kernel
theorem dX4_noteRound_16 : decode cX4_noteRound 16 = .ok (.iload_n 1, 1) := by decide +kernel
theorem dX4_noteRound_17 : decode cX4_noteRound 17 = .ok (.if_icmp .ge 58, 3) := by decide +kernel
theorem dX4_noteRound_20 : decode cX4_noteRound 20 = .ok (.iload 4, 2) := by decide +kernel
theorem dX4_noteRound_22 : decode cX4_noteRound 22 = .ok (.bipush 20, 2) := by decide +kernel
theorem dX4_noteRound_24 : decode cX4_noteRound 24 = .ok (.imul, 1) := by decide +kernel
theorem dX4_noteRound_25 : decode cX4_noteRound 25 = .ok (.iload 5, 2) := by decide +kernel
theorem dX4_noteRound_27 : decode cX4_noteRound 27 = .ok (.iadd, 1) := by decide +kernel
theorem dX4_noteRound_28 : decode cX4_noteRound 28 = .ok (.istore 6, 2) := by decide +kernel
theorem dX4_noteRound_30 : decode cX4_noteRound 30 = .ok (.aload_n 0, 1) := by decide +kernel
theorem dX4_noteRound_31 : decode cX4_noteRound 31 = .ok (.getfield 11, 3) := by decide +kernel
theorem dX4_noteRound_34 : decode cX4_noteRound 34 = .ok (.iload 4, 2) := by decide +kernel
theorem dX4_noteRound_36 : decode cX4_noteRound 36 = .ok (.iaload, 1) := by decide +kernel
theorem dX4_noteRound_37 : decode cX4_noteRound 37 = .ok (.aload_n 0, 1) := by decide +kernel
theorem dX4_noteRound_38 : decode cX4_noteRound 38 = .ok (.getfield 11, 3) := by decide +kernel
theorem dX4_noteRound_41 : decode cX4_noteRound 41 = .ok (.iload 5, 2) := by decide +kernel
theorem dX4_noteRound_43 : decode cX4_noteRound 43 = .ok (.iaload, 1) := by decide +kernel
theorem dX4_noteRound_44 : decode cX4_noteRound 44 = .ok (.if_icmp .ne 25, 3) := by decide +kernel
theorem dX4_noteRound_47 : decode cX4_noteRound 47 = .ok (.aload_n 0, 1) := by decide +kernel
theorem dX4_noteRound_48 : decode cX4_noteRound 48 = .ok (.getfield 20, 3) := by decide +kernel
theorem dX4_noteRound_51 : decode cX4_noteRound 51 = .ok (.iload 6, 2) := by decide +kernel
theorem dX4_noteRound_53 : decode cX4_noteRound 53 = .ok (.iaload, 1) := by decide +kernel
theorem dX4_noteRound_54 : decode cX4_noteRound 54 = .ok (.bipush (-9), 2) := by decide +kernel
theorem dX4_noteRound_56 : decode cX4_noteRound 56 = .ok (.if_icmp .ne 13, 3) := by decide +kernel
theorem dX4_noteRound_59 : decode cX4_noteRound 59 = .ok (.aload_n 0, 1) := by decide +kernel
theorem dX4_noteRound_60 : decode cX4_noteRound 60 = .ok (.getfield 20, 3) := by decide +kernel
theorem dX4_noteRound_63 : decode cX4_noteRound 63 = .ok (.iload 6, 2) := by decide +kernel
theorem dX4_noteRound_65 : decode cX4_noteRound 65 = .ok (.iload_n 2, 1) := by decide +kernel
theorem dX4_noteRound_66 : decode cX4_noteRound 66 = .ok (.iastore, 1) := by decide +kernel
theorem dX4_noteRound_67 : decode cX4_noteRound 67 = .ok (.iconst 1, 1) := by decide +kernel
theorem dX4_noteRound_68 : decode cX4_noteRound 68 = .ok (.istore_n 3, 1) := by decide +kernel
theorem dX4_noteRound_69 : decode cX4_noteRound 69 = .ok (.iinc 5 1, 3) := by decide +kernel
theorem dX4_noteRound_72 : decode cX4_noteRound 72 = .ok (.goto (-58), 3) := by decide +kernel
theorem dX4_noteRound_75 : decode cX4_noteRound 75 = .ok (.iinc 4 1, 3) := by decide +kernel
theorem dX4_noteRound_78 : decode cX4_noteRound 78 = .ok (.goto (-73), 3) := by decide +kernel
theorem dX4_noteRound_81 : decode cX4_noteRound 81 = .ok (.iload_n 3, 1) := by decide +kernel
theorem dX4_noteRound_82 : decode cX4_noteRound 82 = .ok (.ireturn, 1) := by decide +kernel
theorem dX5_init_0 : decode cX5_init 0 = .ok (.aload_n 0, 1) := by decide +kernel
theorem dX5_init_1 : decode cX5_init 1 = .ok (.invokespecial 5, 3) := by decide +kernel
theorem dX5_init_4 : decode cX5_init 4 = .ok (.aload_n 0, 1) := by decide +kernel
theorem dX5_init_5 : decode cX5_init 5 = .ok (.bipush 40, 2) := by decide +kernel
theorem dX5_init_7 : decode cX5_init 7 = .ok (.newarray .int, 2) := by decide +kernel
theorem dX5_init_9 : decode cX5_init 9 = .ok (.putfield 11, 3) := by decide +kernel
theorem dX5_init_12 : decode cX5_init 12 = .ok (.aload_n 0, 1) := by decide +kernel
theorem dX5_init_13 : decode cX5_init 13 = .ok (.bipush 40, 2) := by decide +kernel
theorem dX5_init_15 : decode cX5_init 15 = .ok (.newarray .int, 2) := by decide +kernel
theorem dX5_init_17 : decode cX5_init 17 = .ok (.putfield 15, 3) := by decide +kernel
theorem dX5_init_20 : decode cX5_init 20 = .ok (.aload_n 0, 1) := by decide +kernel
theorem dX5_init_21 : decode cX5_init 21 = .ok (.iconst 0, 1) := by decide +kernel
theorem dX5_init_22 : decode cX5_init 22 = .ok (.putfield 18, 3) := by decide +kernel
theorem dX5_init_25 : decode cX5_init 25 = .ok (.aload_n 0, 1) := by decide +kernel
theorem dX5_init_26 : decode cX5_init 26 = .ok (.iconst 0, 1) := by decide +kernel
theorem dX5_init_27 : decode cX5_init 27 = .ok (.putfield 22, 3) := by decide +kernel
theorem dX5_init_30 : decode cX5_init 30 = .ok (.aload_n 0, 1) := by decide +kernel
theorem dX5_init_31 : decode cX5_init 31 = .ok (.iconst 0, 1) := by decide +kernel
theorem dX5_init_32 : decode cX5_init 32 = .ok (.putfield 25, 3) := by decide +kernel
theorem dX5_init_35 : decode cX5_init 35 = .ok (.aload_n 0, 1) := by decide +kernel
theorem dX5_init_36 : decode cX5_init 36 = .ok (.iconst 0, 1) := by decide +kernel
theorem dX5_init_37 : decode cX5_init 37 = .ok (.putfield 29, 3) := by decide +kernel
theorem dX5_init_40 : decode cX5_init 40 = .ok (.aload_n 0, 1) := by decide +kernel
theorem dX5_init_41 : decode cX5_init 41 = .ok (.sipush 6682, 3) := by decide +kernel
theorem dX5_init_44 : decode cX5_init 44 = .ok (.newarray .long, 2) := by decide +kernel
theorem dX5_init_46 : decode cX5_init 46 = .ok (.putfield 34, 3) := by decide +kernel
theorem dX5_init_49 : decode cX5_init 49 = .ok (.aload_n 0, 1) := by decide +kernel
theorem dX5_init_50 : decode cX5_init 50 = .ok (.bipush 40, 2) := by decide +kernel
theorem dX5_init_52 : decode cX5_init 52 = .ok (.newarray .int, 2) := by decide +kernel
theorem dX5_init_54 : decode cX5_init 54 = .ok (.putfield 38, 3) := by decide +kernel
theorem dX5_init_57 : decode cX5_init 57 = .ok (.aload_n 0, 1) := by decide +kernel
theorem dX5_init_58 : decode cX5_init 58 = .ok (.bipush (-9), 2) := by decide +kernel
theorem dX5_init_60 : decode cX5_init 60 = .ok (.putfield 41, 3) := by decide +kernel
theorem dX5_init_63 : decode cX5_init 63 = .ok (.aload_n 0, 1) := by decide +kernel
theorem dX5_init_64 : decode cX5_init 64 = .ok (.iconst (-1), 1) := by decide +kernel
theorem dX5_init_65 : decode cX5_init 65 = .ok (.putfield 44, 3) := by decide +kernel
theorem dX5_init_68 : decode cX5_init 68 = .ok (.aload_n 0, 1) := by decide +kernel
theorem dX5_init_69 : decode cX5_init 69 = .ok (.aload_n 1, 1) := by decide +kernel
theorem dX5_init_70 : decode cX5_init 70 = .ok (.putfield 47, 3) := by decide +kernel
theorem dX5_init_73 : decode cX5_init 73 = .ok (.aload_n 0, 1) := by decide +kernel
theorem dX5_init_74 : decode cX5_init 74 = .ok (.aload_n 2, 1) := by decide +kernel
theorem dX5_init_75 : decode cX5_init 75 = .ok (.putfield 51, 3) := by decide +kernel
theorem dX5_init_78 : decode cX5_init 78 = .ok (.aload_n 0, 1) := by decide +kernel
theorem dX5_init_79 : decode cX5_init 79 = .ok (.aload_n 3, 1) := by decide +kernel
theorem dX5_init_80 : decode cX5_init 80 = .ok (.putfield 55, 3) := by decide +kernel
theorem dX5_init_83 : decode cX5_init 83 = .ok (.aload_n 0, 1) := by decide +kernel
theorem dX5_init_84 : decode cX5_init 84 = .ok (.aload 4, 2) := by decide +kernel
theorem dX5_init_86 : decode cX5_init 86 = .ok (.putfield 59, 3) := by decide +kernel
theorem dX5_init_89 : decode cX5_init 89 = .ok (.return_, 1) := by decide +kernel
theorem dX5_forget_0 : decode cX5_forget 0 = .ok (.aload_n 0, 1) := by decide +kernel
theorem dX5_forget_1 : decode cX5_forget 1 = .ok (.iconst 0, 1) := by decide +kernel
theorem dX5_forget_2 : decode cX5_forget 2 = .ok (.putfield 25, 3) := by decide +kernel
theorem dX5_forget_5 : decode cX5_forget 5 = .ok (.aload_n 0, 1) := by decide +kernel
theorem dX5_forget_6 : decode cX5_forget 6 = .ok (.iconst 0, 1) := by decide +kernel
theorem dX5_forget_7 : decode cX5_forget 7 = .ok (.putfield 29, 3) := by decide +kernel
theorem dX5_forget_10 : decode cX5_forget 10 = .ok (.return_, 1) := by decide +kernel
theorem dX5_settle_0 : decode cX5_settle 0 = .ok (.aload_n 0, 1) := by decide +kernel
theorem dX5_settle_1 : decode cX5_settle 1 = .ok (.getfield 25, 3) := by decide +kernel
theorem dX5_settle_4 : decode cX5_settle 4 = .ok (.ifCond .ne 8, 3) := by decide +kernel
theorem dX5_settle_7 : decode cX5_settle 7 = .ok (.aload_n 0, 1) := by decide +kernel
theorem dX5_settle_8 : decode cX5_settle 8 = .ok (.iload_n 1, 1) := by decide +kernel
theorem dX5_settle_9 : decode cX5_settle 9 = .ok (.invokevirtual 63, 3) := by decide +kernel
theorem dX5_settle_12 : decode cX5_settle 12 = .ok (.aload_n 0, 1) := by decide +kernel
theorem dX5_settle_13 : decode cX5_settle 13 = .ok (.getfield 29, 3) := by decide +kernel
theorem dX5_settle_16 : decode cX5_settle 16 = .ok (.istore_n 2, 1) := by decide +kernel
theorem dX5_settle_17 : decode cX5_settle 17 = .ok (.iload_n 2, 1) := by decide +kernel
theorem dX5_settle_18 : decode cX5_settle 18 = .ok (.aload_n 0, 1) := by decide +kernel
theorem dX5_settle_19 : decode cX5_settle 19 = .ok (.getfield 55, 3) := by decide +kernel
theorem dX5_settle_22 : decode cX5_settle 22 = .ok (.getfield 67, 3) := by decide +kernel
theorem dX5_settle_25 : decode cX5_settle 25 = .ok (.if_icmp .ge 36, 3) := by decide +kernel
theorem dX5_settle_28 : decode cX5_settle 28 = .ok (.iconst 0, 1) := by decide +kernel
theorem dX5_settle_29 : decode cX5_settle 29 = .ok (.istore_n 3, 1) := by decide +kernel
theorem dX5_settle_30 : decode cX5_settle 30 = .ok (.iload_n 3, 1) := by decide +kernel
theorem dX5_settle_31 : decode cX5_settle 31 = .ok (.aload_n 0, 1) := by decide +kernel
theorem dX5_settle_32 : decode cX5_settle 32 = .ok (.getfield 18, 3) := by decide +kernel
theorem dX5_settle_35 : decode cX5_settle 35 = .ok (.if_icmp .ge 20, 3) := by decide +kernel
theorem dX5_settle_38 : decode cX5_settle 38 = .ok (.aload_n 0, 1) := by decide +kernel
theorem dX5_settle_39 : decode cX5_settle 39 = .ok (.iload_n 2, 1) := by decide +kernel
theorem dX5_settle_40 : decode cX5_settle 40 = .ok (.aload_n 0, 1) := by decide +kernel
theorem dX5_settle_41 : decode cX5_settle 41 = .ok (.getfield 11, 3) := by decide +kernel
theorem dX5_settle_44 : decode cX5_settle 44 = .ok (.iload_n 3, 1) := by decide +kernel
theorem dX5_settle_45 : decode cX5_settle 45 = .ok (.iaload, 1) := by decide +kernel
theorem dX5_settle_46 : decode cX5_settle 46 = .ok (.invokevirtual 70, 3) := by decide +kernel
theorem dX5_settle_49 : decode cX5_settle 49 = .ok (.iinc 3 1, 3) := by decide +kernel
theorem dX5_settle_52 : decode cX5_settle 52 = .ok (.goto (-22), 3) := by decide +kernel
theorem dX5_settle_55 : decode cX5_settle 55 = .ok (.iinc 2 1, 3) := by decide +kernel
theorem dX5_settle_58 : decode cX5_settle 58 = .ok (.goto (-41), 3) := by decide +kernel
theorem dX5_settle_61 : decode cX5_settle 61 = .ok (.aload_n 0, 1) := by decide +kernel
theorem dX5_settle_62 : decode cX5_settle 62 = .ok (.aload_n 0, 1) := by decide +kernel
theorem dX5_settle_63 : decode cX5_settle 63 = .ok (.getfield 55, 3) := by decide +kernel
theorem dX5_settle_66 : decode cX5_settle 66 = .ok (.getfield 67, 3) := by decide +kernel
theorem dX5_settle_69 : decode cX5_settle 69 = .ok (.putfield 29, 3) := by decide +kernel
theorem dX5_settle_72 : decode cX5_settle 72 = .ok (.return_, 1) := by decide +kernel
theorem dX5_fillList_0 : decode cX5_fillList 0 = .ok (.aload_n 0, 1) := by decide +kernel
theorem dX5_fillList_1 : decode cX5_fillList 1 = .ok (.iconst 0, 1) := by decide +kernel
theorem dX5_fillList_2 : decode cX5_fillList 2 = .ok (.putfield 18, 3) := by decide +kernel
theorem dX5_fillList_5 : decode cX5_fillList 5 = .ok (.aload_n 0, 1) := by decide +kernel
theorem dX5_fillList_6 : decode cX5_fillList 6 = .ok (.iconst 0, 1) := by decide +kernel
theorem dX5_fillList_7 : decode cX5_fillList 7 = .ok (.putfield 22, 3) := by decide +kernel
theorem dX5_fillList_10 : decode cX5_fillList 10 = .ok (.iconst 0, 1) := by decide +kernel
theorem dX5_fillList_11 : decode cX5_fillList 11 = .ok (.istore_n 2, 1) := by decide +kernel
theorem dX5_fillList_12 : decode cX5_fillList 12 = .ok (.iload_n 2, 1) := by decide +kernel
theorem dX5_fillList_13 : decode cX5_fillList 13 = .ok (.sipush 3341, 3) := by decide +kernel
theorem dX5_fillList_16 : decode cX5_fillList 16 = .ok (.if_icmp .ge 84, 3) := by decide +kernel
theorem dX5_fillList_19 : decode cX5_fillList 19 = .ok (.aload_n 0, 1) := by decide +kernel
theorem dX5_fillList_20 : decode cX5_fillList 20 = .ok (.getfield 18, 3) := by decide +kernel
theorem dX5_fillList_23 : decode cX5_fillList 23 = .ok (.bipush 40, 2) := by decide +kernel
theorem dX5_fillList_25 : decode cX5_fillList 25 = .ok (.if_icmp .ge 75, 3) := by decide +kernel
theorem dX5_fillList_28 : decode cX5_fillList 28 = .ok (.aload_n 0, 1) := by decide +kernel
theorem dX5_fillList_29 : decode cX5_fillList 29 = .ok (.getfield 51, 3) := by decide +kernel
theorem dX5_fillList_32 : decode cX5_fillList 32 = .ok (.iload_n 2, 1) := by decide +kernel
theorem dX5_fillList_33 : decode cX5_fillList 33 = .ok (.iload_n 1, 1) := by decide +kernel
theorem dX5_fillList_34 : decode cX5_fillList 34 = .ok (.invokevirtual 74, 3) := by decide +kernel
theorem dX5_fillList_37 : decode cX5_fillList 37 = .ok (.ifCond .eq 57, 3) := by decide +kernel
theorem dX5_fillList_40 : decode cX5_fillList 40 = .ok (.aload_n 0, 1) := by decide +kernel
theorem dX5_fillList_41 : decode cX5_fillList 41 = .ok (.getfield 51, 3) := by decide +kernel
theorem dX5_fillList_44 : decode cX5_fillList 44 = .ok (.iload_n 2, 1) := by decide +kernel
theorem dX5_fillList_45 : decode cX5_fillList 45 = .ok (.invokevirtual 78, 3) := by decide +kernel
theorem dX5_fillList_48 : decode cX5_fillList 48 = .ok (.istore_n 3, 1) := by decide +kernel
theorem dX5_fillList_49 : decode cX5_fillList 49 = .ok (.aload_n 0, 1) := by decide +kernel
theorem dX5_fillList_50 : decode cX5_fillList 50 = .ok (.getfield 11, 3) := by decide +kernel
theorem dX5_fillList_53 : decode cX5_fillList 53 = .ok (.aload_n 0, 1) := by decide +kernel
theorem dX5_fillList_54 : decode cX5_fillList 54 = .ok (.getfield 18, 3) := by decide +kernel
theorem dX5_fillList_57 : decode cX5_fillList 57 = .ok (.iload_n 2, 1) := by decide +kernel
theorem dX5_fillList_58 : decode cX5_fillList 58 = .ok (.iastore, 1) := by decide +kernel
theorem dX5_fillList_59 : decode cX5_fillList 59 = .ok (.aload_n 0, 1) := by decide +kernel
theorem dX5_fillList_60 : decode cX5_fillList 60 = .ok (.getfield 15, 3) := by decide +kernel
theorem dX5_fillList_63 : decode cX5_fillList 63 = .ok (.aload_n 0, 1) := by decide +kernel
theorem dX5_fillList_64 : decode cX5_fillList 64 = .ok (.getfield 18, 3) := by decide +kernel
theorem dX5_fillList_67 : decode cX5_fillList 67 = .ok (.aload_n 0, 1) := by decide +kernel
theorem dX5_fillList_68 : decode cX5_fillList 68 = .ok (.getfield 22, 3) := by decide +kernel
theorem dX5_fillList_71 : decode cX5_fillList 71 = .ok (.iastore, 1) := by decide +kernel
theorem dX5_fillList_72 : decode cX5_fillList 72 = .ok (.aload_n 0, 1) := by decide +kernel
theorem dX5_fillList_73 : decode cX5_fillList 73 = .ok (.dup, 1) := by decide +kernel
theorem dX5_fillList_74 : decode cX5_fillList 74 = .ok (.getfield 22, 3) := by decide +kernel
theorem dX5_fillList_77 : decode cX5_fillList 77 = .ok (.iload_n 3, 1) := by decide +kernel
theorem dX5_fillList_78 : decode cX5_fillList 78 = .ok (.iload_n 3, 1) := by decide +kernel
theorem dX5_fillList_79 : decode cX5_fillList 79 = .ok (.imul, 1) := by decide +kernel
theorem dX5_fillList_80 : decode cX5_fillList 80 = .ok (.iadd, 1) := by decide +kernel
theorem dX5_fillList_81 : decode cX5_fillList 81 = .ok (.putfield 22, 3) := by decide +kernel
theorem dX5_fillList_84 : decode cX5_fillList 84 = .ok (.aload_n 0, 1) := by decide +kernel
theorem dX5_fillList_85 : decode cX5_fillList 85 = .ok (.dup, 1) := by decide +kernel
theorem dX5_fillList_86 : decode cX5_fillList 86 = .ok (.getfield 18, 3) := by decide +kernel
theorem dX5_fillList_89 : decode cX5_fillList 89 = .ok (.iconst 1, 1) := by decide +kernel
theorem dX5_fillList_90 : decode cX5_fillList 90 = .ok (.iadd, 1) := by decide +kernel
theorem dX5_fillList_91 : decode cX5_fillList 91 = .ok (.putfield 18, 3) := by decide +kernel
theorem dX5_fillList_94 : decode cX5_fillList 94 = .ok (.iinc 2 1, 3) := by decide +kernel
theorem dX5_fillList_97 : decode cX5_fillList 97 = .ok (.goto (-85), 3) := by decide +kernel
theorem dX5_fillList_100 : decode cX5_fillList 100 = .ok (.aload_n 0, 1) := by decide +kernel
theorem dX5_fillList_101 : decode cX5_fillList 101 = .ok (.iconst 1, 1) := by decide +kernel
theorem dX5_fillList_102 : decode cX5_fillList 102 = .ok (.putfield 25, 3) := by decide +kernel
theorem dX5_fillList_105 : decode cX5_fillList 105 = .ok (.return_, 1) := by decide +kernel
theorem dX5_has_0 : decode cX5_has 0 = .ok (.iload_n 1, 1) := by decide +kernel
theorem dX5_has_1 : decode cX5_has 1 = .ok (.ifCond .lt 15, 3) := by decide +kernel
theorem dX5_has_4 : decode cX5_has 4 = .ok (.iload_n 1, 1) := by decide +kernel
theorem dX5_has_5 : decode cX5_has 5 = .ok (.aload_n 0, 1) := by decide +kernel
theorem dX5_has_6 : decode cX5_has 6 = .ok (.getfield 18, 3) := by decide +kernel
theorem dX5_has_9 : decode cX5_has 9 = .ok (.if_icmp .ge 7, 3) := by decide +kernel
theorem dX5_has_12 : decode cX5_has 12 = .ok (.iconst 1, 1) := by decide +kernel
theorem dX5_has_13 : decode cX5_has 13 = .ok (.goto 4, 3) := by decide +kernel
theorem dX5_has_16 : decode cX5_has 16 = .ok (.iconst 0, 1) := by decide +kernel
theorem dX5_has_17 : decode cX5_has 17 = .ok (.ireturn, 1) := by decide +kernel
theorem dX5_sizeAt_0 : decode cX5_sizeAt 0 = .ok (.aload_n 0, 1) := by decide +kernel
theorem dX5_sizeAt_1 : decode cX5_sizeAt 1 = .ok (.getfield 51, 3) := by decide +kernel
theorem dX5_sizeAt_4 : decode cX5_sizeAt 4 = .ok (.aload_n 0, 1) := by decide +kernel
theorem dX5_sizeAt_5 : decode cX5_sizeAt 5 = .ok (.getfield 11, 3) := by decide +kernel
theorem dX5_sizeAt_8 : decode cX5_sizeAt 8 = .ok (.iload_n 1, 1) := by decide +kernel
theorem dX5_sizeAt_9 : decode cX5_sizeAt 9 = .ok (.iaload, 1) := by decide +kernel
theorem dX5_sizeAt_10 : decode cX5_sizeAt 10 = .ok (.invokevirtual 78, 3) := by decide +kernel
theorem dX5_sizeAt_13 : decode cX5_sizeAt 13 = .ok (.ireturn, 1) := by decide +kernel
theorem dX5_at_0 : decode cX5_at 0 = .ok (.aload_n 0, 1) := by decide +kernel
theorem dX5_at_1 : decode cX5_at 1 = .ok (.iload_n 1, 1) := by decide +kernel
theorem dX5_at_2 : decode cX5_at 2 = .ok (.aload_n 0, 1) := by decide +kernel
theorem dX5_at_3 : decode cX5_at 3 = .ok (.getfield 11, 3) := by decide +kernel
theorem dX5_at_6 : decode cX5_at 6 = .ok (.iload_n 2, 1) := by decide +kernel
theorem dX5_at_7 : decode cX5_at 7 = .ok (.iaload, 1) := by decide +kernel
theorem dX5_at_8 : decode cX5_at 8 = .ok (.invokevirtual 82, 3) := by decide +kernel
theorem dX5_at_11 : decode cX5_at 11 = .ok (.ireturn, 1) := by decide +kernel
theorem dX5_seenBits_0 : decode cX5_seenBits 0 = .ok (.aload_n 0, 1) := by decide +kernel
theorem dX5_seenBits_1 : decode cX5_seenBits 1 = .ok (.getfield 34, 3) := by decide +kernel
theorem dX5_seenBits_4 : decode cX5_seenBits 4 = .ok (.iconst 2, 1) := by decide +kernel
theorem dX5_seenBits_5 : decode cX5_seenBits 5 = .ok (.iload_n 2, 1) := by decide +kernel
theorem dX5_seenBits_6 : decode cX5_seenBits 6 = .ok (.imul, 1) := by decide +kernel
theorem dX5_seenBits_7 : decode cX5_seenBits 7 = .ok (.iload_n 1, 1) := by decide +kernel
theorem dX5_seenBits_8 : decode cX5_seenBits 8 = .ok (.bipush 6, 2) := by decide +kernel
theorem dX5_seenBits_10 : decode cX5_seenBits 10 = .ok (.idiv, 1) := by decide +kernel
theorem dX5_seenBits_11 : decode cX5_seenBits 11 = .ok (.iadd, 1) := by decide +kernel
theorem dX5_seenBits_12 : decode cX5_seenBits 12 = .ok (.laload, 1) := by decide +kernel
theorem dX5_seenBits_13 : decode cX5_seenBits 13 = .ok (.lstore_n 3, 1) := by decide +kernel
theorem dX5_seenBits_14 : decode cX5_seenBits 14 = .ok (.lload_n 3, 1) := by decide +kernel
theorem dX5_seenBits_15 : decode cX5_seenBits 15 = .ok (.iload_n 1, 1) := by decide +kernel
theorem dX5_seenBits_16 : decode cX5_seenBits 16 = .ok (.bipush 6, 2) := by decide +kernel
theorem dX5_seenBits_18 : decode cX5_seenBits 18 = .ok (.irem, 1) := by decide +kernel
theorem dX5_seenBits_19 : decode cX5_seenBits 19 = .ok (.bipush 9, 2) := by decide +kernel
theorem dX5_seenBits_21 : decode cX5_seenBits 21 = .ok (.imul, 1) := by decide +kernel
theorem dX5_seenBits_22 : decode cX5_seenBits 22 = .ok (.lshr, 1) := by decide +kernel
theorem dX5_seenBits_23 : decode cX5_seenBits 23 = .ok (.l2i, 1) := by decide +kernel
theorem dX5_seenBits_24 : decode cX5_seenBits 24 = .ok (.sipush 511, 3) := by decide +kernel
theorem dX5_seenBits_27 : decode cX5_seenBits 27 = .ok (.iand, 1) := by decide +kernel
theorem dX5_seenBits_28 : decode cX5_seenBits 28 = .ok (.ireturn, 1) := by decide +kernel
theorem dX5_see_0 : decode cX5_see 0 = .ok (.iload_n 1, 1) := by decide +kernel
theorem dX5_see_1 : decode cX5_see 1 = .ok (.bipush 6, 2) := by decide +kernel
theorem dX5_see_3 : decode cX5_see 3 = .ok (.irem, 1) := by decide +kernel
theorem dX5_see_4 : decode cX5_see 4 = .ok (.istore_n 3, 1) := by decide +kernel
theorem dX5_see_5 : decode cX5_see 5 = .ok (.lconst 1, 1) := by decide +kernel
theorem dX5_see_6 : decode cX5_see 6 = .ok (.bipush 54, 2) := by decide +kernel
theorem dX5_see_8 : decode cX5_see 8 = .ok (.iload_n 3, 1) := by decide +kernel
theorem dX5_see_9 : decode cX5_see 9 = .ok (.iadd, 1) := by decide +kernel
theorem dX5_see_10 : decode cX5_see 10 = .ok (.lshl, 1) := by decide +kernel
theorem dX5_see_11 : decode cX5_see 11 = .ok (.lstore 4, 2) := by decide +kernel
theorem dX5_see_13 : decode cX5_see 13 = .ok (.iconst 2, 1) := by decide +kernel
theorem dX5_see_14 : decode cX5_see 14 = .ok (.iload_n 2, 1) := by decide +kernel
theorem dX5_see_15 : decode cX5_see 15 = .ok (.imul, 1) := by decide +kernel
theorem dX5_see_16 : decode cX5_see 16 = .ok (.iload_n 1, 1) := by decide +kernel
theorem dX5_see_17 : decode cX5_see 17 = .ok (.bipush 6, 2) := by decide +kernel
theorem dX5_see_19 : decode cX5_see 19 = .ok (.idiv, 1) := by decide +kernel
theorem dX5_see_20 : decode cX5_see 20 = .ok (.iadd, 1) := by decide +kernel
theorem dX5_see_21 : decode cX5_see 21 = .ok (.istore 6, 2) := by decide +kernel
theorem dX5_see_23 : decode cX5_see 23 = .ok (.aload_n 0, 1) := by decide +kernel
theorem dX5_see_24 : decode cX5_see 24 = .ok (.getfield 34, 3) := by decide +kernel
theorem dX5_see_27 : decode cX5_see 27 = .ok (.iload 6, 2) := by decide +kernel
theorem dX5_see_29 : decode cX5_see 29 = .ok (.laload, 1) := by decide +kernel
theorem dX5_see_30 : decode cX5_see 30 = .ok (.lload 4, 2) := by decide +kernel
theorem dX5_see_32 : decode cX5_see 32 = .ok (.land, 1) := by decide +kernel
theorem dX5_see_33 : decode cX5_see 33 = .ok (.lconst 0, 1) := by decide +kernel
theorem dX5_see_34 : decode cX5_see 34 = .ok (.lcmp, 1) := by decide +kernel
theorem dX5_see_35 : decode cX5_see 35 = .ok (.ifCond .ne 28, 3) := by decide +kernel
theorem dX5_see_38 : decode cX5_see 38 = .ok (.aload_n 0, 1) := by decide +kernel
theorem dX5_see_39 : decode cX5_see 39 = .ok (.getfield 34, 3) := by decide +kernel
theorem dX5_see_42 : decode cX5_see 42 = .ok (.iload 6, 2) := by decide +kernel
theorem dX5_see_44 : decode cX5_see 44 = .ok (.dup2, 1) := by decide +kernel
theorem dX5_see_45 : decode cX5_see 45 = .ok (.laload, 1) := by decide +kernel
theorem dX5_see_46 : decode cX5_see 46 = .ok (.aload_n 0, 1) := by decide +kernel
theorem dX5_see_47 : decode cX5_see 47 = .ok (.iload_n 1, 1) := by decide +kernel
theorem dX5_see_48 : decode cX5_see 48 = .ok (.iload_n 2, 1) := by decide +kernel
theorem dX5_see_49 : decode cX5_see 49 = .ok (.invokevirtual 86, 3) := by decide +kernel
theorem dX5_see_52 : decode cX5_see 52 = .ok (.i2l, 1) := by decide +kernel
theorem dX5_see_53 : decode cX5_see 53 = .ok (.iload_n 3, 1) := by decide +kernel
theorem dX5_see_54 : decode cX5_see 54 = .ok (.bipush 9, 2) := by decide +kernel
theorem dX5_see_56 : decode cX5_see 56 = .ok (.imul, 1) := by decide +kernel
theorem dX5_see_57 : decode cX5_see 57 = .ok (.lshl, 1) := by decide +kernel
theorem dX5_see_58 : decode cX5_see 58 = .ok (.lload 4, 2) := by decide +kernel
theorem dX5_see_60 : decode cX5_see 60 = .ok (.lor, 1) := by decide +kernel
theorem dX5_see_61 : decode cX5_see 61 = .ok (.lor, 1) := by decide +kernel
theorem dX5_see_62 : decode cX5_see 62 = .ok (.lastore, 1) := by decide +kernel
theorem dX5_see_63 : decode cX5_see 63 = .ok (.return_, 1) := by decide +kernel
theorem dX5_workedOut_0 : decode cX5_workedOut 0 = .ok (.aload_n 0, 1) := by decide +kernel
theorem dX5_workedOut_1 : decode cX5_workedOut 1 = .ok (.getfield 51, 3) := by decide +kernel
theorem dX5_workedOut_4 : decode cX5_workedOut 4 = .ok (.iload_n 2, 1) := by decide +kernel
theorem dX5_workedOut_5 : decode cX5_workedOut 5 = .ok (.invokevirtual 78, 3) := by decide +kernel
theorem dX5_workedOut_8 : decode cX5_workedOut 8 = .ok (.istore_n 3, 1) := by decide +kernel
theorem dX5_workedOut_9 : decode cX5_workedOut 9 = .ok (.aload_n 0, 1) := by decide +kernel
theorem dX5_workedOut_10 : decode cX5_workedOut 10 = .ok (.getfield 55, 3) := by decide +kernel
theorem dX5_workedOut_13 : decode cX5_workedOut 13 = .ok (.getfield 89, 3) := by decide +kernel
theorem dX5_workedOut_16 : decode cX5_workedOut 16 = .ok (.iload_n 1, 1) := by decide +kernel
theorem dX5_workedOut_17 : decode cX5_workedOut 17 = .ok (.iaload, 1) := by decide +kernel
theorem dX5_workedOut_18 : decode cX5_workedOut 18 = .ok (.istore 4, 2) := by decide +kernel
theorem dX5_workedOut_20 : decode cX5_workedOut 20 = .ok (.aload_n 0, 1) := by decide +kernel
theorem dX5_workedOut_21 : decode cX5_workedOut 21 = .ok (.getfield 55, 3) := by decide +kernel
theorem dX5_workedOut_24 : decode cX5_workedOut 24 = .ok (.getfield 92, 3) := by decide +kernel
theorem dX5_workedOut_27 : decode cX5_workedOut 27 = .ok (.iload_n 1, 1) := by decide +kernel
theorem dX5_workedOut_28 : decode cX5_workedOut 28 = .ok (.iaload, 1) := by decide +kernel
theorem dX5_workedOut_29 : decode cX5_workedOut 29 = .ok (.istore 5, 2) := by decide +kernel
theorem dX5_workedOut_31 : decode cX5_workedOut 31 = .ok (.aload_n 0, 1) := by decide +kernel
theorem dX5_workedOut_32 : decode cX5_workedOut 32 = .ok (.getfield 55, 3) := by decide +kernel
theorem dX5_workedOut_35 : decode cX5_workedOut 35 = .ok (.getfield 95, 3) := by decide +kernel
theorem dX5_workedOut_38 : decode cX5_workedOut 38 = .ok (.iload_n 1, 1) := by decide +kernel
theorem dX5_workedOut_39 : decode cX5_workedOut 39 = .ok (.iaload, 1) := by decide +kernel
theorem dX5_workedOut_40 : decode cX5_workedOut 40 = .ok (.ifCond .ne 36, 3) := by decide +kernel
theorem dX5_workedOut_43 : decode cX5_workedOut 43 = .ok (.aload_n 0, 1) := by decide +kernel
theorem dX5_workedOut_44 : decode cX5_workedOut 44 = .ok (.getfield 59, 3) := by decide +kernel
theorem dX5_workedOut_47 : decode cX5_workedOut 47 = .ok (.iload_n 3, 1) := by decide +kernel
theorem dX5_workedOut_48 : decode cX5_workedOut 48 = .ok (.aload_n 0, 1) := by decide +kernel
theorem dX5_workedOut_49 : decode cX5_workedOut 49 = .ok (.getfield 51, 3) := by decide +kernel
theorem dX5_workedOut_52 : decode cX5_workedOut 52 = .ok (.getfield 98, 3) := by decide +kernel
theorem dX5_workedOut_55 : decode cX5_workedOut 55 = .ok (.iload_n 2, 1) := by decide +kernel
theorem dX5_workedOut_56 : decode cX5_workedOut 56 = .ok (.iaload, 1) := by decide +kernel
theorem dX5_workedOut_57 : decode cX5_workedOut 57 = .ok (.invokevirtual 101, 3) := by decide +kernel
theorem dX5_workedOut_60 : decode cX5_workedOut 60 = .ok (.aload_n 0, 1) := by decide +kernel
theorem dX5_workedOut_61 : decode cX5_workedOut 61 = .ok (.getfield 59, 3) := by decide +kernel
theorem dX5_workedOut_64 : decode cX5_workedOut 64 = .ok (.aload_n 0, 1) := by decide +kernel
theorem dX5_workedOut_65 : decode cX5_workedOut 65 = .ok (.getfield 47, 3) := by decide +kernel
theorem dX5_workedOut_68 : decode cX5_workedOut 68 = .ok (.iload 4, 2) := by decide +kernel
theorem dX5_workedOut_70 : decode cX5_workedOut 70 = .ok (.iload 5, 2) := by decide +kernel
theorem dX5_workedOut_72 : decode cX5_workedOut 72 = .ok (.invokevirtual 106, 3) := by decide +kernel
theorem dX5_workedOut_75 : decode cX5_workedOut 75 = .ok (.ireturn, 1) := by decide +kernel
theorem dX5_workedOut_76 : decode cX5_workedOut 76 = .ok (.aload_n 0, 1) := by decide +kernel
theorem dX5_workedOut_77 : decode cX5_workedOut 77 = .ok (.getfield 55, 3) := by decide +kernel
theorem dX5_workedOut_80 : decode cX5_workedOut 80 = .ok (.getfield 95, 3) := by decide +kernel
theorem dX5_workedOut_83 : decode cX5_workedOut 83 = .ok (.iload_n 1, 1) := by decide +kernel
theorem dX5_workedOut_84 : decode cX5_workedOut 84 = .ok (.iaload, 1) := by decide +kernel
theorem dX5_workedOut_85 : decode cX5_workedOut 85 = .ok (.iload_n 3, 1) := by decide +kernel
theorem dX5_workedOut_86 : decode cX5_workedOut 86 = .ok (.aload_n 0, 1) := by decide +kernel
theorem dX5_workedOut_87 : decode cX5_workedOut 87 = .ok (.iload 4, 2) := by decide +kernel
theorem dX5_workedOut_89 : decode cX5_workedOut 89 = .ok (.iload_n 2, 1) := by decide +kernel
theorem dX5_workedOut_90 : decode cX5_workedOut 90 = .ok (.invokevirtual 82, 3) := by decide +kernel
theorem dX5_workedOut_93 : decode cX5_workedOut 93 = .ok (.aload_n 0, 1) := by decide +kernel
theorem dX5_workedOut_94 : decode cX5_workedOut 94 = .ok (.iload 5, 2) := by decide +kernel
theorem dX5_workedOut_96 : decode cX5_workedOut 96 = .ok (.iload_n 2, 1) := by decide +kernel
theorem dX5_workedOut_97 : decode cX5_workedOut 97 = .ok (.invokevirtual 82, 3) := by decide +kernel
theorem dX5_workedOut_100 : decode cX5_workedOut 100 = .ok (.invokestatic 110, 3) := by decide +kernel
theorem dX5_workedOut_103 : decode cX5_workedOut 103 = .ok (.ireturn, 1) := by decide +kernel
theorem dX5_seeAll_0 : decode cX5_seeAll 0 = .ok (.iconst 0, 1) := by decide +kernel
theorem dX5_seeAll_1 : decode cX5_seeAll 1 = .ok (.istore_n 3, 1) := by decide +kernel
theorem dX5_seeAll_2 : decode cX5_seeAll 2 = .ok (.iload_n 3, 1) := by decide +kernel
theorem dX5_seeAll_3 : decode cX5_seeAll 3 = .ok (.aload_n 0, 1) := by decide +kernel
theorem dX5_seeAll_4 : decode cX5_seeAll 4 = .ok (.getfield 55, 3) := by decide +kernel
theorem dX5_seeAll_7 : decode cX5_seeAll 7 = .ok (.getfield 67, 3) := by decide +kernel
theorem dX5_seeAll_10 : decode cX5_seeAll 10 = .ok (.if_icmp .ge 23, 3) := by decide +kernel
theorem dX5_seeAll_13 : decode cX5_seeAll 13 = .ok (.iload_n 1, 1) := by decide +kernel
theorem dX5_seeAll_14 : decode cX5_seeAll 14 = .ok (.iload_n 3, 1) := by decide +kernel
theorem dX5_seeAll_15 : decode cX5_seeAll 15 = .ok (.ishr, 1) := by decide +kernel
theorem dX5_seeAll_16 : decode cX5_seeAll 16 = .ok (.iconst 1, 1) := by decide +kernel
theorem dX5_seeAll_17 : decode cX5_seeAll 17 = .ok (.iand, 1) := by decide +kernel
theorem dX5_seeAll_18 : decode cX5_seeAll 18 = .ok (.ifCond .eq 9, 3) := by decide +kernel
theorem dX5_seeAll_21 : decode cX5_seeAll 21 = .ok (.aload_n 0, 1) := by decide +kernel
theorem dX5_seeAll_22 : decode cX5_seeAll 22 = .ok (.iload_n 3, 1) := by decide +kernel
theorem dX5_seeAll_23 : decode cX5_seeAll 23 = .ok (.iload_n 2, 1) := by decide +kernel
theorem dX5_seeAll_24 : decode cX5_seeAll 24 = .ok (.invokevirtual 70, 3) := by decide +kernel
theorem dX5_seeAll_27 : decode cX5_seeAll 27 = .ok (.iinc 3 1, 3) := by decide +kernel
theorem dX5_seeAll_30 : decode cX5_seeAll 30 = .ok (.goto (-28), 3) := by decide +kernel
theorem dX5_seeAll_33 : decode cX5_seeAll 33 = .ok (.return_, 1) := by decide +kernel
theorem dX5_pairsOf_0 : decode cX5_pairsOf 0 = .ok (.iconst 0, 1) := by decide +kernel
theorem dX5_pairsOf_1 : decode cX5_pairsOf 1 = .ok (.istore_n 2, 1) := by decide +kernel
theorem dX5_pairsOf_2 : decode cX5_pairsOf 2 = .ok (.iconst 0, 1) := by decide +kernel
theorem dX5_pairsOf_3 : decode cX5_pairsOf 3 = .ok (.istore_n 3, 1) := by decide +kernel
theorem dX5_pairsOf_4 : decode cX5_pairsOf 4 = .ok (.iload_n 3, 1) := by decide +kernel
theorem dX5_pairsOf_5 : decode cX5_pairsOf 5 = .ok (.aload_n 0, 1) := by decide +kernel
theorem dX5_pairsOf_6 : decode cX5_pairsOf 6 = .ok (.getfield 18, 3) := by decide +kernel
theorem dX5_pairsOf_9 : decode cX5_pairsOf 9 = .ok (.if_icmp .ge 21, 3) := by decide +kernel
theorem dX5_pairsOf_12 : decode cX5_pairsOf 12 = .ok (.iload_n 2, 1) := by decide +kernel
theorem dX5_pairsOf_13 : decode cX5_pairsOf 13 = .ok (.aload_n 0, 1) := by decide +kernel
theorem dX5_pairsOf_14 : decode cX5_pairsOf 14 = .ok (.iload_n 1, 1) := by decide +kernel
theorem dX5_pairsOf_15 : decode cX5_pairsOf 15 = .ok (.iload_n 3, 1) := by decide +kernel
theorem dX5_pairsOf_16 : decode cX5_pairsOf 16 = .ok (.invokevirtual 116, 3) := by decide +kernel
theorem dX5_pairsOf_19 : decode cX5_pairsOf 19 = .ok (.invokestatic 119, 3) := by decide +kernel
theorem dX5_pairsOf_22 : decode cX5_pairsOf 22 = .ok (.iadd, 1) := by decide +kernel
theorem dX5_pairsOf_23 : decode cX5_pairsOf 23 = .ok (.istore_n 2, 1) := by decide +kernel
theorem dX5_pairsOf_24 : decode cX5_pairsOf 24 = .ok (.iinc 3 1, 3) := by decide +kernel
theorem dX5_pairsOf_27 : decode cX5_pairsOf 27 = .ok (.goto (-23), 3) := by decide +kernel
theorem dX5_pairsOf_30 : decode cX5_pairsOf 30 = .ok (.iload_n 2, 1) := by decide +kernel
theorem dX5_pairsOf_31 : decode cX5_pairsOf 31 = .ok (.ireturn, 1) := by decide +kernel
theorem dX5_agree_0 : decode cX5_agree 0 = .ok (.iconst 0, 1) := by decide +kernel
theorem dX5_agree_1 : decode cX5_agree 1 = .ok (.istore_n 3, 1) := by decide +kernel
theorem dX5_agree_2 : decode cX5_agree 2 = .ok (.iload_n 3, 1) := by decide +kernel
theorem dX5_agree_3 : decode cX5_agree 3 = .ok (.aload_n 0, 1) := by decide +kernel
theorem dX5_agree_4 : decode cX5_agree 4 = .ok (.getfield 18, 3) := by decide +kernel
theorem dX5_agree_7 : decode cX5_agree 7 = .ok (.if_icmp .ge 26, 3) := by decide +kernel
theorem dX5_agree_10 : decode cX5_agree 10 = .ok (.aload_n 0, 1) := by decide +kernel
theorem dX5_agree_11 : decode cX5_agree 11 = .ok (.iload_n 1, 1) := by decide +kernel
theorem dX5_agree_12 : decode cX5_agree 12 = .ok (.iload_n 3, 1) := by decide +kernel
theorem dX5_agree_13 : decode cX5_agree 13 = .ok (.invokevirtual 116, 3) := by decide +kernel
theorem dX5_agree_16 : decode cX5_agree 16 = .ok (.aload_n 0, 1) := by decide +kernel
theorem dX5_agree_17 : decode cX5_agree 17 = .ok (.iload_n 2, 1) := by decide +kernel
theorem dX5_agree_18 : decode cX5_agree 18 = .ok (.iload_n 3, 1) := by decide +kernel
theorem dX5_agree_19 : decode cX5_agree 19 = .ok (.invokevirtual 116, 3) := by decide +kernel
theorem dX5_agree_22 : decode cX5_agree 22 = .ok (.if_icmp .eq 5, 3) := by decide +kernel
theorem dX5_agree_25 : decode cX5_agree 25 = .ok (.iconst 0, 1) := by decide +kernel
theorem dX5_agree_26 : decode cX5_agree 26 = .ok (.ireturn, 1) := by decide +kernel
theorem dX5_agree_27 : decode cX5_agree 27 = .ok (.iinc 3 1, 3) := by decide +kernel
theorem dX5_agree_30 : decode cX5_agree 30 = .ok (.goto (-28), 3) := by decide +kernel
theorem dX5_agree_33 : decode cX5_agree 33 = .ok (.iconst 1, 1) := by decide +kernel
theorem dX5_agree_34 : decode cX5_agree 34 = .ok (.ireturn, 1) := by decide +kernel
theorem dX5_pairsBeyond_0 : decode cX5_pairsBeyond 0 = .ok (.iconst 0, 1) := by decide +kernel
theorem dX5_pairsBeyond_1 : decode cX5_pairsBeyond 1 = .ok (.istore_n 3, 1) := by decide +kernel
theorem dX5_pairsBeyond_2 : decode cX5_pairsBeyond 2 = .ok (.iconst 0, 1) := by decide +kernel
theorem dX5_pairsBeyond_3 : decode cX5_pairsBeyond 3 = .ok (.istore 4, 2) := by decide +kernel
theorem dX5_pairsBeyond_5 : decode cX5_pairsBeyond 5 = .ok (.iload 4, 2) := by decide +kernel
theorem dX5_pairsBeyond_7 : decode cX5_pairsBeyond 7 = .ok (.aload_n 0, 1) := by decide +kernel
theorem dX5_pairsBeyond_8 : decode cX5_pairsBeyond 8 = .ok (.getfield 18, 3) := by decide +kernel
theorem dX5_pairsBeyond_11 : decode cX5_pairsBeyond 11 = .ok (.if_icmp .ge 32, 3) := by decide +kernel
theorem dX5_pairsBeyond_14 : decode cX5_pairsBeyond 14 = .ok (.iload_n 3, 1) := by decide +kernel
theorem dX5_pairsBeyond_15 : decode cX5_pairsBeyond 15 = .ok (.aload_n 0, 1) := by decide +kernel
theorem dX5_pairsBeyond_16 : decode cX5_pairsBeyond 16 = .ok (.iload_n 1, 1) := by decide +kernel
theorem dX5_pairsBeyond_17 : decode cX5_pairsBeyond 17 = .ok (.iload 4, 2) := by decide +kernel
theorem dX5_pairsBeyond_19 : decode cX5_pairsBeyond 19 = .ok (.invokevirtual 116, 3) := by decide +kernel
theorem dX5_pairsBeyond_22 : decode cX5_pairsBeyond 22 = .ok (.aload_n 0, 1) := by decide +kernel
theorem dX5_pairsBeyond_23 : decode cX5_pairsBeyond 23 = .ok (.iload_n 2, 1) := by decide +kernel
theorem dX5_pairsBeyond_24 : decode cX5_pairsBeyond 24 = .ok (.iload 4, 2) := by decide +kernel
theorem dX5_pairsBeyond_26 : decode cX5_pairsBeyond 26 = .ok (.invokevirtual 116, 3) := by decide +kernel
theorem dX5_pairsBeyond_29 : decode cX5_pairsBeyond 29 = .ok (.iconst (-1), 1) := by decide +kernel
theorem dX5_pairsBeyond_30 : decode cX5_pairsBeyond 30 = .ok (.ixor, 1) := by decide +kernel
theorem dX5_pairsBeyond_31 : decode cX5_pairsBeyond 31 = .ok (.iand, 1) := by decide +kernel
theorem dX5_pairsBeyond_32 : decode cX5_pairsBeyond 32 = .ok (.invokestatic 119, 3) := by decide +kernel
theorem dX5_pairsBeyond_35 : decode cX5_pairsBeyond 35 = .ok (.iadd, 1) := by decide +kernel
theorem dX5_pairsBeyond_36 : decode cX5_pairsBeyond 36 = .ok (.istore_n 3, 1) := by decide +kernel
theorem dX5_pairsBeyond_37 : decode cX5_pairsBeyond 37 = .ok (.iinc 4 1, 3) := by decide +kernel
theorem dX5_pairsBeyond_40 : decode cX5_pairsBeyond 40 = .ok (.goto (-35), 3) := by decide +kernel
theorem dX5_pairsBeyond_43 : decode cX5_pairsBeyond 43 = .ok (.iload_n 3, 1) := by decide +kernel
theorem dX5_pairsBeyond_44 : decode cX5_pairsBeyond 44 = .ok (.ireturn, 1) := by decide +kernel
theorem dX5_pairBeyond_0 : decode cX5_pairBeyond 0 = .ok (.iconst 0, 1) := by decide +kernel
theorem dX5_pairBeyond_1 : decode cX5_pairBeyond 1 = .ok (.istore 4, 2) := by decide +kernel
theorem dX5_pairBeyond_3 : decode cX5_pairBeyond 3 = .ok (.iconst 0, 1) := by decide +kernel
theorem dX5_pairBeyond_4 : decode cX5_pairBeyond 4 = .ok (.istore 5, 2) := by decide +kernel
theorem dX5_pairBeyond_6 : decode cX5_pairBeyond 6 = .ok (.iload 5, 2) := by decide +kernel
theorem dX5_pairBeyond_8 : decode cX5_pairBeyond 8 = .ok (.aload_n 0, 1) := by decide +kernel
theorem dX5_pairBeyond_9 : decode cX5_pairBeyond 9 = .ok (.getfield 18, 3) := by decide +kernel
theorem dX5_pairBeyond_12 : decode cX5_pairBeyond 12 = .ok (.if_icmp .ge 74, 3) := by decide +kernel
theorem dX5_pairBeyond_15 : decode cX5_pairBeyond 15 = .ok (.aload_n 0, 1) := by decide +kernel
theorem dX5_pairBeyond_16 : decode cX5_pairBeyond 16 = .ok (.iload_n 1, 1) := by decide +kernel
theorem dX5_pairBeyond_17 : decode cX5_pairBeyond 17 = .ok (.iload 5, 2) := by decide +kernel
theorem dX5_pairBeyond_19 : decode cX5_pairBeyond 19 = .ok (.invokevirtual 116, 3) := by decide +kernel
theorem dX5_pairBeyond_22 : decode cX5_pairBeyond 22 = .ok (.aload_n 0, 1) := by decide +kernel
theorem dX5_pairBeyond_23 : decode cX5_pairBeyond 23 = .ok (.iload_n 2, 1) := by decide +kernel
theorem dX5_pairBeyond_24 : decode cX5_pairBeyond 24 = .ok (.iload 5, 2) := by decide +kernel
theorem dX5_pairBeyond_26 : decode cX5_pairBeyond 26 = .ok (.invokevirtual 116, 3) := by decide +kernel
theorem dX5_pairBeyond_29 : decode cX5_pairBeyond 29 = .ok (.iconst (-1), 1) := by decide +kernel
theorem dX5_pairBeyond_30 : decode cX5_pairBeyond 30 = .ok (.ixor, 1) := by decide +kernel
theorem dX5_pairBeyond_31 : decode cX5_pairBeyond 31 = .ok (.iand, 1) := by decide +kernel
theorem dX5_pairBeyond_32 : decode cX5_pairBeyond 32 = .ok (.istore 6, 2) := by decide +kernel
theorem dX5_pairBeyond_34 : decode cX5_pairBeyond 34 = .ok (.iconst 0, 1) := by decide +kernel
theorem dX5_pairBeyond_35 : decode cX5_pairBeyond 35 = .ok (.istore 7, 2) := by decide +kernel
theorem dX5_pairBeyond_37 : decode cX5_pairBeyond 37 = .ok (.iload 7, 2) := by decide +kernel
theorem dX5_pairBeyond_39 : decode cX5_pairBeyond 39 = .ok (.bipush 9, 2) := by decide +kernel
theorem dX5_pairBeyond_41 : decode cX5_pairBeyond 41 = .ok (.if_icmp .ge 39, 3) := by decide +kernel
theorem dX5_pairBeyond_44 : decode cX5_pairBeyond 44 = .ok (.iload 6, 2) := by decide +kernel
theorem dX5_pairBeyond_46 : decode cX5_pairBeyond 46 = .ok (.iload 7, 2) := by decide +kernel
theorem dX5_pairBeyond_48 : decode cX5_pairBeyond 48 = .ok (.ishr, 1) := by decide +kernel
theorem dX5_pairBeyond_49 : decode cX5_pairBeyond 49 = .ok (.iconst 1, 1) := by decide +kernel
theorem dX5_pairBeyond_50 : decode cX5_pairBeyond 50 = .ok (.iand, 1) := by decide +kernel
theorem dX5_pairBeyond_51 : decode cX5_pairBeyond 51 = .ok (.ifCond .eq 23, 3) := by decide +kernel
theorem dX5_pairBeyond_54 : decode cX5_pairBeyond 54 = .ok (.iload 4, 2) := by decide +kernel
theorem dX5_pairBeyond_56 : decode cX5_pairBeyond 56 = .ok (.iload_n 3, 1) := by decide +kernel
theorem dX5_pairBeyond_57 : decode cX5_pairBeyond 57 = .ok (.if_icmp .ne 14, 3) := by decide +kernel
theorem dX5_pairBeyond_60 : decode cX5_pairBeyond 60 = .ok (.aload_n 0, 1) := by decide +kernel
theorem dX5_pairBeyond_61 : decode cX5_pairBeyond 61 = .ok (.getfield 15, 3) := by decide +kernel
theorem dX5_pairBeyond_64 : decode cX5_pairBeyond 64 = .ok (.iload 5, 2) := by decide +kernel
theorem dX5_pairBeyond_66 : decode cX5_pairBeyond 66 = .ok (.iaload, 1) := by decide +kernel
theorem dX5_pairBeyond_67 : decode cX5_pairBeyond 67 = .ok (.iload 7, 2) := by decide +kernel
theorem dX5_pairBeyond_69 : decode cX5_pairBeyond 69 = .ok (.iadd, 1) := by decide +kernel
theorem dX5_pairBeyond_70 : decode cX5_pairBeyond 70 = .ok (.ireturn, 1) := by decide +kernel
theorem dX5_pairBeyond_71 : decode cX5_pairBeyond 71 = .ok (.iinc 4 1, 3) := by decide +kernel
theorem dX5_pairBeyond_74 : decode cX5_pairBeyond 74 = .ok (.iinc 7 1, 3) := by decide +kernel
theorem dX5_pairBeyond_77 : decode cX5_pairBeyond 77 = .ok (.goto (-40), 3) := by decide +kernel
theorem dX5_pairBeyond_80 : decode cX5_pairBeyond 80 = .ok (.iinc 5 1, 3) := by decide +kernel
theorem dX5_pairBeyond_83 : decode cX5_pairBeyond 83 = .ok (.goto (-77), 3) := by decide +kernel
theorem dX5_pairBeyond_86 : decode cX5_pairBeyond 86 = .ok (.bipush (-9), 2) := by decide +kernel
theorem dX5_pairBeyond_88 : decode cX5_pairBeyond 88 = .ok (.ireturn, 1) := by decide +kernel
theorem dX5_meet_0 : decode cX5_meet 0 = .ok (.iconst 0, 1) := by decide +kernel
theorem dX5_meet_1 : decode cX5_meet 1 = .ok (.istore_n 3, 1) := by decide +kernel
theorem dX5_meet_2 : decode cX5_meet 2 = .ok (.iload_n 3, 1) := by decide +kernel
theorem dX5_meet_3 : decode cX5_meet 3 = .ok (.aload_n 0, 1) := by decide +kernel
theorem dX5_meet_4 : decode cX5_meet 4 = .ok (.getfield 18, 3) := by decide +kernel
theorem dX5_meet_7 : decode cX5_meet 7 = .ok (.if_icmp .ge 27, 3) := by decide +kernel
theorem dX5_meet_10 : decode cX5_meet 10 = .ok (.aload_n 0, 1) := by decide +kernel
theorem dX5_meet_11 : decode cX5_meet 11 = .ok (.iload_n 1, 1) := by decide +kernel
theorem dX5_meet_12 : decode cX5_meet 12 = .ok (.iload_n 3, 1) := by decide +kernel
theorem dX5_meet_13 : decode cX5_meet 13 = .ok (.invokevirtual 116, 3) := by decide +kernel
theorem dX5_meet_16 : decode cX5_meet 16 = .ok (.aload_n 0, 1) := by decide +kernel
theorem dX5_meet_17 : decode cX5_meet 17 = .ok (.iload_n 2, 1) := by decide +kernel
theorem dX5_meet_18 : decode cX5_meet 18 = .ok (.iload_n 3, 1) := by decide +kernel
theorem dX5_meet_19 : decode cX5_meet 19 = .ok (.invokevirtual 116, 3) := by decide +kernel
theorem dX5_meet_22 : decode cX5_meet 22 = .ok (.iand, 1) := by decide +kernel
theorem dX5_meet_23 : decode cX5_meet 23 = .ok (.ifCond .eq 5, 3) := by decide +kernel
theorem dX5_meet_26 : decode cX5_meet 26 = .ok (.iconst 1, 1) := by decide +kernel
theorem dX5_meet_27 : decode cX5_meet 27 = .ok (.ireturn, 1) := by decide +kernel
theorem dX5_meet_28 : decode cX5_meet 28 = .ok (.iinc 3 1, 3) := by decide +kernel
theorem dX5_meet_31 : decode cX5_meet 31 = .ok (.goto (-29), 3) := by decide +kernel
theorem dX5_meet_34 : decode cX5_meet 34 = .ok (.iconst 0, 1) := by decide +kernel
theorem dX5_meet_35 : decode cX5_meet 35 = .ok (.ireturn, 1) := by decide +kernel
theorem dX5_denier_0 : decode cX5_denier 0 = .ok (.iload_n 1, 1) := by decide +kernel
theorem dX5_denier_1 : decode cX5_denier 1 = .ok (.iload_n 2, 1) := by decide +kernel
theorem dX5_denier_2 : decode cX5_denier 2 = .ok (.if_icmp .ne 6, 3) := by decide +kernel
theorem dX5_denier_5 : decode cX5_denier 5 = .ok (.bipush (-9), 2) := by decide +kernel
theorem dX5_denier_7 : decode cX5_denier 7 = .ok (.ireturn, 1) := by decide +kernel
theorem dX5_denier_8 : decode cX5_denier 8 = .ok (.aload_n 0, 1) := by decide +kernel
theorem dX5_denier_9 : decode cX5_denier 9 = .ok (.getfield 55, 3) := by decide +kernel
theorem dX5_denier_12 : decode cX5_denier 12 = .ok (.getfield 124, 3) := by decide +kernel
theorem dX5_denier_15 : decode cX5_denier 15 = .ok (.iload_n 1, 1) := by decide +kernel
theorem dX5_denier_16 : decode cX5_denier 16 = .ok (.iaload, 1) := by decide +kernel
theorem dX5_denier_17 : decode cX5_denier 17 = .ok (.aload_n 0, 1) := by decide +kernel
theorem dX5_denier_18 : decode cX5_denier 18 = .ok (.getfield 55, 3) := by decide +kernel
theorem dX5_denier_21 : decode cX5_denier 21 = .ok (.getfield 124, 3) := by decide +kernel
theorem dX5_denier_24 : decode cX5_denier 24 = .ok (.iload_n 2, 1) := by decide +kernel
theorem dX5_denier_25 : decode cX5_denier 25 = .ok (.iaload, 1) := by decide +kernel
theorem dX5_denier_26 : decode cX5_denier 26 = .ok (.ior, 1) := by decide +kernel
theorem dX5_denier_27 : decode cX5_denier 27 = .ok (.istore 4, 2) := by decide +kernel
theorem dX5_denier_29 : decode cX5_denier 29 = .ok (.iconst 0, 1) := by decide +kernel
theorem dX5_denier_30 : decode cX5_denier 30 = .ok (.istore 5, 2) := by decide +kernel
theorem dX5_denier_32 : decode cX5_denier 32 = .ok (.iload 5, 2) := by decide +kernel
theorem dX5_denier_34 : decode cX5_denier 34 = .ok (.sipush 3341, 3) := by decide +kernel
theorem dX5_denier_37 : decode cX5_denier 37 = .ok (.if_icmp .ge 53, 3) := by decide +kernel
theorem dX5_denier_40 : decode cX5_denier 40 = .ok (.aload_n 0, 1) := by decide +kernel
theorem dX5_denier_41 : decode cX5_denier 41 = .ok (.getfield 51, 3) := by decide +kernel
theorem dX5_denier_44 : decode cX5_denier 44 = .ok (.iload 5, 2) := by decide +kernel
theorem dX5_denier_46 : decode cX5_denier 46 = .ok (.iload_n 3, 1) := by decide +kernel
theorem dX5_denier_47 : decode cX5_denier 47 = .ok (.invokevirtual 74, 3) := by decide +kernel
theorem dX5_denier_50 : decode cX5_denier 50 = .ok (.ifCond .eq 34, 3) := by decide +kernel
theorem dX5_denier_53 : decode cX5_denier 53 = .ok (.aload_n 0, 1) := by decide +kernel
theorem dX5_denier_54 : decode cX5_denier 54 = .ok (.iload 4, 2) := by decide +kernel
theorem dX5_denier_56 : decode cX5_denier 56 = .ok (.iload 5, 2) := by decide +kernel
theorem dX5_denier_58 : decode cX5_denier 58 = .ok (.invokevirtual 127, 3) := by decide +kernel
theorem dX5_denier_61 : decode cX5_denier 61 = .ok (.aload_n 0, 1) := by decide +kernel
theorem dX5_denier_62 : decode cX5_denier 62 = .ok (.iload_n 1, 1) := by decide +kernel
theorem dX5_denier_63 : decode cX5_denier 63 = .ok (.iload 5, 2) := by decide +kernel
theorem dX5_denier_65 : decode cX5_denier 65 = .ok (.invokevirtual 82, 3) := by decide +kernel
theorem dX5_denier_68 : decode cX5_denier 68 = .ok (.aload_n 0, 1) := by decide +kernel
theorem dX5_denier_69 : decode cX5_denier 69 = .ok (.iload_n 2, 1) := by decide +kernel
theorem dX5_denier_70 : decode cX5_denier 70 = .ok (.iload 5, 2) := by decide +kernel
theorem dX5_denier_72 : decode cX5_denier 72 = .ok (.invokevirtual 82, 3) := by decide +kernel
theorem dX5_denier_75 : decode cX5_denier 75 = .ok (.iconst (-1), 1) := by decide +kernel
theorem dX5_denier_76 : decode cX5_denier 76 = .ok (.ixor, 1) := by decide +kernel
theorem dX5_denier_77 : decode cX5_denier 77 = .ok (.iand, 1) := by decide +kernel
theorem dX5_denier_78 : decode cX5_denier 78 = .ok (.ifCond .eq 6, 3) := by decide +kernel
theorem dX5_denier_81 : decode cX5_denier 81 = .ok (.iload 5, 2) := by decide +kernel
theorem dX5_denier_83 : decode cX5_denier 83 = .ok (.ireturn, 1) := by decide +kernel
theorem dX5_denier_84 : decode cX5_denier 84 = .ok (.iinc 5 1, 3) := by decide +kernel
theorem dX5_denier_87 : decode cX5_denier 87 = .ok (.goto (-55), 3) := by decide +kernel
theorem dX5_denier_90 : decode cX5_denier 90 = .ok (.bipush (-9), 2) := by decide +kernel
theorem dX5_denier_92 : decode cX5_denier 92 = .ok (.ireturn, 1) := by decide +kernel
theorem dX5_rare_0 : decode cX5_rare 0 = .ok (.iload_n 1, 1) := by decide +kernel
theorem dX5_rare_1 : decode cX5_rare 1 = .ok (.aload_n 0, 1) := by decide +kernel
theorem dX5_rare_2 : decode cX5_rare 2 = .ok (.getfield 22, 3) := by decide +kernel
theorem dX5_rare_5 : decode cX5_rare 5 = .ok (.iload_n 1, 1) := by decide +kernel
theorem dX5_rare_6 : decode cX5_rare 6 = .ok (.isub, 1) := by decide +kernel
theorem dX5_rare_7 : decode cX5_rare 7 = .ok (.invokestatic 130, 3) := by decide +kernel
theorem dX5_rare_10 : decode cX5_rare 10 = .ok (.ireturn, 1) := by decide +kernel
theorem dX5_within_0 : decode cX5_within 0 = .ok (.iconst 0, 1) := by decide +kernel
theorem dX5_within_1 : decode cX5_within 1 = .ok (.istore_n 3, 1) := by decide +kernel
theorem dX5_within_2 : decode cX5_within 2 = .ok (.iload_n 3, 1) := by decide +kernel
theorem dX5_within_3 : decode cX5_within 3 = .ok (.aload_n 0, 1) := by decide +kernel
theorem dX5_within_4 : decode cX5_within 4 = .ok (.getfield 18, 3) := by decide +kernel
theorem dX5_within_7 : decode cX5_within 7 = .ok (.if_icmp .ge 29, 3) := by decide +kernel
theorem dX5_within_10 : decode cX5_within 10 = .ok (.aload_n 0, 1) := by decide +kernel
theorem dX5_within_11 : decode cX5_within 11 = .ok (.iload_n 1, 1) := by decide +kernel
theorem dX5_within_12 : decode cX5_within 12 = .ok (.iload_n 3, 1) := by decide +kernel
theorem dX5_within_13 : decode cX5_within 13 = .ok (.invokevirtual 116, 3) := by decide +kernel
theorem dX5_within_16 : decode cX5_within 16 = .ok (.aload_n 0, 1) := by decide +kernel
theorem dX5_within_17 : decode cX5_within 17 = .ok (.iload_n 2, 1) := by decide +kernel
theorem dX5_within_18 : decode cX5_within 18 = .ok (.iload_n 3, 1) := by decide +kernel
theorem dX5_within_19 : decode cX5_within 19 = .ok (.invokevirtual 116, 3) := by decide +kernel
theorem dX5_within_22 : decode cX5_within 22 = .ok (.iconst (-1), 1) := by decide +kernel
theorem dX5_within_23 : decode cX5_within 23 = .ok (.ixor, 1) := by decide +kernel
theorem dX5_within_24 : decode cX5_within 24 = .ok (.iand, 1) := by decide +kernel
theorem dX5_within_25 : decode cX5_within 25 = .ok (.ifCond .eq 5, 3) := by decide +kernel
theorem dX5_within_28 : decode cX5_within 28 = .ok (.iconst 0, 1) := by decide +kernel
theorem dX5_within_29 : decode cX5_within 29 = .ok (.ireturn, 1) := by decide +kernel
theorem dX5_within_30 : decode cX5_within 30 = .ok (.iinc 3 1, 3) := by decide +kernel
theorem dX5_within_33 : decode cX5_within 33 = .ok (.goto (-31), 3) := by decide +kernel
theorem dX5_within_36 : decode cX5_within 36 = .ok (.iconst 1, 1) := by decide +kernel
theorem dX5_within_37 : decode cX5_within 37 = .ok (.ireturn, 1) := by decide +kernel
theorem dX5_serves_0 : decode cX5_serves 0 = .ok (.iconst 0, 1) := by decide +kernel
theorem dX5_serves_1 : decode cX5_serves 1 = .ok (.istore_n 2, 1) := by decide +kernel
theorem dX5_serves_2 : decode cX5_serves 2 = .ok (.iconst 0, 1) := by decide +kernel
theorem dX5_serves_3 : decode cX5_serves 3 = .ok (.istore_n 3, 1) := by decide +kernel
theorem dX5_serves_4 : decode cX5_serves 4 = .ok (.iload_n 3, 1) := by decide +kernel
theorem dX5_serves_5 : decode cX5_serves 5 = .ok (.aload_n 0, 1) := by decide +kernel
theorem dX5_serves_6 : decode cX5_serves 6 = .ok (.getfield 55, 3) := by decide +kernel
theorem dX5_serves_9 : decode cX5_serves 9 = .ok (.getfield 67, 3) := by decide +kernel
theorem dX5_serves_12 : decode cX5_serves 12 = .ok (.if_icmp .ge 47, 3) := by decide +kernel
theorem dX5_serves_15 : decode cX5_serves 15 = .ok (.iload_n 3, 1) := by decide +kernel
theorem dX5_serves_16 : decode cX5_serves 16 = .ok (.iload_n 1, 1) := by decide +kernel
theorem dX5_serves_17 : decode cX5_serves 17 = .ok (.if_icmp .eq 36, 3) := by decide +kernel
theorem dX5_serves_20 : decode cX5_serves 20 = .ok (.aload_n 0, 1) := by decide +kernel
theorem dX5_serves_21 : decode cX5_serves 21 = .ok (.getfield 55, 3) := by decide +kernel
theorem dX5_serves_24 : decode cX5_serves 24 = .ok (.getfield 135, 3) := by decide +kernel
theorem dX5_serves_27 : decode cX5_serves 27 = .ok (.iload_n 3, 1) := by decide +kernel
theorem dX5_serves_28 : decode cX5_serves 28 = .ok (.baload, 1) := by decide +kernel
theorem dX5_serves_29 : decode cX5_serves 29 = .ok (.ifCond .eq 24, 3) := by decide +kernel
theorem dX5_serves_32 : decode cX5_serves 32 = .ok (.aload_n 0, 1) := by decide +kernel
theorem dX5_serves_33 : decode cX5_serves 33 = .ok (.iload_n 3, 1) := by decide +kernel
theorem dX5_serves_34 : decode cX5_serves 34 = .ok (.iload_n 1, 1) := by decide +kernel
theorem dX5_serves_35 : decode cX5_serves 35 = .ok (.invokevirtual 139, 3) := by decide +kernel
theorem dX5_serves_38 : decode cX5_serves 38 = .ok (.ifCond .ne 12, 3) := by decide +kernel
theorem dX5_serves_41 : decode cX5_serves 41 = .ok (.aload_n 0, 1) := by decide +kernel
theorem dX5_serves_42 : decode cX5_serves 42 = .ok (.iload_n 1, 1) := by decide +kernel
theorem dX5_serves_43 : decode cX5_serves 43 = .ok (.iload_n 3, 1) := by decide +kernel
theorem dX5_serves_44 : decode cX5_serves 44 = .ok (.invokevirtual 139, 3) := by decide +kernel
theorem dX5_serves_47 : decode cX5_serves 47 = .ok (.ifCond .eq 6, 3) := by decide +kernel
theorem dX5_serves_50 : decode cX5_serves 50 = .ok (.iinc 2 1, 3) := by decide +kernel
theorem dX5_serves_53 : decode cX5_serves 53 = .ok (.iinc 3 1, 3) := by decide +kernel
theorem dX5_serves_56 : decode cX5_serves 56 = .ok (.goto (-52), 3) := by decide +kernel
theorem dX5_serves_59 : decode cX5_serves 59 = .ok (.iload_n 2, 1) := by decide +kernel
theorem dX5_serves_60 : decode cX5_serves 60 = .ok (.ireturn, 1) := by decide +kernel
theorem dX5_seekNext_0 : decode cX5_seekNext 0 = .ok (.aload_n 0, 1) := by decide +kernel
theorem dX5_seekNext_1 : decode cX5_seekNext 1 = .ok (.bipush (-9), 2) := by decide +kernel
theorem dX5_seekNext_3 : decode cX5_seekNext 3 = .ok (.putfield 41, 3) := by decide +kernel
theorem dX5_seekNext_6 : decode cX5_seekNext 6 = .ok (.aload_n 0, 1) := by decide +kernel
theorem dX5_seekNext_7 : decode cX5_seekNext 7 = .ok (.iconst (-1), 1) := by decide +kernel
theorem dX5_seekNext_8 : decode cX5_seekNext 8 = .ok (.putfield 44, 3) := by decide +kernel
theorem dX5_seekNext_11 : decode cX5_seekNext 11 = .ok (.iconst 1, 1) := by decide +kernel
theorem dX5_seekNext_12 : decode cX5_seekNext 12 = .ok (.istore_n 1, 1) := by decide +kernel
theorem dX5_seekNext_13 : decode cX5_seekNext 13 = .ok (.iload_n 1, 1) := by decide +kernel
theorem dX5_seekNext_14 : decode cX5_seekNext 14 = .ok (.bipush 6, 2) := by decide +kernel
theorem dX5_seekNext_16 : decode cX5_seekNext 16 = .ok (.if_icmp .gt 64, 3) := by decide +kernel
theorem dX5_seekNext_19 : decode cX5_seekNext 19 = .ok (.iconst 0, 1) := by decide +kernel
theorem dX5_seekNext_20 : decode cX5_seekNext 20 = .ok (.istore_n 2, 1) := by decide +kernel
theorem dX5_seekNext_21 : decode cX5_seekNext 21 = .ok (.iload_n 2, 1) := by decide +kernel
theorem dX5_seekNext_22 : decode cX5_seekNext 22 = .ok (.aload_n 0, 1) := by decide +kernel
theorem dX5_seekNext_23 : decode cX5_seekNext 23 = .ok (.getfield 55, 3) := by decide +kernel
theorem dX5_seekNext_26 : decode cX5_seekNext 26 = .ok (.getfield 67, 3) := by decide +kernel
theorem dX5_seekNext_29 : decode cX5_seekNext 29 = .ok (.if_icmp .ge 45, 3) := by decide +kernel
theorem dX5_seekNext_32 : decode cX5_seekNext 32 = .ok (.iconst 0, 1) := by decide +kernel
theorem dX5_seekNext_33 : decode cX5_seekNext 33 = .ok (.istore_n 3, 1) := by decide +kernel
theorem dX5_seekNext_34 : decode cX5_seekNext 34 = .ok (.iload_n 3, 1) := by decide +kernel
theorem dX5_seekNext_35 : decode cX5_seekNext 35 = .ok (.aload_n 0, 1) := by decide +kernel
theorem dX5_seekNext_36 : decode cX5_seekNext 36 = .ok (.getfield 55, 3) := by decide +kernel
theorem dX5_seekNext_39 : decode cX5_seekNext 39 = .ok (.getfield 67, 3) := by decide +kernel
theorem dX5_seekNext_42 : decode cX5_seekNext 42 = .ok (.if_icmp .ge 26, 3) := by decide +kernel
theorem dX5_seekNext_45 : decode cX5_seekNext 45 = .ok (.aload_n 0, 1) := by decide +kernel
theorem dX5_seekNext_46 : decode cX5_seekNext 46 = .ok (.iload_n 1, 1) := by decide +kernel
theorem dX5_seekNext_47 : decode cX5_seekNext 47 = .ok (.iload_n 2, 1) := by decide +kernel
theorem dX5_seekNext_48 : decode cX5_seekNext 48 = .ok (.iload_n 3, 1) := by decide +kernel
theorem dX5_seekNext_49 : decode cX5_seekNext 49 = .ok (.invokevirtual 142, 3) := by decide +kernel
theorem dX5_seekNext_52 : decode cX5_seekNext 52 = .ok (.ifCond .eq 10, 3) := by decide +kernel
theorem dX5_seekNext_55 : decode cX5_seekNext 55 = .ok (.aload_n 0, 1) := by decide +kernel
theorem dX5_seekNext_56 : decode cX5_seekNext 56 = .ok (.iload_n 1, 1) := by decide +kernel
theorem dX5_seekNext_57 : decode cX5_seekNext 57 = .ok (.iload_n 2, 1) := by decide +kernel
theorem dX5_seekNext_58 : decode cX5_seekNext 58 = .ok (.iload_n 3, 1) := by decide +kernel
theorem dX5_seekNext_59 : decode cX5_seekNext 59 = .ok (.invokevirtual 146, 3) := by decide +kernel
theorem dX5_seekNext_62 : decode cX5_seekNext 62 = .ok (.iinc 3 1, 3) := by decide +kernel
theorem dX5_seekNext_65 : decode cX5_seekNext 65 = .ok (.goto (-31), 3) := by decide +kernel
theorem dX5_seekNext_68 : decode cX5_seekNext 68 = .ok (.iinc 2 1, 3) := by decide +kernel
theorem dX5_seekNext_71 : decode cX5_seekNext 71 = .ok (.goto (-50), 3) := by decide +kernel
theorem dX5_seekNext_74 : decode cX5_seekNext 74 = .ok (.iinc 1 1, 3) := by decide +kernel
theorem dX5_seekNext_77 : decode cX5_seekNext 77 = .ok (.goto (-64), 3) := by decide +kernel
theorem dX5_seekNext_80 : decode cX5_seekNext 80 = .ok (.aload_n 0, 1) := by decide +kernel
theorem dX5_seekNext_81 : decode cX5_seekNext 81 = .ok (.getfield 41, 3) := by decide +kernel
theorem dX5_seekNext_84 : decode cX5_seekNext 84 = .ok (.ireturn, 1) := by decide +kernel
theorem dX5_mightBeMade_0 : decode cX5_mightBeMade 0 = .ok (.aload_n 0, 1) := by decide +kernel
theorem dX5_mightBeMade_1 : decode cX5_mightBeMade 1 = .ok (.getfield 55, 3) := by decide +kernel
theorem dX5_mightBeMade_4 : decode cX5_mightBeMade 4 = .ok (.getfield 135, 3) := by decide +kernel
theorem dX5_mightBeMade_7 : decode cX5_mightBeMade 7 = .ok (.iload_n 2, 1) := by decide +kernel
theorem dX5_mightBeMade_8 : decode cX5_mightBeMade 8 = .ok (.baload, 1) := by decide +kernel
theorem dX5_mightBeMade_9 : decode cX5_mightBeMade 9 = .ok (.ifCond .eq 36, 3) := by decide +kernel
theorem dX5_mightBeMade_12 : decode cX5_mightBeMade 12 = .ok (.iload_n 1, 1) := by decide +kernel
theorem dX5_mightBeMade_13 : decode cX5_mightBeMade 13 = .ok (.iconst 2, 1) := by decide +kernel
theorem dX5_mightBeMade_14 : decode cX5_mightBeMade 14 = .ok (.if_icmp .ne 23, 3) := by decide +kernel
theorem dX5_mightBeMade_17 : decode cX5_mightBeMade 17 = .ok (.iload_n 3, 1) := by decide +kernel
theorem dX5_mightBeMade_18 : decode cX5_mightBeMade 18 = .ok (.iload_n 2, 1) := by decide +kernel
theorem dX5_mightBeMade_19 : decode cX5_mightBeMade 19 = .ok (.if_icmp .le 26, 3) := by decide +kernel
theorem dX5_mightBeMade_22 : decode cX5_mightBeMade 22 = .ok (.aload_n 0, 1) := by decide +kernel
theorem dX5_mightBeMade_23 : decode cX5_mightBeMade 23 = .ok (.getfield 55, 3) := by decide +kernel
theorem dX5_mightBeMade_26 : decode cX5_mightBeMade 26 = .ok (.getfield 135, 3) := by decide +kernel
theorem dX5_mightBeMade_29 : decode cX5_mightBeMade 29 = .ok (.iload_n 3, 1) := by decide +kernel
theorem dX5_mightBeMade_30 : decode cX5_mightBeMade 30 = .ok (.baload, 1) := by decide +kernel
theorem dX5_mightBeMade_31 : decode cX5_mightBeMade 31 = .ok (.ifCond .eq 14, 3) := by decide +kernel
theorem dX5_mightBeMade_34 : decode cX5_mightBeMade 34 = .ok (.goto 7, 3) := by decide +kernel
theorem dX5_mightBeMade_37 : decode cX5_mightBeMade 37 = .ok (.iload_n 3, 1) := by decide +kernel
theorem dX5_mightBeMade_38 : decode cX5_mightBeMade 38 = .ok (.ifCond .ne 7, 3) := by decide +kernel
theorem dX5_mightBeMade_41 : decode cX5_mightBeMade 41 = .ok (.iconst 1, 1) := by decide +kernel
theorem dX5_mightBeMade_42 : decode cX5_mightBeMade 42 = .ok (.goto 4, 3) := by decide +kernel
theorem dX5_mightBeMade_45 : decode cX5_mightBeMade 45 = .ok (.iconst 0, 1) := by decide +kernel
theorem dX5_mightBeMade_46 : decode cX5_mightBeMade 46 = .ok (.ireturn, 1) := by decide +kernel
theorem dX5_tryNext_0 : decode cX5_tryNext 0 = .ok (.iconst 0, 1) := by decide +kernel
theorem dX5_tryNext_1 : decode cX5_tryNext 1 = .ok (.istore 4, 2) := by decide +kernel
theorem dX5_tryNext_3 : decode cX5_tryNext 3 = .ok (.iconst 0, 1) := by decide +kernel
theorem dX5_tryNext_4 : decode cX5_tryNext 4 = .ok (.istore 5, 2) := by decide +kernel
theorem dX5_tryNext_6 : decode cX5_tryNext 6 = .ok (.iload 5, 2) := by decide +kernel
theorem dX5_tryNext_8 : decode cX5_tryNext 8 = .ok (.aload_n 0, 1) := by decide +kernel
theorem dX5_tryNext_9 : decode cX5_tryNext 9 = .ok (.getfield 18, 3) := by decide +kernel
theorem dX5_tryNext_12 : decode cX5_tryNext 12 = .ok (.if_icmp .ge 68, 3) := by decide +kernel
theorem dX5_tryNext_15 : decode cX5_tryNext 15 = .ok (.iload_n 1, 1) := by decide +kernel
theorem dX5_tryNext_16 : decode cX5_tryNext 16 = .ok (.iconst 2, 1) := by decide +kernel
theorem dX5_tryNext_17 : decode cX5_tryNext 17 = .ok (.if_icmp .ne 13, 3) := by decide +kernel
theorem dX5_tryNext_20 : decode cX5_tryNext 20 = .ok (.aload_n 0, 1) := by decide +kernel
theorem dX5_tryNext_21 : decode cX5_tryNext 21 = .ok (.iload_n 3, 1) := by decide +kernel
theorem dX5_tryNext_22 : decode cX5_tryNext 22 = .ok (.iload 5, 2) := by decide +kernel
theorem dX5_tryNext_24 : decode cX5_tryNext 24 = .ok (.invokevirtual 116, 3) := by decide +kernel
theorem dX5_tryNext_27 : decode cX5_tryNext 27 = .ok (.goto 4, 3) := by decide +kernel
theorem dX5_tryNext_30 : decode cX5_tryNext 30 = .ok (.iconst 0, 1) := by decide +kernel
theorem dX5_tryNext_31 : decode cX5_tryNext 31 = .ok (.istore 6, 2) := by decide +kernel
theorem dX5_tryNext_33 : decode cX5_tryNext 33 = .ok (.aload_n 0, 1) := by decide +kernel
theorem dX5_tryNext_34 : decode cX5_tryNext 34 = .ok (.getfield 38, 3) := by decide +kernel
theorem dX5_tryNext_37 : decode cX5_tryNext 37 = .ok (.iload 5, 2) := by decide +kernel
theorem dX5_tryNext_39 : decode cX5_tryNext 39 = .ok (.iload_n 1, 1) := by decide +kernel
theorem dX5_tryNext_40 : decode cX5_tryNext 40 = .ok (.aload_n 0, 1) := by decide +kernel
theorem dX5_tryNext_41 : decode cX5_tryNext 41 = .ok (.iload 5, 2) := by decide +kernel
theorem dX5_tryNext_43 : decode cX5_tryNext 43 = .ok (.invokevirtual 150, 3) := by decide +kernel
theorem dX5_tryNext_46 : decode cX5_tryNext 46 = .ok (.aload_n 0, 1) := by decide +kernel
theorem dX5_tryNext_47 : decode cX5_tryNext 47 = .ok (.iload_n 2, 1) := by decide +kernel
theorem dX5_tryNext_48 : decode cX5_tryNext 48 = .ok (.iload 5, 2) := by decide +kernel
theorem dX5_tryNext_50 : decode cX5_tryNext 50 = .ok (.invokevirtual 116, 3) := by decide +kernel
theorem dX5_tryNext_53 : decode cX5_tryNext 53 = .ok (.iload 6, 2) := by decide +kernel
theorem dX5_tryNext_55 : decode cX5_tryNext 55 = .ok (.invokestatic 110, 3) := by decide +kernel
theorem dX5_tryNext_58 : decode cX5_tryNext 58 = .ok (.iastore, 1) := by decide +kernel
theorem dX5_tryNext_59 : decode cX5_tryNext 59 = .ok (.iload 4, 2) := by decide +kernel
theorem dX5_tryNext_61 : decode cX5_tryNext 61 = .ok (.aload_n 0, 1) := by decide +kernel
theorem dX5_tryNext_62 : decode cX5_tryNext 62 = .ok (.getfield 38, 3) := by decide +kernel
theorem dX5_tryNext_65 : decode cX5_tryNext 65 = .ok (.iload 5, 2) := by decide +kernel
theorem dX5_tryNext_67 : decode cX5_tryNext 67 = .ok (.iaload, 1) := by decide +kernel
theorem dX5_tryNext_68 : decode cX5_tryNext 68 = .ok (.invokestatic 119, 3) := by decide +kernel
theorem dX5_tryNext_71 : decode cX5_tryNext 71 = .ok (.iadd, 1) := by decide +kernel
theorem dX5_tryNext_72 : decode cX5_tryNext 72 = .ok (.istore 4, 2) := by decide +kernel
theorem dX5_tryNext_74 : decode cX5_tryNext 74 = .ok (.iinc 5 1, 3) := by decide +kernel
theorem dX5_tryNext_77 : decode cX5_tryNext 77 = .ok (.goto (-71), 3) := by decide +kernel
theorem dX5_tryNext_80 : decode cX5_tryNext 80 = .ok (.aload_n 0, 1) := by decide +kernel
theorem dX5_tryNext_81 : decode cX5_tryNext 81 = .ok (.iload 4, 2) := by decide +kernel
theorem dX5_tryNext_83 : decode cX5_tryNext 83 = .ok (.invokevirtual 153, 3) := by decide +kernel
theorem dX5_tryNext_86 : decode cX5_tryNext 86 = .ok (.aload_n 0, 1) := by decide +kernel
theorem dX5_tryNext_87 : decode cX5_tryNext 87 = .ok (.getfield 44, 3) := by decide +kernel
theorem dX5_tryNext_90 : decode cX5_tryNext 90 = .ok (.if_icmp .le 36, 3) := by decide +kernel
theorem dX5_tryNext_93 : decode cX5_tryNext 93 = .ok (.aload_n 0, 1) := by decide +kernel
theorem dX5_tryNext_94 : decode cX5_tryNext 94 = .ok (.invokevirtual 156, 3) := by decide +kernel
theorem dX5_tryNext_97 : decode cX5_tryNext 97 = .ok (.ifCond .eq 29, 3) := by decide +kernel
theorem dX5_tryNext_100 : decode cX5_tryNext 100 = .ok (.aload_n 0, 1) := by decide +kernel
theorem dX5_tryNext_101 : decode cX5_tryNext 101 = .ok (.aload_n 0, 1) := by decide +kernel
theorem dX5_tryNext_102 : decode cX5_tryNext 102 = .ok (.iload 4, 2) := by decide +kernel
theorem dX5_tryNext_104 : decode cX5_tryNext 104 = .ok (.invokevirtual 153, 3) := by decide +kernel
theorem dX5_tryNext_107 : decode cX5_tryNext 107 = .ok (.putfield 44, 3) := by decide +kernel
theorem dX5_tryNext_110 : decode cX5_tryNext 110 = .ok (.aload_n 0, 1) := by decide +kernel
theorem dX5_tryNext_111 : decode cX5_tryNext 111 = .ok (.sipush 10000, 3) := by decide +kernel
theorem dX5_tryNext_114 : decode cX5_tryNext 114 = .ok (.iload_n 1, 1) := by decide +kernel
theorem dX5_tryNext_115 : decode cX5_tryNext 115 = .ok (.imul, 1) := by decide +kernel
theorem dX5_tryNext_116 : decode cX5_tryNext 116 = .ok (.bipush 100, 2) := by decide +kernel
theorem dX5_tryNext_118 : decode cX5_tryNext 118 = .ok (.iload_n 2, 1) := by decide +kernel
theorem dX5_tryNext_119 : decode cX5_tryNext 119 = .ok (.imul, 1) := by decide +kernel
theorem dX5_tryNext_120 : decode cX5_tryNext 120 = .ok (.iadd, 1) := by decide +kernel
theorem dX5_tryNext_121 : decode cX5_tryNext 121 = .ok (.iload_n 3, 1) := by decide +kernel
theorem dX5_tryNext_122 : decode cX5_tryNext 122 = .ok (.iadd, 1) := by decide +kernel
theorem dX5_tryNext_123 : decode cX5_tryNext 123 = .ok (.putfield 41, 3) := by decide +kernel
theorem dX5_tryNext_126 : decode cX5_tryNext 126 = .ok (.return_, 1) := by decide +kernel
theorem dX5_isCandidateNew_0 : decode cX5_isCandidateNew 0 = .ok (.iconst 0, 1) := by decide +kernel
theorem dX5_isCandidateNew_1 : decode cX5_isCandidateNew 1 = .ok (.istore_n 1, 1) := by decide +kernel
theorem dX5_isCandidateNew_2 : decode cX5_isCandidateNew 2 = .ok (.iload_n 1, 1) := by decide +kernel
theorem dX5_isCandidateNew_3 : decode cX5_isCandidateNew 3 = .ok (.aload_n 0, 1) := by decide +kernel
theorem dX5_isCandidateNew_4 : decode cX5_isCandidateNew 4 = .ok (.getfield 55, 3) := by decide +kernel
theorem dX5_isCandidateNew_7 : decode cX5_isCandidateNew 7 = .ok (.getfield 67, 3) := by decide +kernel
theorem dX5_isCandidateNew_10 : decode cX5_isCandidateNew 10 = .ok (.if_icmp .ge 19, 3) := by decide +kernel
theorem dX5_isCandidateNew_13 : decode cX5_isCandidateNew 13 = .ok (.aload_n 0, 1) := by decide +kernel
theorem dX5_isCandidateNew_14 : decode cX5_isCandidateNew 14 = .ok (.iload_n 1, 1) := by decide +kernel
theorem dX5_isCandidateNew_15 : decode cX5_isCandidateNew 15 = .ok (.invokevirtual 160, 3) := by decide +kernel
theorem dX5_isCandidateNew_18 : decode cX5_isCandidateNew 18 = .ok (.ifCond .eq 5, 3) := by decide +kernel
theorem dX5_isCandidateNew_21 : decode cX5_isCandidateNew 21 = .ok (.iconst 0, 1) := by decide +kernel
theorem dX5_isCandidateNew_22 : decode cX5_isCandidateNew 22 = .ok (.ireturn, 1) := by decide +kernel
theorem dX5_isCandidateNew_23 : decode cX5_isCandidateNew 23 = .ok (.iinc 1 1, 3) := by decide +kernel
theorem dX5_isCandidateNew_26 : decode cX5_isCandidateNew 26 = .ok (.goto (-24), 3) := by decide +kernel
theorem dX5_isCandidateNew_29 : decode cX5_isCandidateNew 29 = .ok (.iconst 1, 1) := by decide +kernel
theorem dX5_isCandidateNew_30 : decode cX5_isCandidateNew 30 = .ok (.ireturn, 1) := by decide +kernel
theorem dX5_isCandidate_0 : decode cX5_isCandidate 0 = .ok (.iconst 0, 1) := by decide +kernel
theorem dX5_isCandidate_1 : decode cX5_isCandidate 1 = .ok (.istore_n 2, 1) := by decide +kernel
theorem dX5_isCandidate_2 : decode cX5_isCandidate 2 = .ok (.iload_n 2, 1) := by decide +kernel
theorem dX5_isCandidate_3 : decode cX5_isCandidate 3 = .ok (.aload_n 0, 1) := by decide +kernel
theorem dX5_isCandidate_4 : decode cX5_isCandidate 4 = .ok (.getfield 18, 3) := by decide +kernel
theorem dX5_isCandidate_7 : decode cX5_isCandidate 7 = .ok (.if_icmp .ge 26, 3) := by decide +kernel
theorem dX5_isCandidate_10 : decode cX5_isCandidate 10 = .ok (.aload_n 0, 1) := by decide +kernel
theorem dX5_isCandidate_11 : decode cX5_isCandidate 11 = .ok (.iload_n 1, 1) := by decide +kernel
theorem dX5_isCandidate_12 : decode cX5_isCandidate 12 = .ok (.iload_n 2, 1) := by decide +kernel
theorem dX5_isCandidate_13 : decode cX5_isCandidate 13 = .ok (.invokevirtual 116, 3) := by decide +kernel
theorem dX5_isCandidate_16 : decode cX5_isCandidate 16 = .ok (.aload_n 0, 1) := by decide +kernel
theorem dX5_isCandidate_17 : decode cX5_isCandidate 17 = .ok (.getfield 38, 3) := by decide +kernel
theorem dX5_isCandidate_20 : decode cX5_isCandidate 20 = .ok (.iload_n 2, 1) := by decide +kernel
theorem dX5_isCandidate_21 : decode cX5_isCandidate 21 = .ok (.iaload, 1) := by decide +kernel
theorem dX5_isCandidate_22 : decode cX5_isCandidate 22 = .ok (.if_icmp .eq 5, 3) := by decide +kernel
theorem dX5_isCandidate_25 : decode cX5_isCandidate 25 = .ok (.iconst 0, 1) := by decide +kernel
theorem dX5_isCandidate_26 : decode cX5_isCandidate 26 = .ok (.ireturn, 1) := by decide +kernel
theorem dX5_isCandidate_27 : decode cX5_isCandidate 27 = .ok (.iinc 2 1, 3) := by decide +kernel
theorem dX5_isCandidate_30 : decode cX5_isCandidate 30 = .ok (.goto (-28), 3) := by decide +kernel
theorem dX5_isCandidate_33 : decode cX5_isCandidate 33 = .ok (.iconst 1, 1) := by decide +kernel
theorem dX5_isCandidate_34 : decode cX5_isCandidate 34 = .ok (.ireturn, 1) := by decide +kernel
theorem dX6_init_0 : decode cX6_init 0 = .ok (.aload_n 0, 1) := by decide +kernel
theorem dX6_init_1 : decode cX6_init 1 = .ok (.invokespecial 3, 3) := by decide +kernel
theorem dX6_init_4 : decode cX6_init 4 = .ok (.aload_n 0, 1) := by decide +kernel
theorem dX6_init_5 : decode cX6_init 5 = .ok (.bipush 9, 2) := by decide +kernel
theorem dX6_init_7 : decode cX6_init 7 = .ok (.newarray .int, 2) := by decide +kernel
theorem dX6_init_9 : decode cX6_init 9 = .ok (.putfield 9, 3) := by decide +kernel
theorem dX6_init_12 : decode cX6_init 12 = .ok (.aload_n 0, 1) := by decide +kernel
theorem dX6_init_13 : decode cX6_init 13 = .ok (.bipush 20, 2) := by decide +kernel
theorem dX6_init_15 : decode cX6_init 15 = .ok (.newarray .int, 2) := by decide +kernel
theorem dX6_init_17 : decode cX6_init 17 = .ok (.putfield 17, 3) := by decide +kernel
theorem dX6_init_20 : decode cX6_init 20 = .ok (.aload_n 0, 1) := by decide +kernel
theorem dX6_init_21 : decode cX6_init 21 = .ok (.iconst 1, 1) := by decide +kernel
theorem dX6_init_22 : decode cX6_init 22 = .ok (.putfield 20, 3) := by decide +kernel
theorem dX6_init_25 : decode cX6_init 25 = .ok (.return_, 1) := by decide +kernel
theorem dX6_load_0 : decode cX6_load 0 = .ok (.iload_n 1, 1) := by decide +kernel
theorem dX6_load_1 : decode cX6_load 1 = .ok (.invokestatic 24, 3) := by decide +kernel
theorem dX6_load_4 : decode cX6_load 4 = .ok (.ifCond .ne 4, 3) := by decide +kernel
theorem dX6_load_7 : decode cX6_load 7 = .ok (.return_, 1) := by decide +kernel
theorem dX6_load_8 : decode cX6_load 8 = .ok (.aload_n 0, 1) := by decide +kernel
theorem dX6_load_9 : decode cX6_load 9 = .ok (.iload_n 1, 1) := by decide +kernel
theorem dX6_load_10 : decode cX6_load 10 = .ok (.putfield 20, 3) := by decide +kernel
theorem dX6_load_13 : decode cX6_load 13 = .ok (.iload_n 2, 1) := by decide +kernel
theorem dX6_load_14 : decode cX6_load 14 = .ok (.istore_n 3, 1) := by decide +kernel
theorem dX6_load_15 : decode cX6_load 15 = .ok (.iload_n 1, 1) := by decide +kernel
theorem dX6_load_16 : decode cX6_load 16 = .ok (.iload_n 1, 1) := by decide +kernel
theorem dX6_load_17 : decode cX6_load 17 = .ok (.imul, 1) := by decide +kernel
theorem dX6_load_18 : decode cX6_load 18 = .ok (.iconst 1, 1) := by decide +kernel
theorem dX6_load_19 : decode cX6_load 19 = .ok (.isub, 1) := by decide +kernel
theorem dX6_load_20 : decode cX6_load 20 = .ok (.istore 4, 2) := by decide +kernel
theorem dX6_load_22 : decode cX6_load 22 = .ok (.iload 4, 2) := by decide +kernel
theorem dX6_load_24 : decode cX6_load 24 = .ok (.ifCond .lt 23, 3) := by decide +kernel
theorem dX6_load_27 : decode cX6_load 27 = .ok (.aload_n 0, 1) := by decide +kernel
theorem dX6_load_28 : decode cX6_load 28 = .ok (.getfield 9, 3) := by decide +kernel
theorem dX6_load_31 : decode cX6_load 31 = .ok (.iload 4, 2) := by decide +kernel
theorem dX6_load_33 : decode cX6_load 33 = .ok (.iload_n 3, 1) := by decide +kernel
end
section
theorem dX6_load_34 : decode cX6_load 34 = .ok (.iload_n 1, 1) := by decide +kernel
theorem dX6_load_35 : decode cX6_load 35 = .ok (.irem, 1) := by decide +kernel
theorem dX6_load_36 : decode cX6_load 36 = .ok (.iastore, 1) := by decide +kernel
theorem dX6_load_37 : decode cX6_load 37 = .ok (.iload_n 3, 1) := by decide +kernel
theorem dX6_load_38 : decode cX6_load 38 = .ok (.iload_n 1, 1) := by decide +kernel
theorem dX6_load_39 : decode cX6_load 39 = .ok (.idiv, 1) := by decide +kernel
theorem dX6_load_40 : decode cX6_load 40 = .ok (.istore_n 3, 1) := by decide +kernel
theorem dX6_load_41 : decode cX6_load 41 = .ok (.iinc 4 (-1), 3) := by decide +kernel
theorem dX6_load_44 : decode cX6_load 44 = .ok (.goto (-22), 3) := by decide +kernel
theorem dX6_load_47 : decode cX6_load 47 = .ok (.return_, 1) := by decide +kernel
theorem dX6_advance_0 : decode cX6_advance 0 = .ok (.aload_n 0, 1) := by decide +kernel
theorem dX6_advance_1 : decode cX6_advance 1 = .ok (.getfield 20, 3) := by decide +kernel
theorem dX6_advance_4 : decode cX6_advance 4 = .ok (.aload_n 0, 1) := by decide +kernel
theorem dX6_advance_5 : decode cX6_advance 5 = .ok (.getfield 20, 3) := by decide +kernel
theorem dX6_advance_8 : decode cX6_advance 8 = .ok (.imul, 1) := by decide +kernel
theorem dX6_advance_9 : decode cX6_advance 9 = .ok (.iconst 1, 1) := by decide +kernel
theorem dX6_advance_10 : decode cX6_advance 10 = .ok (.isub, 1) := by decide +kernel
theorem dX6_advance_11 : decode cX6_advance 11 = .ok (.istore_n 1, 1) := by decide +kernel
theorem dX6_advance_12 : decode cX6_advance 12 = .ok (.iload_n 1, 1) := by decide +kernel
theorem dX6_advance_13 : decode cX6_advance 13 = .ok (.ifCond .lt 42, 3) := by decide +kernel
theorem dX6_advance_16 : decode cX6_advance 16 = .ok (.aload_n 0, 1) := by decide +kernel
theorem dX6_advance_17 : decode cX6_advance 17 = .ok (.getfield 9, 3) := by decide +kernel
theorem dX6_advance_20 : decode cX6_advance 20 = .ok (.iload_n 1, 1) := by decide +kernel
theorem dX6_advance_21 : decode cX6_advance 21 = .ok (.iaload, 1) := by decide +kernel
theorem dX6_advance_22 : decode cX6_advance 22 = .ok (.aload_n 0, 1) := by decide +kernel
theorem dX6_advance_23 : decode cX6_advance 23 = .ok (.getfield 20, 3) := by decide +kernel
theorem dX6_advance_26 : decode cX6_advance 26 = .ok (.iconst 1, 1) := by decide +kernel
theorem dX6_advance_27 : decode cX6_advance 27 = .ok (.isub, 1) := by decide +kernel
theorem dX6_advance_28 : decode cX6_advance 28 = .ok (.if_icmp .ge 14, 3) := by decide +kernel
theorem dX6_advance_31 : decode cX6_advance 31 = .ok (.aload_n 0, 1) := by decide +kernel
theorem dX6_advance_32 : decode cX6_advance 32 = .ok (.getfield 9, 3) := by decide +kernel
theorem dX6_advance_35 : decode cX6_advance 35 = .ok (.iload_n 1, 1) := by decide +kernel
theorem dX6_advance_36 : decode cX6_advance 36 = .ok (.dup2, 1) := by decide +kernel
theorem dX6_advance_37 : decode cX6_advance 37 = .ok (.iaload, 1) := by decide +kernel
theorem dX6_advance_38 : decode cX6_advance 38 = .ok (.iconst 1, 1) := by decide +kernel
theorem dX6_advance_39 : decode cX6_advance 39 = .ok (.iadd, 1) := by decide +kernel
theorem dX6_advance_40 : decode cX6_advance 40 = .ok (.iastore, 1) := by decide +kernel
theorem dX6_advance_41 : decode cX6_advance 41 = .ok (.return_, 1) := by decide +kernel
theorem dX6_advance_42 : decode cX6_advance 42 = .ok (.aload_n 0, 1) := by decide +kernel
theorem dX6_advance_43 : decode cX6_advance 43 = .ok (.getfield 9, 3) := by decide +kernel
theorem dX6_advance_46 : decode cX6_advance 46 = .ok (.iload_n 1, 1) := by decide +kernel
theorem dX6_advance_47 : decode cX6_advance 47 = .ok (.iconst 0, 1) := by decide +kernel
theorem dX6_advance_48 : decode cX6_advance 48 = .ok (.iastore, 1) := by decide +kernel
theorem dX6_advance_49 : decode cX6_advance 49 = .ok (.iinc 1 (-1), 3) := by decide +kernel
theorem dX6_advance_52 : decode cX6_advance 52 = .ok (.goto (-40), 3) := by decide +kernel
theorem dX6_advance_55 : decode cX6_advance 55 = .ok (.return_, 1) := by decide +kernel
theorem dX6_turnAbout_0 : decode cX6_turnAbout 0 = .ok (.iconst 0, 1) := by decide +kernel
theorem dX6_turnAbout_1 : decode cX6_turnAbout 1 = .ok (.istore_n 1, 1) := by decide +kernel
theorem dX6_turnAbout_2 : decode cX6_turnAbout 2 = .ok (.iload_n 1, 1) := by decide +kernel
theorem dX6_turnAbout_3 : decode cX6_turnAbout 3 = .ok (.aload_n 0, 1) := by decide +kernel
theorem dX6_turnAbout_4 : decode cX6_turnAbout 4 = .ok (.getfield 20, 3) := by decide +kernel
theorem dX6_turnAbout_7 : decode cX6_turnAbout 7 = .ok (.if_icmp .ge 76, 3) := by decide +kernel
theorem dX6_turnAbout_10 : decode cX6_turnAbout 10 = .ok (.iconst 0, 1) := by decide +kernel
theorem dX6_turnAbout_11 : decode cX6_turnAbout 11 = .ok (.istore_n 2, 1) := by decide +kernel
theorem dX6_turnAbout_12 : decode cX6_turnAbout 12 = .ok (.iload_n 2, 1) := by decide +kernel
theorem dX6_turnAbout_13 : decode cX6_turnAbout 13 = .ok (.iload_n 1, 1) := by decide +kernel
theorem dX6_turnAbout_14 : decode cX6_turnAbout 14 = .ok (.if_icmp .ge 63, 3) := by decide +kernel
theorem dX6_turnAbout_17 : decode cX6_turnAbout 17 = .ok (.aload_n 0, 1) := by decide +kernel
theorem dX6_turnAbout_18 : decode cX6_turnAbout 18 = .ok (.getfield 9, 3) := by decide +kernel
theorem dX6_turnAbout_21 : decode cX6_turnAbout 21 = .ok (.iload_n 1, 1) := by decide +kernel
theorem dX6_turnAbout_22 : decode cX6_turnAbout 22 = .ok (.aload_n 0, 1) := by decide +kernel
theorem dX6_turnAbout_23 : decode cX6_turnAbout 23 = .ok (.getfield 20, 3) := by decide +kernel
theorem dX6_turnAbout_26 : decode cX6_turnAbout 26 = .ok (.imul, 1) := by decide +kernel
theorem dX6_turnAbout_27 : decode cX6_turnAbout 27 = .ok (.iload_n 2, 1) := by decide +kernel
theorem dX6_turnAbout_28 : decode cX6_turnAbout 28 = .ok (.iadd, 1) := by decide +kernel
theorem dX6_turnAbout_29 : decode cX6_turnAbout 29 = .ok (.iaload, 1) := by decide +kernel
theorem dX6_turnAbout_30 : decode cX6_turnAbout 30 = .ok (.istore_n 3, 1) := by decide +kernel
theorem dX6_turnAbout_31 : decode cX6_turnAbout 31 = .ok (.aload_n 0, 1) := by decide +kernel
theorem dX6_turnAbout_32 : decode cX6_turnAbout 32 = .ok (.getfield 9, 3) := by decide +kernel
theorem dX6_turnAbout_35 : decode cX6_turnAbout 35 = .ok (.iload_n 1, 1) := by decide +kernel
theorem dX6_turnAbout_36 : decode cX6_turnAbout 36 = .ok (.aload_n 0, 1) := by decide +kernel
theorem dX6_turnAbout_37 : decode cX6_turnAbout 37 = .ok (.getfield 20, 3) := by decide +kernel
theorem dX6_turnAbout_40 : decode cX6_turnAbout 40 = .ok (.imul, 1) := by decide +kernel
theorem dX6_turnAbout_41 : decode cX6_turnAbout 41 = .ok (.iload_n 2, 1) := by decide +kernel
theorem dX6_turnAbout_42 : decode cX6_turnAbout 42 = .ok (.iadd, 1) := by decide +kernel
theorem dX6_turnAbout_43 : decode cX6_turnAbout 43 = .ok (.aload_n 0, 1) := by decide +kernel
theorem dX6_turnAbout_44 : decode cX6_turnAbout 44 = .ok (.getfield 9, 3) := by decide +kernel
theorem dX6_turnAbout_47 : decode cX6_turnAbout 47 = .ok (.iload_n 2, 1) := by decide +kernel
theorem dX6_turnAbout_48 : decode cX6_turnAbout 48 = .ok (.aload_n 0, 1) := by decide +kernel
theorem dX6_turnAbout_49 : decode cX6_turnAbout 49 = .ok (.getfield 20, 3) := by decide +kernel
theorem dX6_turnAbout_52 : decode cX6_turnAbout 52 = .ok (.imul, 1) := by decide +kernel
theorem dX6_turnAbout_53 : decode cX6_turnAbout 53 = .ok (.iload_n 1, 1) := by decide +kernel
theorem dX6_turnAbout_54 : decode cX6_turnAbout 54 = .ok (.iadd, 1) := by decide +kernel
theorem dX6_turnAbout_55 : decode cX6_turnAbout 55 = .ok (.iaload, 1) := by decide +kernel
theorem dX6_turnAbout_56 : decode cX6_turnAbout 56 = .ok (.iastore, 1) := by decide +kernel
theorem dX6_turnAbout_57 : decode cX6_turnAbout 57 = .ok (.aload_n 0, 1) := by decide +kernel
theorem dX6_turnAbout_58 : decode cX6_turnAbout 58 = .ok (.getfield 9, 3) := by decide +kernel
theorem dX6_turnAbout_61 : decode cX6_turnAbout 61 = .ok (.iload_n 2, 1) := by decide +kernel
theorem dX6_turnAbout_62 : decode cX6_turnAbout 62 = .ok (.aload_n 0, 1) := by decide +kernel
theorem dX6_turnAbout_63 : decode cX6_turnAbout 63 = .ok (.getfield 20, 3) := by decide +kernel
theorem dX6_turnAbout_66 : decode cX6_turnAbout 66 = .ok (.imul, 1) := by decide +kernel
theorem dX6_turnAbout_67 : decode cX6_turnAbout 67 = .ok (.iload_n 1, 1) := by decide +kernel
theorem dX6_turnAbout_68 : decode cX6_turnAbout 68 = .ok (.iadd, 1) := by decide +kernel
theorem dX6_turnAbout_69 : decode cX6_turnAbout 69 = .ok (.iload_n 3, 1) := by decide +kernel
theorem dX6_turnAbout_70 : decode cX6_turnAbout 70 = .ok (.iastore, 1) := by decide +kernel
theorem dX6_turnAbout_71 : decode cX6_turnAbout 71 = .ok (.iinc 2 1, 3) := by decide +kernel
theorem dX6_turnAbout_74 : decode cX6_turnAbout 74 = .ok (.goto (-62), 3) := by decide +kernel
theorem dX6_turnAbout_77 : decode cX6_turnAbout 77 = .ok (.iinc 1 1, 3) := by decide +kernel
theorem dX6_turnAbout_80 : decode cX6_turnAbout 80 = .ok (.goto (-78), 3) := by decide +kernel
theorem dX6_turnAbout_83 : decode cX6_turnAbout 83 = .ok (.return_, 1) := by decide +kernel
theorem dX6_renamedCell_0 : decode cX6_renamedCell 0 = .ok (.iload_n 1, 1) := by decide +kernel
theorem dX6_renamedCell_1 : decode cX6_renamedCell 1 = .ok (.iconst 3, 1) := by decide +kernel
theorem dX6_renamedCell_2 : decode cX6_renamedCell 2 = .ok (.imul, 1) := by decide +kernel
theorem dX6_renamedCell_3 : decode cX6_renamedCell 3 = .ok (.istore 4, 2) := by decide +kernel
theorem dX6_renamedCell_5 : decode cX6_renamedCell 5 = .ok (.getstatic 28, 3) := by decide +kernel
theorem dX6_renamedCell_8 : decode cX6_renamedCell 8 = .ok (.iload 4, 2) := by decide +kernel
theorem dX6_renamedCell_10 : decode cX6_renamedCell 10 = .ok (.aload_n 0, 1) := by decide +kernel
theorem dX6_renamedCell_11 : decode cX6_renamedCell 11 = .ok (.getfield 9, 3) := by decide +kernel
theorem dX6_renamedCell_14 : decode cX6_renamedCell 14 = .ok (.getstatic 31, 3) := by decide +kernel
theorem dX6_renamedCell_17 : decode cX6_renamedCell 17 = .ok (.iload 4, 2) := by decide +kernel
theorem dX6_renamedCell_19 : decode cX6_renamedCell 19 = .ok (.iload_n 2, 1) := by decide +kernel
theorem dX6_renamedCell_20 : decode cX6_renamedCell 20 = .ok (.iadd, 1) := by decide +kernel
theorem dX6_renamedCell_21 : decode cX6_renamedCell 21 = .ok (.iaload, 1) := by decide +kernel
theorem dX6_renamedCell_22 : decode cX6_renamedCell 22 = .ok (.aload_n 0, 1) := by decide +kernel
theorem dX6_renamedCell_23 : decode cX6_renamedCell 23 = .ok (.getfield 20, 3) := by decide +kernel
theorem dX6_renamedCell_26 : decode cX6_renamedCell 26 = .ok (.imul, 1) := by decide +kernel
theorem dX6_renamedCell_27 : decode cX6_renamedCell 27 = .ok (.getstatic 31, 3) := by decide +kernel
theorem dX6_renamedCell_30 : decode cX6_renamedCell 30 = .ok (.iload 4, 2) := by decide +kernel
theorem dX6_renamedCell_32 : decode cX6_renamedCell 32 = .ok (.iload_n 3, 1) := by decide +kernel
theorem dX6_renamedCell_33 : decode cX6_renamedCell 33 = .ok (.iadd, 1) := by decide +kernel
theorem dX6_renamedCell_34 : decode cX6_renamedCell 34 = .ok (.iaload, 1) := by decide +kernel
theorem dX6_renamedCell_35 : decode cX6_renamedCell 35 = .ok (.iadd, 1) := by decide +kernel
theorem dX6_renamedCell_36 : decode cX6_renamedCell 36 = .ok (.iaload, 1) := by decide +kernel
theorem dX6_renamedCell_37 : decode cX6_renamedCell 37 = .ok (.iadd, 1) := by decide +kernel
theorem dX6_renamedCell_38 : decode cX6_renamedCell 38 = .ok (.iaload, 1) := by decide +kernel
theorem dX6_renamedCell_39 : decode cX6_renamedCell 39 = .ok (.ireturn, 1) := by decide +kernel
theorem dX6_compareRenamed_0 : decode cX6_compareRenamed 0 = .ok (.iconst 0, 1) := by decide +kernel
theorem dX6_compareRenamed_1 : decode cX6_compareRenamed 1 = .ok (.istore_n 2, 1) := by decide +kernel
theorem dX6_compareRenamed_2 : decode cX6_compareRenamed 2 = .ok (.iload_n 2, 1) := by decide +kernel
theorem dX6_compareRenamed_3 : decode cX6_compareRenamed 3 = .ok (.aload_n 0, 1) := by decide +kernel
theorem dX6_compareRenamed_4 : decode cX6_compareRenamed 4 = .ok (.getfield 20, 3) := by decide +kernel
theorem dX6_compareRenamed_7 : decode cX6_compareRenamed 7 = .ok (.if_icmp .ge 56, 3) := by decide +kernel
theorem dX6_compareRenamed_10 : decode cX6_compareRenamed 10 = .ok (.iconst 0, 1) := by decide +kernel
theorem dX6_compareRenamed_11 : decode cX6_compareRenamed 11 = .ok (.istore_n 3, 1) := by decide +kernel
theorem dX6_compareRenamed_12 : decode cX6_compareRenamed 12 = .ok (.iload_n 3, 1) := by decide +kernel
theorem dX6_compareRenamed_13 : decode cX6_compareRenamed 13 = .ok (.aload_n 0, 1) := by decide +kernel
theorem dX6_compareRenamed_14 : decode cX6_compareRenamed 14 = .ok (.getfield 20, 3) := by decide +kernel
theorem dX6_compareRenamed_17 : decode cX6_compareRenamed 17 = .ok (.if_icmp .ge 40, 3) := by decide +kernel
theorem dX6_compareRenamed_20 : decode cX6_compareRenamed 20 = .ok (.aload_n 0, 1) := by decide +kernel
theorem dX6_compareRenamed_21 : decode cX6_compareRenamed 21 = .ok (.iload_n 1, 1) := by decide +kernel
theorem dX6_compareRenamed_22 : decode cX6_compareRenamed 22 = .ok (.iload_n 2, 1) := by decide +kernel
theorem dX6_compareRenamed_23 : decode cX6_compareRenamed 23 = .ok (.iload_n 3, 1) := by decide +kernel
theorem dX6_compareRenamed_24 : decode cX6_compareRenamed 24 = .ok (.invokevirtual 34, 3) := by decide +kernel
theorem dX6_compareRenamed_27 : decode cX6_compareRenamed 27 = .ok (.aload_n 0, 1) := by decide +kernel
theorem dX6_compareRenamed_28 : decode cX6_compareRenamed 28 = .ok (.getfield 9, 3) := by decide +kernel
theorem dX6_compareRenamed_31 : decode cX6_compareRenamed 31 = .ok (.iload_n 2, 1) := by decide +kernel
theorem dX6_compareRenamed_32 : decode cX6_compareRenamed 32 = .ok (.aload_n 0, 1) := by decide +kernel
theorem dX6_compareRenamed_33 : decode cX6_compareRenamed 33 = .ok (.getfield 20, 3) := by decide +kernel
theorem dX6_compareRenamed_36 : decode cX6_compareRenamed 36 = .ok (.imul, 1) := by decide +kernel
theorem dX6_compareRenamed_37 : decode cX6_compareRenamed 37 = .ok (.iload_n 3, 1) := by decide +kernel
theorem dX6_compareRenamed_38 : decode cX6_compareRenamed 38 = .ok (.iadd, 1) := by decide +kernel
theorem dX6_compareRenamed_39 : decode cX6_compareRenamed 39 = .ok (.iaload, 1) := by decide +kernel
theorem dX6_compareRenamed_40 : decode cX6_compareRenamed 40 = .ok (.isub, 1) := by decide +kernel
theorem dX6_compareRenamed_41 : decode cX6_compareRenamed 41 = .ok (.istore 4, 2) := by decide +kernel
theorem dX6_compareRenamed_43 : decode cX6_compareRenamed 43 = .ok (.iload 4, 2) := by decide +kernel
theorem dX6_compareRenamed_45 : decode cX6_compareRenamed 45 = .ok (.ifCond .eq 6, 3) := by decide +kernel
theorem dX6_compareRenamed_48 : decode cX6_compareRenamed 48 = .ok (.iload 4, 2) := by decide +kernel
theorem dX6_compareRenamed_50 : decode cX6_compareRenamed 50 = .ok (.ireturn, 1) := by decide +kernel
theorem dX6_compareRenamed_51 : decode cX6_compareRenamed 51 = .ok (.iinc 3 1, 3) := by decide +kernel
theorem dX6_compareRenamed_54 : decode cX6_compareRenamed 54 = .ok (.goto (-42), 3) := by decide +kernel
theorem dX6_compareRenamed_57 : decode cX6_compareRenamed 57 = .ok (.iinc 2 1, 3) := by decide +kernel
theorem dX6_compareRenamed_60 : decode cX6_compareRenamed 60 = .ok (.goto (-58), 3) := by decide +kernel
theorem dX6_compareRenamed_63 : decode cX6_compareRenamed 63 = .ok (.iconst 0, 1) := by decide +kernel
theorem dX6_compareRenamed_64 : decode cX6_compareRenamed 64 = .ok (.ireturn, 1) := by decide +kernel
theorem dX6_renamedNumber_0 : decode cX6_renamedNumber 0 = .ok (.iconst 0, 1) := by decide +kernel
theorem dX6_renamedNumber_1 : decode cX6_renamedNumber 1 = .ok (.istore_n 2, 1) := by decide +kernel
theorem dX6_renamedNumber_2 : decode cX6_renamedNumber 2 = .ok (.iconst 0, 1) := by decide +kernel
theorem dX6_renamedNumber_3 : decode cX6_renamedNumber 3 = .ok (.istore_n 3, 1) := by decide +kernel
theorem dX6_renamedNumber_4 : decode cX6_renamedNumber 4 = .ok (.iload_n 3, 1) := by decide +kernel
theorem dX6_renamedNumber_5 : decode cX6_renamedNumber 5 = .ok (.aload_n 0, 1) := by decide +kernel
theorem dX6_renamedNumber_6 : decode cX6_renamedNumber 6 = .ok (.getfield 20, 3) := by decide +kernel
theorem dX6_renamedNumber_9 : decode cX6_renamedNumber 9 = .ok (.if_icmp .ge 43, 3) := by decide +kernel
theorem dX6_renamedNumber_12 : decode cX6_renamedNumber 12 = .ok (.iconst 0, 1) := by decide +kernel
theorem dX6_renamedNumber_13 : decode cX6_renamedNumber 13 = .ok (.istore 4, 2) := by decide +kernel
theorem dX6_renamedNumber_15 : decode cX6_renamedNumber 15 = .ok (.iload 4, 2) := by decide +kernel
theorem dX6_renamedNumber_17 : decode cX6_renamedNumber 17 = .ok (.aload_n 0, 1) := by decide +kernel
theorem dX6_renamedNumber_18 : decode cX6_renamedNumber 18 = .ok (.getfield 20, 3) := by decide +kernel
theorem dX6_renamedNumber_21 : decode cX6_renamedNumber 21 = .ok (.if_icmp .ge 25, 3) := by decide +kernel
theorem dX6_renamedNumber_24 : decode cX6_renamedNumber 24 = .ok (.iload_n 2, 1) := by decide +kernel
theorem dX6_renamedNumber_25 : decode cX6_renamedNumber 25 = .ok (.aload_n 0, 1) := by decide +kernel
theorem dX6_renamedNumber_26 : decode cX6_renamedNumber 26 = .ok (.getfield 20, 3) := by decide +kernel
theorem dX6_renamedNumber_29 : decode cX6_renamedNumber 29 = .ok (.imul, 1) := by decide +kernel
theorem dX6_renamedNumber_30 : decode cX6_renamedNumber 30 = .ok (.aload_n 0, 1) := by decide +kernel
theorem dX6_renamedNumber_31 : decode cX6_renamedNumber 31 = .ok (.iload_n 1, 1) := by decide +kernel
theorem dX6_renamedNumber_32 : decode cX6_renamedNumber 32 = .ok (.iload_n 3, 1) := by decide +kernel
theorem dX6_renamedNumber_33 : decode cX6_renamedNumber 33 = .ok (.iload 4, 2) := by decide +kernel
theorem dX6_renamedNumber_35 : decode cX6_renamedNumber 35 = .ok (.invokevirtual 34, 3) := by decide +kernel
theorem dX6_renamedNumber_38 : decode cX6_renamedNumber 38 = .ok (.iadd, 1) := by decide +kernel
theorem dX6_renamedNumber_39 : decode cX6_renamedNumber 39 = .ok (.istore_n 2, 1) := by decide +kernel
theorem dX6_renamedNumber_40 : decode cX6_renamedNumber 40 = .ok (.iinc 4 1, 3) := by decide +kernel
theorem dX6_renamedNumber_43 : decode cX6_renamedNumber 43 = .ok (.goto (-28), 3) := by decide +kernel
theorem dX6_renamedNumber_46 : decode cX6_renamedNumber 46 = .ok (.iinc 3 1, 3) := by decide +kernel
theorem dX6_renamedNumber_49 : decode cX6_renamedNumber 49 = .ok (.goto (-45), 3) := by decide +kernel
theorem dX6_renamedNumber_52 : decode cX6_renamedNumber 52 = .ok (.iload_n 2, 1) := by decide +kernel
theorem dX6_renamedNumber_53 : decode cX6_renamedNumber 53 = .ok (.ireturn, 1) := by decide +kernel
theorem dX6_leastNumber_0 : decode cX6_leastNumber 0 = .ok (.aload_n 0, 1) := by decide +kernel
theorem dX6_leastNumber_1 : decode cX6_leastNumber 1 = .ok (.iconst 0, 1) := by decide +kernel
theorem dX6_leastNumber_2 : decode cX6_leastNumber 2 = .ok (.invokevirtual 38, 3) := by decide +kernel
theorem dX6_leastNumber_5 : decode cX6_leastNumber 5 = .ok (.istore_n 1, 1) := by decide +kernel
theorem dX6_leastNumber_6 : decode cX6_leastNumber 6 = .ok (.iconst 1, 1) := by decide +kernel
theorem dX6_leastNumber_7 : decode cX6_leastNumber 7 = .ok (.istore_n 2, 1) := by decide +kernel
theorem dX6_leastNumber_8 : decode cX6_leastNumber 8 = .ok (.iload_n 2, 1) := by decide +kernel
theorem dX6_leastNumber_9 : decode cX6_leastNumber 9 = .ok (.getstatic 42, 3) := by decide +kernel
theorem dX6_leastNumber_12 : decode cX6_leastNumber 12 = .ok (.aload_n 0, 1) := by decide +kernel
theorem dX6_leastNumber_13 : decode cX6_leastNumber 13 = .ok (.getfield 20, 3) := by decide +kernel
theorem dX6_leastNumber_16 : decode cX6_leastNumber 16 = .ok (.iaload, 1) := by decide +kernel
theorem dX6_leastNumber_17 : decode cX6_leastNumber 17 = .ok (.if_icmp .ge 19, 3) := by decide +kernel
theorem dX6_leastNumber_20 : decode cX6_leastNumber 20 = .ok (.iload_n 1, 1) := by decide +kernel
theorem dX6_leastNumber_21 : decode cX6_leastNumber 21 = .ok (.aload_n 0, 1) := by decide +kernel
theorem dX6_leastNumber_22 : decode cX6_leastNumber 22 = .ok (.iload_n 2, 1) := by decide +kernel
theorem dX6_leastNumber_23 : decode cX6_leastNumber 23 = .ok (.invokevirtual 38, 3) := by decide +kernel
theorem dX6_leastNumber_26 : decode cX6_leastNumber 26 = .ok (.invokestatic 45, 3) := by decide +kernel
theorem dX6_leastNumber_29 : decode cX6_leastNumber 29 = .ok (.istore_n 1, 1) := by decide +kernel
theorem dX6_leastNumber_30 : decode cX6_leastNumber 30 = .ok (.iinc 2 1, 3) := by decide +kernel
theorem dX6_leastNumber_33 : decode cX6_leastNumber 33 = .ok (.goto (-25), 3) := by decide +kernel
theorem dX6_leastNumber_36 : decode cX6_leastNumber 36 = .ok (.iload_n 1, 1) := by decide +kernel
theorem dX6_leastNumber_37 : decode cX6_leastNumber 37 = .ok (.ireturn, 1) := by decide +kernel
theorem dX6_likesIfLeast_0 : decode cX6_likesIfLeast 0 = .ok (.iconst 1, 1) := by decide +kernel
theorem dX6_likesIfLeast_1 : decode cX6_likesIfLeast 1 = .ok (.istore_n 1, 1) := by decide +kernel
theorem dX6_likesIfLeast_2 : decode cX6_likesIfLeast 2 = .ok (.iconst 1, 1) := by decide +kernel
theorem dX6_likesIfLeast_3 : decode cX6_likesIfLeast 3 = .ok (.istore_n 2, 1) := by decide +kernel
theorem dX6_likesIfLeast_4 : decode cX6_likesIfLeast 4 = .ok (.iload_n 2, 1) := by decide +kernel
theorem dX6_likesIfLeast_5 : decode cX6_likesIfLeast 5 = .ok (.getstatic 42, 3) := by decide +kernel
theorem dX6_likesIfLeast_8 : decode cX6_likesIfLeast 8 = .ok (.aload_n 0, 1) := by decide +kernel
theorem dX6_likesIfLeast_9 : decode cX6_likesIfLeast 9 = .ok (.getfield 20, 3) := by decide +kernel
theorem dX6_likesIfLeast_12 : decode cX6_likesIfLeast 12 = .ok (.iaload, 1) := by decide +kernel
theorem dX6_likesIfLeast_13 : decode cX6_likesIfLeast 13 = .ok (.if_icmp .ge 28, 3) := by decide +kernel
theorem dX6_likesIfLeast_16 : decode cX6_likesIfLeast 16 = .ok (.aload_n 0, 1) := by decide +kernel
theorem dX6_likesIfLeast_17 : decode cX6_likesIfLeast 17 = .ok (.iload_n 2, 1) := by decide +kernel
theorem dX6_likesIfLeast_18 : decode cX6_likesIfLeast 18 = .ok (.invokevirtual 51, 3) := by decide +kernel
theorem dX6_likesIfLeast_21 : decode cX6_likesIfLeast 21 = .ok (.istore_n 3, 1) := by decide +kernel
theorem dX6_likesIfLeast_22 : decode cX6_likesIfLeast 22 = .ok (.iload_n 3, 1) := by decide +kernel
theorem dX6_likesIfLeast_23 : decode cX6_likesIfLeast 23 = .ok (.ifCond .ge 5, 3) := by decide +kernel
theorem dX6_likesIfLeast_26 : decode cX6_likesIfLeast 26 = .ok (.iconst 0, 1) := by decide +kernel
theorem dX6_likesIfLeast_27 : decode cX6_likesIfLeast 27 = .ok (.ireturn, 1) := by decide +kernel
theorem dX6_likesIfLeast_28 : decode cX6_likesIfLeast 28 = .ok (.iload_n 3, 1) := by decide +kernel
theorem dX6_likesIfLeast_29 : decode cX6_likesIfLeast 29 = .ok (.ifCond .ne 6, 3) := by decide +kernel
theorem dX6_likesIfLeast_32 : decode cX6_likesIfLeast 32 = .ok (.iinc 1 1, 3) := by decide +kernel
theorem dX6_likesIfLeast_35 : decode cX6_likesIfLeast 35 = .ok (.iinc 2 1, 3) := by decide +kernel
theorem dX6_likesIfLeast_38 : decode cX6_likesIfLeast 38 = .ok (.goto (-34), 3) := by decide +kernel
theorem dX6_likesIfLeast_41 : decode cX6_likesIfLeast 41 = .ok (.getstatic 42, 3) := by decide +kernel
theorem dX6_likesIfLeast_44 : decode cX6_likesIfLeast 44 = .ok (.aload_n 0, 1) := by decide +kernel
theorem dX6_likesIfLeast_45 : decode cX6_likesIfLeast 45 = .ok (.getfield 20, 3) := by decide +kernel
theorem dX6_likesIfLeast_48 : decode cX6_likesIfLeast 48 = .ok (.iaload, 1) := by decide +kernel
theorem dX6_likesIfLeast_49 : decode cX6_likesIfLeast 49 = .ok (.iload_n 1, 1) := by decide +kernel
theorem dX6_likesIfLeast_50 : decode cX6_likesIfLeast 50 = .ok (.idiv, 1) := by decide +kernel
theorem dX6_likesIfLeast_51 : decode cX6_likesIfLeast 51 = .ok (.ireturn, 1) := by decide +kernel
theorem dX6_thingsFor_0 : decode cX6_thingsFor 0 = .ok (.iload_n 2, 1) := by decide +kernel
theorem dX6_thingsFor_1 : decode cX6_thingsFor 1 = .ok (.iload_n 1, 1) := by decide +kernel
theorem dX6_thingsFor_2 : decode cX6_thingsFor 2 = .ok (.ishr, 1) := by decide +kernel
theorem dX6_thingsFor_3 : decode cX6_thingsFor 3 = .ok (.iconst 1, 1) := by decide +kernel
theorem dX6_thingsFor_4 : decode cX6_thingsFor 4 = .ok (.iand, 1) := by decide +kernel
theorem dX6_thingsFor_5 : decode cX6_thingsFor 5 = .ok (.ifCond .eq 10, 3) := by decide +kernel
theorem dX6_thingsFor_8 : decode cX6_thingsFor 8 = .ok (.aload_n 0, 1) := by decide +kernel
theorem dX6_thingsFor_9 : decode cX6_thingsFor 9 = .ok (.getfield 20, 3) := by decide +kernel
theorem dX6_thingsFor_12 : decode cX6_thingsFor 12 = .ok (.goto 4, 3) := by decide +kernel
theorem dX6_thingsFor_15 : decode cX6_thingsFor 15 = .ok (.iconst 1, 1) := by decide +kernel
theorem dX6_thingsFor_16 : decode cX6_thingsFor 16 = .ok (.ireturn, 1) := by decide +kernel
theorem dX6_alikeForZ_0 : decode cX6_alikeForZ 0 = .ok (.aload_n 1, 1) := by decide +kernel
theorem dX6_alikeForZ_1 : decode cX6_alikeForZ 1 = .ok (.getfield 54, 3) := by decide +kernel
theorem dX6_alikeForZ_4 : decode cX6_alikeForZ 4 = .ok (.iload_n 2, 1) := by decide +kernel
theorem dX6_alikeForZ_5 : decode cX6_alikeForZ 5 = .ok (.iaload, 1) := by decide +kernel
theorem dX6_alikeForZ_6 : decode cX6_alikeForZ 6 = .ok (.aload_n 1, 1) := by decide +kernel
theorem dX6_alikeForZ_7 : decode cX6_alikeForZ 7 = .ok (.getfield 54, 3) := by decide +kernel
theorem dX6_alikeForZ_10 : decode cX6_alikeForZ 10 = .ok (.iload_n 3, 1) := by decide +kernel
theorem dX6_alikeForZ_11 : decode cX6_alikeForZ 11 = .ok (.iaload, 1) := by decide +kernel
theorem dX6_alikeForZ_12 : decode cX6_alikeForZ 12 = .ok (.ior, 1) := by decide +kernel
theorem dX6_alikeForZ_13 : decode cX6_alikeForZ 13 = .ok (.istore 7, 2) := by decide +kernel
theorem dX6_alikeForZ_15 : decode cX6_alikeForZ 15 = .ok (.iconst 0, 1) := by decide +kernel
theorem dX6_alikeForZ_16 : decode cX6_alikeForZ 16 = .ok (.istore 8, 2) := by decide +kernel
theorem dX6_alikeForZ_18 : decode cX6_alikeForZ 18 = .ok (.iload 8, 2) := by decide +kernel
theorem dX6_alikeForZ_20 : decode cX6_alikeForZ 20 = .ok (.iload 6, 2) := by decide +kernel
theorem dX6_alikeForZ_22 : decode cX6_alikeForZ 22 = .ok (.if_icmp .ge 123, 3) := by decide +kernel
theorem dX6_alikeForZ_25 : decode cX6_alikeForZ 25 = .ok (.aload_n 0, 1) := by decide +kernel
theorem dX6_alikeForZ_26 : decode cX6_alikeForZ 26 = .ok (.getfield 17, 3) := by decide +kernel
theorem dX6_alikeForZ_29 : decode cX6_alikeForZ 29 = .ok (.iconst 0, 1) := by decide +kernel
theorem dX6_alikeForZ_30 : decode cX6_alikeForZ 30 = .ok (.iload 4, 2) := by decide +kernel
theorem dX6_alikeForZ_32 : decode cX6_alikeForZ 32 = .ok (.iastore, 1) := by decide +kernel
theorem dX6_alikeForZ_33 : decode cX6_alikeForZ 33 = .ok (.aload_n 0, 1) := by decide +kernel
theorem dX6_alikeForZ_34 : decode cX6_alikeForZ 34 = .ok (.getfield 17, 3) := by decide +kernel
theorem dX6_alikeForZ_37 : decode cX6_alikeForZ 37 = .ok (.iconst 1, 1) := by decide +kernel
theorem dX6_alikeForZ_38 : decode cX6_alikeForZ 38 = .ok (.iload 5, 2) := by decide +kernel
theorem dX6_alikeForZ_40 : decode cX6_alikeForZ 40 = .ok (.iastore, 1) := by decide +kernel
theorem dX6_alikeForZ_41 : decode cX6_alikeForZ 41 = .ok (.aload_n 0, 1) := by decide +kernel
theorem dX6_alikeForZ_42 : decode cX6_alikeForZ 42 = .ok (.getfield 17, 3) := by decide +kernel
theorem dX6_alikeForZ_45 : decode cX6_alikeForZ 45 = .ok (.iconst 2, 1) := by decide +kernel
theorem dX6_alikeForZ_46 : decode cX6_alikeForZ 46 = .ok (.iload 8, 2) := by decide +kernel
theorem dX6_alikeForZ_48 : decode cX6_alikeForZ 48 = .ok (.iastore, 1) := by decide +kernel
theorem dX6_alikeForZ_49 : decode cX6_alikeForZ 49 = .ok (.iconst 3, 1) := by decide +kernel
theorem dX6_alikeForZ_50 : decode cX6_alikeForZ 50 = .ok (.istore 9, 2) := by decide +kernel
theorem dX6_alikeForZ_52 : decode cX6_alikeForZ 52 = .ok (.iload 9, 2) := by decide +kernel
theorem dX6_alikeForZ_54 : decode cX6_alikeForZ 54 = .ok (.iload_n 2, 1) := by decide +kernel
theorem dX6_alikeForZ_55 : decode cX6_alikeForZ 55 = .ok (.if_icmp .le 9, 3) := by decide +kernel
theorem dX6_alikeForZ_58 : decode cX6_alikeForZ 58 = .ok (.iload 9, 2) := by decide +kernel
theorem dX6_alikeForZ_60 : decode cX6_alikeForZ 60 = .ok (.iload_n 3, 1) := by decide +kernel
theorem dX6_alikeForZ_61 : decode cX6_alikeForZ 61 = .ok (.if_icmp .gt 61, 3) := by decide +kernel
theorem dX6_alikeForZ_64 : decode cX6_alikeForZ 64 = .ok (.iload 7, 2) := by decide +kernel
theorem dX6_alikeForZ_66 : decode cX6_alikeForZ 66 = .ok (.iload 9, 2) := by decide +kernel
theorem dX6_alikeForZ_68 : decode cX6_alikeForZ 68 = .ok (.ishr, 1) := by decide +kernel
theorem dX6_alikeForZ_69 : decode cX6_alikeForZ 69 = .ok (.iconst 1, 1) := by decide +kernel
theorem dX6_alikeForZ_70 : decode cX6_alikeForZ 70 = .ok (.iand, 1) := by decide +kernel
theorem dX6_alikeForZ_71 : decode cX6_alikeForZ 71 = .ok (.ifCond .eq 45, 3) := by decide +kernel
theorem dX6_alikeForZ_74 : decode cX6_alikeForZ 74 = .ok (.aload_n 0, 1) := by decide +kernel
theorem dX6_alikeForZ_75 : decode cX6_alikeForZ 75 = .ok (.getfield 17, 3) := by decide +kernel
theorem dX6_alikeForZ_78 : decode cX6_alikeForZ 78 = .ok (.iload 9, 2) := by decide +kernel
theorem dX6_alikeForZ_80 : decode cX6_alikeForZ 80 = .ok (.aload_n 0, 1) := by decide +kernel
theorem dX6_alikeForZ_81 : decode cX6_alikeForZ 81 = .ok (.getfield 9, 3) := by decide +kernel
theorem dX6_alikeForZ_84 : decode cX6_alikeForZ 84 = .ok (.aload_n 0, 1) := by decide +kernel
theorem dX6_alikeForZ_85 : decode cX6_alikeForZ 85 = .ok (.getfield 17, 3) := by decide +kernel
theorem dX6_alikeForZ_88 : decode cX6_alikeForZ 88 = .ok (.aload_n 1, 1) := by decide +kernel
theorem dX6_alikeForZ_89 : decode cX6_alikeForZ 89 = .ok (.getfield 57, 3) := by decide +kernel
theorem dX6_alikeForZ_92 : decode cX6_alikeForZ 92 = .ok (.iload 9, 2) := by decide +kernel
theorem dX6_alikeForZ_94 : decode cX6_alikeForZ 94 = .ok (.iaload, 1) := by decide +kernel
theorem dX6_alikeForZ_95 : decode cX6_alikeForZ 95 = .ok (.iaload, 1) := by decide +kernel
theorem dX6_alikeForZ_96 : decode cX6_alikeForZ 96 = .ok (.aload_n 0, 1) := by decide +kernel
theorem dX6_alikeForZ_97 : decode cX6_alikeForZ 97 = .ok (.getfield 20, 3) := by decide +kernel
theorem dX6_alikeForZ_100 : decode cX6_alikeForZ 100 = .ok (.imul, 1) := by decide +kernel
theorem dX6_alikeForZ_101 : decode cX6_alikeForZ 101 = .ok (.aload_n 0, 1) := by decide +kernel
theorem dX6_alikeForZ_102 : decode cX6_alikeForZ 102 = .ok (.getfield 17, 3) := by decide +kernel
theorem dX6_alikeForZ_105 : decode cX6_alikeForZ 105 = .ok (.aload_n 1, 1) := by decide +kernel
theorem dX6_alikeForZ_106 : decode cX6_alikeForZ 106 = .ok (.getfield 60, 3) := by decide +kernel
theorem dX6_alikeForZ_109 : decode cX6_alikeForZ 109 = .ok (.iload 9, 2) := by decide +kernel
theorem dX6_alikeForZ_111 : decode cX6_alikeForZ 111 = .ok (.iaload, 1) := by decide +kernel
theorem dX6_alikeForZ_112 : decode cX6_alikeForZ 112 = .ok (.iaload, 1) := by decide +kernel
theorem dX6_alikeForZ_113 : decode cX6_alikeForZ 113 = .ok (.iadd, 1) := by decide +kernel
theorem dX6_alikeForZ_114 : decode cX6_alikeForZ 114 = .ok (.iaload, 1) := by decide +kernel
theorem dX6_alikeForZ_115 : decode cX6_alikeForZ 115 = .ok (.iastore, 1) := by decide +kernel
theorem dX6_alikeForZ_116 : decode cX6_alikeForZ 116 = .ok (.iinc 9 1, 3) := by decide +kernel
theorem dX6_alikeForZ_119 : decode cX6_alikeForZ 119 = .ok (.goto (-67), 3) := by decide +kernel
theorem dX6_alikeForZ_122 : decode cX6_alikeForZ 122 = .ok (.aload_n 0, 1) := by decide +kernel
theorem dX6_alikeForZ_123 : decode cX6_alikeForZ 123 = .ok (.getfield 17, 3) := by decide +kernel
theorem dX6_alikeForZ_126 : decode cX6_alikeForZ 126 = .ok (.iload_n 2, 1) := by decide +kernel
theorem dX6_alikeForZ_127 : decode cX6_alikeForZ 127 = .ok (.iaload, 1) := by decide +kernel
theorem dX6_alikeForZ_128 : decode cX6_alikeForZ 128 = .ok (.aload_n 0, 1) := by decide +kernel
theorem dX6_alikeForZ_129 : decode cX6_alikeForZ 129 = .ok (.getfield 17, 3) := by decide +kernel
theorem dX6_alikeForZ_132 : decode cX6_alikeForZ 132 = .ok (.iload_n 3, 1) := by decide +kernel
theorem dX6_alikeForZ_133 : decode cX6_alikeForZ 133 = .ok (.iaload, 1) := by decide +kernel
theorem dX6_alikeForZ_134 : decode cX6_alikeForZ 134 = .ok (.if_icmp .eq 5, 3) := by decide +kernel
theorem dX6_alikeForZ_137 : decode cX6_alikeForZ 137 = .ok (.iconst 0, 1) := by decide +kernel
theorem dX6_alikeForZ_138 : decode cX6_alikeForZ 138 = .ok (.ireturn, 1) := by decide +kernel
theorem dX6_alikeForZ_139 : decode cX6_alikeForZ 139 = .ok (.iinc 8 1, 3) := by decide +kernel
theorem dX6_alikeForZ_142 : decode cX6_alikeForZ 142 = .ok (.goto (-124), 3) := by decide +kernel
theorem dX6_alikeForZ_145 : decode cX6_alikeForZ 145 = .ok (.iconst 1, 1) := by decide +kernel
theorem dX6_alikeForZ_146 : decode cX6_alikeForZ 146 = .ok (.ireturn, 1) := by decide +kernel
theorem dX6_keepsLaw_0 : decode cX6_keepsLaw 0 = .ok (.iload_n 2, 1) := by decide +kernel
theorem dX6_keepsLaw_1 : decode cX6_keepsLaw 1 = .ok (.iload_n 3, 1) := by decide +kernel
theorem dX6_keepsLaw_2 : decode cX6_keepsLaw 2 = .ok (.if_icmp .ne 5, 3) := by decide +kernel
theorem dX6_keepsLaw_5 : decode cX6_keepsLaw 5 = .ok (.iconst 1, 1) := by decide +kernel
theorem dX6_keepsLaw_6 : decode cX6_keepsLaw 6 = .ok (.ireturn, 1) := by decide +kernel
theorem dX6_keepsLaw_7 : decode cX6_keepsLaw 7 = .ok (.aload_n 1, 1) := by decide +kernel
theorem dX6_keepsLaw_8 : decode cX6_keepsLaw 8 = .ok (.getfield 54, 3) := by decide +kernel
theorem dX6_keepsLaw_11 : decode cX6_keepsLaw 11 = .ok (.iload_n 2, 1) := by decide +kernel
theorem dX6_keepsLaw_12 : decode cX6_keepsLaw 12 = .ok (.iaload, 1) := by decide +kernel
theorem dX6_keepsLaw_13 : decode cX6_keepsLaw 13 = .ok (.aload_n 1, 1) := by decide +kernel
theorem dX6_keepsLaw_14 : decode cX6_keepsLaw 14 = .ok (.getfield 54, 3) := by decide +kernel
theorem dX6_keepsLaw_17 : decode cX6_keepsLaw 17 = .ok (.iload_n 3, 1) := by decide +kernel
theorem dX6_keepsLaw_18 : decode cX6_keepsLaw 18 = .ok (.iaload, 1) := by decide +kernel
theorem dX6_keepsLaw_19 : decode cX6_keepsLaw 19 = .ok (.ior, 1) := by decide +kernel
theorem dX6_keepsLaw_20 : decode cX6_keepsLaw 20 = .ok (.istore 4, 2) := by decide +kernel
theorem dX6_keepsLaw_22 : decode cX6_keepsLaw 22 = .ok (.aload_n 0, 1) := by decide +kernel
theorem dX6_keepsLaw_23 : decode cX6_keepsLaw 23 = .ok (.iconst 0, 1) := by decide +kernel
theorem dX6_keepsLaw_24 : decode cX6_keepsLaw 24 = .ok (.iload 4, 2) := by decide +kernel
theorem dX6_keepsLaw_26 : decode cX6_keepsLaw 26 = .ok (.invokevirtual 63, 3) := by decide +kernel
theorem dX6_keepsLaw_29 : decode cX6_keepsLaw 29 = .ok (.istore 5, 2) := by decide +kernel
theorem dX6_keepsLaw_31 : decode cX6_keepsLaw 31 = .ok (.aload_n 0, 1) := by decide +kernel
theorem dX6_keepsLaw_32 : decode cX6_keepsLaw 32 = .ok (.iconst 1, 1) := by decide +kernel
theorem dX6_keepsLaw_33 : decode cX6_keepsLaw 33 = .ok (.iload 4, 2) := by decide +kernel
theorem dX6_keepsLaw_35 : decode cX6_keepsLaw 35 = .ok (.invokevirtual 63, 3) := by decide +kernel
theorem dX6_keepsLaw_38 : decode cX6_keepsLaw 38 = .ok (.istore 6, 2) := by decide +kernel
theorem dX6_keepsLaw_40 : decode cX6_keepsLaw 40 = .ok (.aload_n 0, 1) := by decide +kernel
theorem dX6_keepsLaw_41 : decode cX6_keepsLaw 41 = .ok (.iconst 2, 1) := by decide +kernel
theorem dX6_keepsLaw_42 : decode cX6_keepsLaw 42 = .ok (.iload 4, 2) := by decide +kernel
theorem dX6_keepsLaw_44 : decode cX6_keepsLaw 44 = .ok (.invokevirtual 63, 3) := by decide +kernel
theorem dX6_keepsLaw_47 : decode cX6_keepsLaw 47 = .ok (.istore 7, 2) := by decide +kernel
theorem dX6_keepsLaw_49 : decode cX6_keepsLaw 49 = .ok (.iconst 0, 1) := by decide +kernel
theorem dX6_keepsLaw_50 : decode cX6_keepsLaw 50 = .ok (.istore 8, 2) := by decide +kernel
theorem dX6_keepsLaw_52 : decode cX6_keepsLaw 52 = .ok (.iload 8, 2) := by decide +kernel
theorem dX6_keepsLaw_54 : decode cX6_keepsLaw 54 = .ok (.iload 5, 2) := by decide +kernel
theorem dX6_keepsLaw_56 : decode cX6_keepsLaw 56 = .ok (.if_icmp .ge 43, 3) := by decide +kernel
theorem dX6_keepsLaw_59 : decode cX6_keepsLaw 59 = .ok (.iconst 0, 1) := by decide +kernel
theorem dX6_keepsLaw_60 : decode cX6_keepsLaw 60 = .ok (.istore 9, 2) := by decide +kernel
theorem dX6_keepsLaw_62 : decode cX6_keepsLaw 62 = .ok (.iload 9, 2) := by decide +kernel
theorem dX6_keepsLaw_64 : decode cX6_keepsLaw 64 = .ok (.iload 6, 2) := by decide +kernel
theorem dX6_keepsLaw_66 : decode cX6_keepsLaw 66 = .ok (.if_icmp .ge 27, 3) := by decide +kernel
theorem dX6_keepsLaw_69 : decode cX6_keepsLaw 69 = .ok (.aload_n 0, 1) := by decide +kernel
theorem dX6_keepsLaw_70 : decode cX6_keepsLaw 70 = .ok (.aload_n 1, 1) := by decide +kernel
theorem dX6_keepsLaw_71 : decode cX6_keepsLaw 71 = .ok (.iload_n 2, 1) := by decide +kernel
theorem dX6_keepsLaw_72 : decode cX6_keepsLaw 72 = .ok (.iload_n 3, 1) := by decide +kernel
theorem dX6_keepsLaw_73 : decode cX6_keepsLaw 73 = .ok (.iload 8, 2) := by decide +kernel
theorem dX6_keepsLaw_75 : decode cX6_keepsLaw 75 = .ok (.iload 9, 2) := by decide +kernel
theorem dX6_keepsLaw_77 : decode cX6_keepsLaw 77 = .ok (.iload 7, 2) := by decide +kernel
theorem dX6_keepsLaw_79 : decode cX6_keepsLaw 79 = .ok (.invokevirtual 66, 3) := by decide +kernel
theorem dX6_keepsLaw_82 : decode cX6_keepsLaw 82 = .ok (.ifCond .ne 5, 3) := by decide +kernel
theorem dX6_keepsLaw_85 : decode cX6_keepsLaw 85 = .ok (.iconst 0, 1) := by decide +kernel
theorem dX6_keepsLaw_86 : decode cX6_keepsLaw 86 = .ok (.ireturn, 1) := by decide +kernel
theorem dX6_keepsLaw_87 : decode cX6_keepsLaw 87 = .ok (.iinc 9 1, 3) := by decide +kernel
theorem dX6_keepsLaw_90 : decode cX6_keepsLaw 90 = .ok (.goto (-28), 3) := by decide +kernel
theorem dX6_keepsLaw_93 : decode cX6_keepsLaw 93 = .ok (.iinc 8 1, 3) := by decide +kernel
theorem dX6_keepsLaw_96 : decode cX6_keepsLaw 96 = .ok (.goto (-44), 3) := by decide +kernel
theorem dX6_keepsLaw_99 : decode cX6_keepsLaw 99 = .ok (.iconst 1, 1) := by decide +kernel
theorem dX6_keepsLaw_100 : decode cX6_keepsLaw 100 = .ok (.ireturn, 1) := by decide +kernel
theorem dX6_pairsAlike_0 : decode cX6_pairsAlike 0 = .ok (.aload_n 0, 1) := by decide +kernel
theorem dX6_pairsAlike_1 : decode cX6_pairsAlike 1 = .ok (.iconst 2, 1) := by decide +kernel
theorem dX6_pairsAlike_2 : decode cX6_pairsAlike 2 = .ok (.aload_n 1, 1) := by decide +kernel
theorem dX6_pairsAlike_3 : decode cX6_pairsAlike 3 = .ok (.getfield 54, 3) := by decide +kernel
theorem dX6_pairsAlike_6 : decode cX6_pairsAlike 6 = .ok (.iload_n 2, 1) := by decide +kernel
theorem dX6_pairsAlike_7 : decode cX6_pairsAlike 7 = .ok (.iaload, 1) := by decide +kernel
theorem dX6_pairsAlike_8 : decode cX6_pairsAlike 8 = .ok (.aload_n 1, 1) := by decide +kernel
theorem dX6_pairsAlike_9 : decode cX6_pairsAlike 9 = .ok (.getfield 54, 3) := by decide +kernel
theorem dX6_pairsAlike_12 : decode cX6_pairsAlike 12 = .ok (.iload_n 3, 1) := by decide +kernel
theorem dX6_pairsAlike_13 : decode cX6_pairsAlike 13 = .ok (.iaload, 1) := by decide +kernel
theorem dX6_pairsAlike_14 : decode cX6_pairsAlike 14 = .ok (.ior, 1) := by decide +kernel
theorem dX6_pairsAlike_15 : decode cX6_pairsAlike 15 = .ok (.invokevirtual 63, 3) := by decide +kernel
theorem dX6_pairsAlike_18 : decode cX6_pairsAlike 18 = .ok (.istore 4, 2) := by decide +kernel
theorem dX6_pairsAlike_20 : decode cX6_pairsAlike 20 = .ok (.iconst 0, 1) := by decide +kernel
theorem dX6_pairsAlike_21 : decode cX6_pairsAlike 21 = .ok (.istore 5, 2) := by decide +kernel
theorem dX6_pairsAlike_23 : decode cX6_pairsAlike 23 = .ok (.iconst 0, 1) := by decide +kernel
theorem dX6_pairsAlike_24 : decode cX6_pairsAlike 24 = .ok (.istore 6, 2) := by decide +kernel
theorem dX6_pairsAlike_26 : decode cX6_pairsAlike 26 = .ok (.iload 6, 2) := by decide +kernel
theorem dX6_pairsAlike_28 : decode cX6_pairsAlike 28 = .ok (.aload_n 0, 1) := by decide +kernel
theorem dX6_pairsAlike_29 : decode cX6_pairsAlike 29 = .ok (.getfield 20, 3) := by decide +kernel
theorem dX6_pairsAlike_32 : decode cX6_pairsAlike 32 = .ok (.if_icmp .ge 60, 3) := by decide +kernel
theorem dX6_pairsAlike_35 : decode cX6_pairsAlike 35 = .ok (.iconst 0, 1) := by decide +kernel
theorem dX6_pairsAlike_36 : decode cX6_pairsAlike 36 = .ok (.istore 7, 2) := by decide +kernel
theorem dX6_pairsAlike_38 : decode cX6_pairsAlike 38 = .ok (.iload 7, 2) := by decide +kernel
theorem dX6_pairsAlike_40 : decode cX6_pairsAlike 40 = .ok (.aload_n 0, 1) := by decide +kernel
theorem dX6_pairsAlike_41 : decode cX6_pairsAlike 41 = .ok (.getfield 20, 3) := by decide +kernel
theorem dX6_pairsAlike_44 : decode cX6_pairsAlike 44 = .ok (.if_icmp .ge 42, 3) := by decide +kernel
theorem dX6_pairsAlike_47 : decode cX6_pairsAlike 47 = .ok (.aload_n 0, 1) := by decide +kernel
theorem dX6_pairsAlike_48 : decode cX6_pairsAlike 48 = .ok (.aload_n 1, 1) := by decide +kernel
theorem dX6_pairsAlike_49 : decode cX6_pairsAlike 49 = .ok (.iload_n 2, 1) := by decide +kernel
theorem dX6_pairsAlike_50 : decode cX6_pairsAlike 50 = .ok (.iload_n 3, 1) := by decide +kernel
theorem dX6_pairsAlike_51 : decode cX6_pairsAlike 51 = .ok (.iload 6, 2) := by decide +kernel
theorem dX6_pairsAlike_53 : decode cX6_pairsAlike 53 = .ok (.iload 7, 2) := by decide +kernel
theorem dX6_pairsAlike_55 : decode cX6_pairsAlike 55 = .ok (.iload 4, 2) := by decide +kernel
theorem dX6_pairsAlike_57 : decode cX6_pairsAlike 57 = .ok (.invokevirtual 66, 3) := by decide +kernel
theorem dX6_pairsAlike_60 : decode cX6_pairsAlike 60 = .ok (.ifCond .eq 20, 3) := by decide +kernel
theorem dX6_pairsAlike_63 : decode cX6_pairsAlike 63 = .ok (.iload 5, 2) := by decide +kernel
theorem dX6_pairsAlike_65 : decode cX6_pairsAlike 65 = .ok (.iconst 1, 1) := by decide +kernel
theorem dX6_pairsAlike_66 : decode cX6_pairsAlike 66 = .ok (.iload 6, 2) := by decide +kernel
theorem dX6_pairsAlike_68 : decode cX6_pairsAlike 68 = .ok (.aload_n 0, 1) := by decide +kernel
theorem dX6_pairsAlike_69 : decode cX6_pairsAlike 69 = .ok (.getfield 20, 3) := by decide +kernel
theorem dX6_pairsAlike_72 : decode cX6_pairsAlike 72 = .ok (.imul, 1) := by decide +kernel
theorem dX6_pairsAlike_73 : decode cX6_pairsAlike 73 = .ok (.iload 7, 2) := by decide +kernel
theorem dX6_pairsAlike_75 : decode cX6_pairsAlike 75 = .ok (.iadd, 1) := by decide +kernel
theorem dX6_pairsAlike_76 : decode cX6_pairsAlike 76 = .ok (.ishl, 1) := by decide +kernel
theorem dX6_pairsAlike_77 : decode cX6_pairsAlike 77 = .ok (.ior, 1) := by decide +kernel
theorem dX6_pairsAlike_78 : decode cX6_pairsAlike 78 = .ok (.istore 5, 2) := by decide +kernel
theorem dX6_pairsAlike_80 : decode cX6_pairsAlike 80 = .ok (.iinc 7 1, 3) := by decide +kernel
theorem dX6_pairsAlike_83 : decode cX6_pairsAlike 83 = .ok (.goto (-45), 3) := by decide +kernel
theorem dX6_pairsAlike_86 : decode cX6_pairsAlike 86 = .ok (.iinc 6 1, 3) := by decide +kernel
theorem dX6_pairsAlike_89 : decode cX6_pairsAlike 89 = .ok (.goto (-63), 3) := by decide +kernel
theorem dX6_pairsAlike_92 : decode cX6_pairsAlike 92 = .ok (.iload 5, 2) := by decide +kernel
theorem dX6_pairsAlike_94 : decode cX6_pairsAlike 94 = .ok (.ireturn, 1) := by decide +kernel
theorem dX7_init_0 : decode cX7_init 0 = .ok (.aload_n 0, 1) := by decide +kernel
theorem dX7_init_1 : decode cX7_init 1 = .ok (.invokespecial 3, 3) := by decide +kernel
theorem dX7_init_4 : decode cX7_init 4 = .ok (.aload_n 0, 1) := by decide +kernel
theorem dX7_init_5 : decode cX7_init 5 = .ok (.bipush 20, 2) := by decide +kernel
theorem dX7_init_7 : decode cX7_init 7 = .ok (.newarray .int, 2) := by decide +kernel
theorem dX7_init_9 : decode cX7_init 9 = .ok (.putfield 11, 3) := by decide +kernel
theorem dX7_init_12 : decode cX7_init 12 = .ok (.aload_n 0, 1) := by decide +kernel
theorem dX7_init_13 : decode cX7_init 13 = .ok (.bipush 20, 2) := by decide +kernel
theorem dX7_init_15 : decode cX7_init 15 = .ok (.newarray .int, 2) := by decide +kernel
theorem dX7_init_17 : decode cX7_init 17 = .ok (.putfield 15, 3) := by decide +kernel
theorem dX7_init_20 : decode cX7_init 20 = .ok (.aload_n 0, 1) := by decide +kernel
theorem dX7_init_21 : decode cX7_init 21 = .ok (.bipush 20, 2) := by decide +kernel
theorem dX7_init_23 : decode cX7_init 23 = .ok (.newarray .int, 2) := by decide +kernel
theorem dX7_init_25 : decode cX7_init 25 = .ok (.putfield 18, 3) := by decide +kernel
theorem dX7_init_28 : decode cX7_init 28 = .ok (.aload_n 0, 1) := by decide +kernel
theorem dX7_init_29 : decode cX7_init 29 = .ok (.iconst 3, 1) := by decide +kernel
theorem dX7_init_30 : decode cX7_init 30 = .ok (.putfield 21, 3) := by decide +kernel
theorem dX7_init_33 : decode cX7_init 33 = .ok (.iconst 0, 1) := by decide +kernel
theorem dX7_init_34 : decode cX7_init 34 = .ok (.istore_n 1, 1) := by decide +kernel
theorem dX7_init_35 : decode cX7_init 35 = .ok (.iload_n 1, 1) := by decide +kernel
theorem dX7_init_36 : decode cX7_init 36 = .ok (.iconst 3, 1) := by decide +kernel
theorem dX7_init_37 : decode cX7_init 37 = .ok (.if_icmp .ge 34, 3) := by decide +kernel
theorem dX7_init_40 : decode cX7_init 40 = .ok (.aload_n 0, 1) := by decide +kernel
theorem dX7_init_41 : decode cX7_init 41 = .ok (.getfield 11, 3) := by decide +kernel
theorem dX7_init_44 : decode cX7_init 44 = .ok (.iload_n 1, 1) := by decide +kernel
theorem dX7_init_45 : decode cX7_init 45 = .ok (.bipush (-9), 2) := by decide +kernel
theorem dX7_init_47 : decode cX7_init 47 = .ok (.iastore, 1) := by decide +kernel
theorem dX7_init_48 : decode cX7_init 48 = .ok (.aload_n 0, 1) := by decide +kernel
theorem dX7_init_49 : decode cX7_init 49 = .ok (.getfield 15, 3) := by decide +kernel
theorem dX7_init_52 : decode cX7_init 52 = .ok (.iload_n 1, 1) := by decide +kernel
theorem dX7_init_53 : decode cX7_init 53 = .ok (.bipush (-9), 2) := by decide +kernel
theorem dX7_init_55 : decode cX7_init 55 = .ok (.iastore, 1) := by decide +kernel
theorem dX7_init_56 : decode cX7_init 56 = .ok (.aload_n 0, 1) := by decide +kernel
theorem dX7_init_57 : decode cX7_init 57 = .ok (.getfield 18, 3) := by decide +kernel
theorem dX7_init_60 : decode cX7_init 60 = .ok (.iload_n 1, 1) := by decide +kernel
theorem dX7_init_61 : decode cX7_init 61 = .ok (.iconst 1, 1) := by decide +kernel
theorem dX7_init_62 : decode cX7_init 62 = .ok (.iload_n 1, 1) := by decide +kernel
theorem dX7_init_63 : decode cX7_init 63 = .ok (.ishl, 1) := by decide +kernel
theorem dX7_init_64 : decode cX7_init 64 = .ok (.iastore, 1) := by decide +kernel
theorem dX7_init_65 : decode cX7_init 65 = .ok (.iinc 1 1, 3) := by decide +kernel
theorem dX7_init_68 : decode cX7_init 68 = .ok (.goto (-33), 3) := by decide +kernel
theorem dX7_init_71 : decode cX7_init 71 = .ok (.return_, 1) := by decide +kernel
theorem dX7_has_0 : decode cX7_has 0 = .ok (.iload_n 1, 1) := by decide +kernel
theorem dX7_has_1 : decode cX7_has 1 = .ok (.ifCond .lt 15, 3) := by decide +kernel
theorem dX7_has_4 : decode cX7_has 4 = .ok (.iload_n 1, 1) := by decide +kernel
theorem dX7_has_5 : decode cX7_has 5 = .ok (.aload_n 0, 1) := by decide +kernel
theorem dX7_has_6 : decode cX7_has 6 = .ok (.getfield 21, 3) := by decide +kernel
theorem dX7_has_9 : decode cX7_has 9 = .ok (.if_icmp .ge 7, 3) := by decide +kernel
theorem dX7_has_12 : decode cX7_has 12 = .ok (.iconst 1, 1) := by decide +kernel
theorem dX7_has_13 : decode cX7_has 13 = .ok (.goto 4, 3) := by decide +kernel
theorem dX7_has_16 : decode cX7_has 16 = .ok (.iconst 0, 1) := by decide +kernel
theorem dX7_has_17 : decode cX7_has 17 = .ok (.ireturn, 1) := by decide +kernel
theorem dX7_find_0 : decode cX7_find 0 = .ok (.iconst 3, 1) := by decide +kernel
theorem dX7_find_1 : decode cX7_find 1 = .ok (.istore_n 3, 1) := by decide +kernel
theorem dX7_find_2 : decode cX7_find 2 = .ok (.iload_n 3, 1) := by decide +kernel
theorem dX7_find_3 : decode cX7_find 3 = .ok (.aload_n 0, 1) := by decide +kernel
theorem dX7_find_4 : decode cX7_find 4 = .ok (.getfield 21, 3) := by decide +kernel
theorem dX7_find_7 : decode cX7_find 7 = .ok (.if_icmp .ge 31, 3) := by decide +kernel
theorem dX7_find_10 : decode cX7_find 10 = .ok (.aload_n 0, 1) := by decide +kernel
theorem dX7_find_11 : decode cX7_find 11 = .ok (.getfield 11, 3) := by decide +kernel
theorem dX7_find_14 : decode cX7_find 14 = .ok (.iload_n 3, 1) := by decide +kernel
theorem dX7_find_15 : decode cX7_find 15 = .ok (.iaload, 1) := by decide +kernel
theorem dX7_find_16 : decode cX7_find 16 = .ok (.iload_n 1, 1) := by decide +kernel
theorem dX7_find_17 : decode cX7_find 17 = .ok (.if_icmp .ne 15, 3) := by decide +kernel
theorem dX7_find_20 : decode cX7_find 20 = .ok (.aload_n 0, 1) := by decide +kernel
theorem dX7_find_21 : decode cX7_find 21 = .ok (.getfield 15, 3) := by decide +kernel
theorem dX7_find_24 : decode cX7_find 24 = .ok (.iload_n 3, 1) := by decide +kernel
theorem dX7_find_25 : decode cX7_find 25 = .ok (.iaload, 1) := by decide +kernel
theorem dX7_find_26 : decode cX7_find 26 = .ok (.iload_n 2, 1) := by decide +kernel
theorem dX7_find_27 : decode cX7_find 27 = .ok (.if_icmp .ne 5, 3) := by decide +kernel
theorem dX7_find_30 : decode cX7_find 30 = .ok (.iload_n 3, 1) := by decide +kernel
theorem dX7_find_31 : decode cX7_find 31 = .ok (.ireturn, 1) := by decide +kernel
theorem dX7_find_32 : decode cX7_find 32 = .ok (.iinc 3 1, 3) := by decide +kernel
theorem dX7_find_35 : decode cX7_find 35 = .ok (.goto (-33), 3) := by decide +kernel
theorem dX7_find_38 : decode cX7_find 38 = .ok (.bipush (-9), 2) := by decide +kernel
theorem dX7_find_40 : decode cX7_find 40 = .ok (.ireturn, 1) := by decide +kernel
theorem dX7_add_0 : decode cX7_add 0 = .ok (.aload_n 0, 1) := by decide +kernel
theorem dX7_add_1 : decode cX7_add 1 = .ok (.getfield 21, 3) := by decide +kernel
theorem dX7_add_4 : decode cX7_add 4 = .ok (.bipush 20, 2) := by decide +kernel
theorem dX7_add_6 : decode cX7_add 6 = .ok (.if_icmp .lt 6, 3) := by decide +kernel
theorem dX7_add_9 : decode cX7_add 9 = .ok (.bipush (-4), 2) := by decide +kernel
theorem dX7_add_11 : decode cX7_add 11 = .ok (.ireturn, 1) := by decide +kernel
theorem dX7_add_12 : decode cX7_add 12 = .ok (.aload_n 0, 1) := by decide +kernel
theorem dX7_add_13 : decode cX7_add 13 = .ok (.dup, 1) := by decide +kernel
theorem dX7_add_14 : decode cX7_add 14 = .ok (.getfield 21, 3) := by decide +kernel
theorem dX7_add_17 : decode cX7_add 17 = .ok (.dup_x1, 1) := by decide +kernel
theorem dX7_add_18 : decode cX7_add 18 = .ok (.iconst 1, 1) := by decide +kernel
theorem dX7_add_19 : decode cX7_add 19 = .ok (.iadd, 1) := by decide +kernel
theorem dX7_add_20 : decode cX7_add 20 = .ok (.putfield 21, 3) := by decide +kernel
theorem dX7_add_23 : decode cX7_add 23 = .ok (.istore_n 3, 1) := by decide +kernel
theorem dX7_add_24 : decode cX7_add 24 = .ok (.aload_n 0, 1) := by decide +kernel
theorem dX7_add_25 : decode cX7_add 25 = .ok (.getfield 11, 3) := by decide +kernel
theorem dX7_add_28 : decode cX7_add 28 = .ok (.iload_n 3, 1) := by decide +kernel
theorem dX7_add_29 : decode cX7_add 29 = .ok (.iload_n 1, 1) := by decide +kernel
theorem dX7_add_30 : decode cX7_add 30 = .ok (.iastore, 1) := by decide +kernel
theorem dX7_add_31 : decode cX7_add 31 = .ok (.aload_n 0, 1) := by decide +kernel
theorem dX7_add_32 : decode cX7_add 32 = .ok (.getfield 15, 3) := by decide +kernel
theorem dX7_add_35 : decode cX7_add 35 = .ok (.iload_n 3, 1) := by decide +kernel
theorem dX7_add_36 : decode cX7_add 36 = .ok (.iload_n 2, 1) := by decide +kernel
theorem dX7_add_37 : decode cX7_add 37 = .ok (.iastore, 1) := by decide +kernel
theorem dX7_add_38 : decode cX7_add 38 = .ok (.aload_n 0, 1) := by decide +kernel
theorem dX7_add_39 : decode cX7_add 39 = .ok (.getfield 18, 3) := by decide +kernel
theorem dX7_add_42 : decode cX7_add 42 = .ok (.iload_n 3, 1) := by decide +kernel
theorem dX7_add_43 : decode cX7_add 43 = .ok (.iconst 1, 1) := by decide +kernel
theorem dX7_add_44 : decode cX7_add 44 = .ok (.iload_n 3, 1) := by decide +kernel
theorem dX7_add_45 : decode cX7_add 45 = .ok (.ishl, 1) := by decide +kernel
theorem dX7_add_46 : decode cX7_add 46 = .ok (.aload_n 0, 1) := by decide +kernel
theorem dX7_add_47 : decode cX7_add 47 = .ok (.getfield 18, 3) := by decide +kernel
theorem dX7_add_50 : decode cX7_add 50 = .ok (.iload_n 1, 1) := by decide +kernel
theorem dX7_add_51 : decode cX7_add 51 = .ok (.iaload, 1) := by decide +kernel
theorem dX7_add_52 : decode cX7_add 52 = .ok (.ior, 1) := by decide +kernel
theorem dX7_add_53 : decode cX7_add 53 = .ok (.aload_n 0, 1) := by decide +kernel
theorem dX7_add_54 : decode cX7_add 54 = .ok (.getfield 18, 3) := by decide +kernel
theorem dX7_add_57 : decode cX7_add 57 = .ok (.iload_n 2, 1) := by decide +kernel
theorem dX7_add_58 : decode cX7_add 58 = .ok (.iaload, 1) := by decide +kernel
theorem dX7_add_59 : decode cX7_add 59 = .ok (.ior, 1) := by decide +kernel
theorem dX7_add_60 : decode cX7_add 60 = .ok (.iastore, 1) := by decide +kernel
theorem dX7_add_61 : decode cX7_add 61 = .ok (.iload_n 3, 1) := by decide +kernel
theorem dX7_add_62 : decode cX7_add 62 = .ok (.ireturn, 1) := by decide +kernel
theorem dX8_init_0 : decode cX8_init 0 = .ok (.aload_n 0, 1) := by decide +kernel
theorem dX8_init_1 : decode cX8_init 1 = .ok (.invokespecial 1, 3) := by decide +kernel
theorem dX8_init_4 : decode cX8_init 4 = .ok (.aload_n 0, 1) := by decide +kernel
theorem dX8_init_5 : decode cX8_init 5 = .ok (.new 7, 3) := by decide +kernel
theorem dX8_init_8 : decode cX8_init 8 = .ok (.dup, 1) := by decide +kernel
theorem dX8_init_9 : decode cX8_init 9 = .ok (.invokespecial 9, 3) := by decide +kernel
theorem dX8_init_12 : decode cX8_init 12 = .ok (.putfield 10, 3) := by decide +kernel
theorem dX8_init_15 : decode cX8_init 15 = .ok (.aload_n 0, 1) := by decide +kernel
theorem dX8_init_16 : decode cX8_init 16 = .ok (.new 16, 3) := by decide +kernel
theorem dX8_init_19 : decode cX8_init 19 = .ok (.dup, 1) := by decide +kernel
theorem dX8_init_20 : decode cX8_init 20 = .ok (.invokespecial 18, 3) := by decide +kernel
theorem dX8_init_23 : decode cX8_init 23 = .ok (.putfield 19, 3) := by decide +kernel
theorem dX8_init_26 : decode cX8_init 26 = .ok (.aload_n 0, 1) := by decide +kernel
theorem dX8_init_27 : decode cX8_init 27 = .ok (.new 23, 3) := by decide +kernel
theorem dX8_init_30 : decode cX8_init 30 = .ok (.dup, 1) := by decide +kernel
theorem dX8_init_31 : decode cX8_init 31 = .ok (.invokespecial 25, 3) := by decide +kernel
theorem dX8_init_34 : decode cX8_init 34 = .ok (.putfield 26, 3) := by decide +kernel
theorem dX8_init_37 : decode cX8_init 37 = .ok (.aload_n 0, 1) := by decide +kernel
theorem dX8_init_38 : decode cX8_init 38 = .ok (.new 30, 3) := by decide +kernel
theorem dX8_init_41 : decode cX8_init 41 = .ok (.dup, 1) := by decide +kernel
theorem dX8_init_42 : decode cX8_init 42 = .ok (.aload_n 0, 1) := by decide +kernel
theorem dX8_init_43 : decode cX8_init 43 = .ok (.getfield 26, 3) := by decide +kernel
theorem dX8_init_46 : decode cX8_init 46 = .ok (.invokespecial 32, 3) := by decide +kernel
theorem dX8_init_49 : decode cX8_init 49 = .ok (.putfield 35, 3) := by decide +kernel
theorem dX8_init_52 : decode cX8_init 52 = .ok (.aload_n 0, 1) := by decide +kernel
theorem dX8_init_53 : decode cX8_init 53 = .ok (.new 39, 3) := by decide +kernel
theorem dX8_init_56 : decode cX8_init 56 = .ok (.dup, 1) := by decide +kernel
theorem dX8_init_57 : decode cX8_init 57 = .ok (.invokespecial 41, 3) := by decide +kernel
theorem dX8_init_60 : decode cX8_init 60 = .ok (.putfield 42, 3) := by decide +kernel
theorem dX8_init_63 : decode cX8_init 63 = .ok (.aload_n 0, 1) := by decide +kernel
theorem dX8_init_64 : decode cX8_init 64 = .ok (.new 46, 3) := by decide +kernel
theorem dX8_init_67 : decode cX8_init 67 = .ok (.dup, 1) := by decide +kernel
theorem dX8_init_68 : decode cX8_init 68 = .ok (.aload_n 0, 1) := by decide +kernel
theorem dX8_init_69 : decode cX8_init 69 = .ok (.getfield 10, 3) := by decide +kernel
theorem dX8_init_72 : decode cX8_init 72 = .ok (.aload_n 0, 1) := by decide +kernel
theorem dX8_init_73 : decode cX8_init 73 = .ok (.getfield 35, 3) := by decide +kernel
theorem dX8_init_76 : decode cX8_init 76 = .ok (.aload_n 0, 1) := by decide +kernel
theorem dX8_init_77 : decode cX8_init 77 = .ok (.getfield 42, 3) := by decide +kernel
theorem dX8_init_80 : decode cX8_init 80 = .ok (.aload_n 0, 1) := by decide +kernel
theorem dX8_init_81 : decode cX8_init 81 = .ok (.getfield 26, 3) := by decide +kernel
theorem dX8_init_84 : decode cX8_init 84 = .ok (.invokespecial 48, 3) := by decide +kernel
theorem dX8_init_87 : decode cX8_init 87 = .ok (.putfield 51, 3) := by decide +kernel
theorem dX8_init_90 : decode cX8_init 90 = .ok (.aload_n 0, 1) := by decide +kernel
theorem dX8_init_91 : decode cX8_init 91 = .ok (.new 55, 3) := by decide +kernel
theorem dX8_init_94 : decode cX8_init 94 = .ok (.dup, 1) := by decide +kernel
theorem dX8_init_95 : decode cX8_init 95 = .ok (.invokespecial 57, 3) := by decide +kernel
theorem dX8_init_98 : decode cX8_init 98 = .ok (.putfield 58, 3) := by decide +kernel
theorem dX8_init_101 : decode cX8_init 101 = .ok (.aload_n 0, 1) := by decide +kernel
theorem dX8_init_102 : decode cX8_init 102 = .ok (.iconst 3, 1) := by decide +kernel
theorem dX8_init_103 : decode cX8_init 103 = .ok (.newarray .int, 2) := by decide +kernel
theorem dX8_init_105 : decode cX8_init 105 = .ok (.putfield 62, 3) := by decide +kernel
theorem dX8_init_108 : decode cX8_init 108 = .ok (.aload_n 0, 1) := by decide +kernel
theorem dX8_init_109 : decode cX8_init 109 = .ok (.getfield 62, 3) := by decide +kernel
theorem dX8_init_112 : decode cX8_init 112 = .ok (.iconst 1, 1) := by decide +kernel
theorem dX8_init_113 : decode cX8_init 113 = .ok (.invokestatic 66, 3) := by decide +kernel
theorem dX8_init_116 : decode cX8_init 116 = .ok (.return_, 1) := by decide +kernel
theorem dX8_put_0 : decode cX8_put 0 = .ok (.aload_n 0, 1) := by decide +kernel
theorem dX8_put_1 : decode cX8_put 1 = .ok (.getfield 10, 3) := by decide +kernel
theorem dX8_put_4 : decode cX8_put 4 = .ok (.iload_n 1, 1) := by decide +kernel
theorem dX8_put_5 : decode cX8_put 5 = .ok (.invokevirtual 72, 3) := by decide +kernel
theorem dX8_put_8 : decode cX8_put 8 = .ok (.ifCond .eq 14, 3) := by decide +kernel
theorem dX8_put_11 : decode cX8_put 11 = .ok (.aload_n 0, 1) := by decide +kernel
theorem dX8_put_12 : decode cX8_put 12 = .ok (.getfield 10, 3) := by decide +kernel
theorem dX8_put_15 : decode cX8_put 15 = .ok (.iload_n 2, 1) := by decide +kernel
theorem dX8_put_16 : decode cX8_put 16 = .ok (.invokevirtual 72, 3) := by decide +kernel
theorem dX8_put_19 : decode cX8_put 19 = .ok (.ifCond .ne 5, 3) := by decide +kernel
theorem dX8_put_22 : decode cX8_put 22 = .ok (.iconst (-1), 1) := by decide +kernel
theorem dX8_put_23 : decode cX8_put 23 = .ok (.ireturn, 1) := by decide +kernel
theorem dX8_put_24 : decode cX8_put 24 = .ok (.aload_n 0, 1) := by decide +kernel
theorem dX8_put_25 : decode cX8_put 25 = .ok (.getfield 10, 3) := by decide +kernel
theorem dX8_put_28 : decode cX8_put 28 = .ok (.iload_n 1, 1) := by decide +kernel
theorem dX8_put_29 : decode cX8_put 29 = .ok (.iload_n 2, 1) := by decide +kernel
theorem dX8_put_30 : decode cX8_put 30 = .ok (.invokevirtual 76, 3) := by decide +kernel
theorem dX8_put_33 : decode cX8_put 33 = .ok (.istore_n 3, 1) := by decide +kernel
theorem dX8_put_34 : decode cX8_put 34 = .ok (.iload_n 3, 1) := by decide +kernel
theorem dX8_put_35 : decode cX8_put 35 = .ok (.bipush (-9), 2) := by decide +kernel
theorem dX8_put_37 : decode cX8_put 37 = .ok (.if_icmp .eq 5, 3) := by decide +kernel
theorem dX8_put_40 : decode cX8_put 40 = .ok (.iload_n 3, 1) := by decide +kernel
theorem dX8_put_41 : decode cX8_put 41 = .ok (.ireturn, 1) := by decide +kernel
theorem dX8_put_42 : decode cX8_put 42 = .ok (.aload_n 0, 1) := by decide +kernel
theorem dX8_put_43 : decode cX8_put 43 = .ok (.getfield 10, 3) := by decide +kernel
theorem dX8_put_46 : decode cX8_put 46 = .ok (.iload_n 1, 1) := by decide +kernel
theorem dX8_put_47 : decode cX8_put 47 = .ok (.iload_n 2, 1) := by decide +kernel
theorem dX8_put_48 : decode cX8_put 48 = .ok (.invokevirtual 80, 3) := by decide +kernel
theorem dX8_put_51 : decode cX8_put 51 = .ok (.istore 4, 2) := by decide +kernel
theorem dX8_put_53 : decode cX8_put 53 = .ok (.iload 4, 2) := by decide +kernel
theorem dX8_put_55 : decode cX8_put 55 = .ok (.bipush (-4), 2) := by decide +kernel
theorem dX8_put_57 : decode cX8_put 57 = .ok (.if_icmp .eq 10, 3) := by decide +kernel
theorem dX8_put_60 : decode cX8_put 60 = .ok (.aload_n 0, 1) := by decide +kernel
theorem dX8_put_61 : decode cX8_put 61 = .ok (.getfield 58, 3) := by decide +kernel
theorem dX8_put_64 : decode cX8_put 64 = .ok (.invokevirtual 83, 3) := by decide +kernel
theorem dX8_put_67 : decode cX8_put 67 = .ok (.iload 4, 2) := by decide +kernel
theorem dX8_put_69 : decode cX8_put 69 = .ok (.ireturn, 1) := by decide +kernel
theorem dX8_part_0 : decode cX8_part 0 = .ok (.aload_n 0, 1) := by decide +kernel
theorem dX8_part_1 : decode cX8_part 1 = .ok (.getfield 10, 3) := by decide +kernel
theorem dX8_part_4 : decode cX8_part 4 = .ok (.iload_n 1, 1) := by decide +kernel
theorem dX8_part_5 : decode cX8_part 5 = .ok (.invokevirtual 72, 3) := by decide +kernel
theorem dX8_part_8 : decode cX8_part 8 = .ok (.ifCond .ne 5, 3) := by decide +kernel
theorem dX8_part_11 : decode cX8_part 11 = .ok (.iconst (-1), 1) := by decide +kernel
theorem dX8_part_12 : decode cX8_part 12 = .ok (.ireturn, 1) := by decide +kernel
theorem dX8_part_13 : decode cX8_part 13 = .ok (.iload_n 2, 1) := by decide +kernel
theorem dX8_part_14 : decode cX8_part 14 = .ok (.ifCond .eq 15, 3) := by decide +kernel
theorem dX8_part_17 : decode cX8_part 17 = .ok (.aload_n 0, 1) := by decide +kernel
theorem dX8_part_18 : decode cX8_part 18 = .ok (.getfield 10, 3) := by decide +kernel
theorem dX8_part_21 : decode cX8_part 21 = .ok (.getfield 86, 3) := by decide +kernel
theorem dX8_part_24 : decode cX8_part 24 = .ok (.iload_n 1, 1) := by decide +kernel
theorem dX8_part_25 : decode cX8_part 25 = .ok (.iaload, 1) := by decide +kernel
theorem dX8_part_26 : decode cX8_part 26 = .ok (.goto 12, 3) := by decide +kernel
theorem dX8_part_29 : decode cX8_part 29 = .ok (.aload_n 0, 1) := by decide +kernel
theorem dX8_part_30 : decode cX8_part 30 = .ok (.getfield 10, 3) := by decide +kernel
theorem dX8_part_33 : decode cX8_part 33 = .ok (.getfield 89, 3) := by decide +kernel
theorem dX8_part_36 : decode cX8_part 36 = .ok (.iload_n 1, 1) := by decide +kernel
theorem dX8_part_37 : decode cX8_part 37 = .ok (.iaload, 1) := by decide +kernel
theorem dX8_part_38 : decode cX8_part 38 = .ok (.ireturn, 1) := by decide +kernel
theorem dX8_law_0 : decode cX8_law 0 = .ok (.aload_n 0, 1) := by decide +kernel
theorem dX8_law_1 : decode cX8_law 1 = .ok (.getfield 10, 3) := by decide +kernel
theorem dX8_law_4 : decode cX8_law 4 = .ok (.iload_n 1, 1) := by decide +kernel
theorem dX8_law_5 : decode cX8_law 5 = .ok (.invokevirtual 72, 3) := by decide +kernel
theorem dX8_law_8 : decode cX8_law 8 = .ok (.ifCond .eq 14, 3) := by decide +kernel
theorem dX8_law_11 : decode cX8_law 11 = .ok (.aload_n 0, 1) := by decide +kernel
theorem dX8_law_12 : decode cX8_law 12 = .ok (.getfield 10, 3) := by decide +kernel
theorem dX8_law_15 : decode cX8_law 15 = .ok (.iload_n 2, 1) := by decide +kernel
theorem dX8_law_16 : decode cX8_law 16 = .ok (.invokevirtual 72, 3) := by decide +kernel
theorem dX8_law_19 : decode cX8_law 19 = .ok (.ifCond .ne 5, 3) := by decide +kernel
theorem dX8_law_22 : decode cX8_law 22 = .ok (.iconst (-1), 1) := by decide +kernel
theorem dX8_law_23 : decode cX8_law 23 = .ok (.ireturn, 1) := by decide +kernel
theorem dX8_law_24 : decode cX8_law 24 = .ok (.aload_n 0, 1) := by decide +kernel
theorem dX8_law_25 : decode cX8_law 25 = .ok (.getfield 19, 3) := by decide +kernel
theorem dX8_law_28 : decode cX8_law 28 = .ok (.iload_n 1, 1) := by decide +kernel
theorem dX8_law_29 : decode cX8_law 29 = .ok (.iload_n 2, 1) := by decide +kernel
theorem dX8_law_30 : decode cX8_law 30 = .ok (.invokevirtual 92, 3) := by decide +kernel
theorem dX8_law_33 : decode cX8_law 33 = .ok (.istore_n 3, 1) := by decide +kernel
theorem dX8_law_34 : decode cX8_law 34 = .ok (.iload_n 3, 1) := by decide +kernel
theorem dX8_law_35 : decode cX8_law 35 = .ok (.bipush (-4), 2) := by decide +kernel
theorem dX8_law_37 : decode cX8_law 37 = .ok (.if_icmp .eq 7, 3) := by decide +kernel
theorem dX8_law_40 : decode cX8_law 40 = .ok (.aload_n 0, 1) := by decide +kernel
theorem dX8_law_41 : decode cX8_law 41 = .ok (.invokevirtual 93, 3) := by decide +kernel
theorem dX8_law_44 : decode cX8_law 44 = .ok (.iload_n 3, 1) := by decide +kernel
theorem dX8_law_45 : decode cX8_law 45 = .ok (.ireturn, 1) := by decide +kernel
theorem dX8_unlaw_0 : decode cX8_unlaw 0 = .ok (.aload_n 0, 1) := by decide +kernel
theorem dX8_unlaw_1 : decode cX8_unlaw 1 = .ok (.getfield 19, 3) := by decide +kernel
theorem dX8_unlaw_4 : decode cX8_unlaw 4 = .ok (.getfield 96, 3) := by decide +kernel
theorem dX8_unlaw_7 : decode cX8_unlaw 7 = .ok (.ifCond .ne 6, 3) := by decide +kernel
theorem dX8_unlaw_10 : decode cX8_unlaw 10 = .ok (.bipush (-3), 2) := by decide +kernel
theorem dX8_unlaw_12 : decode cX8_unlaw 12 = .ok (.ireturn, 1) := by decide +kernel
theorem dX8_unlaw_13 : decode cX8_unlaw 13 = .ok (.aload_n 0, 1) := by decide +kernel
theorem dX8_unlaw_14 : decode cX8_unlaw 14 = .ok (.getfield 19, 3) := by decide +kernel
theorem dX8_unlaw_17 : decode cX8_unlaw 17 = .ok (.dup, 1) := by decide +kernel
theorem dX8_unlaw_18 : decode cX8_unlaw 18 = .ok (.getfield 96, 3) := by decide +kernel
theorem dX8_unlaw_21 : decode cX8_unlaw 21 = .ok (.iconst 1, 1) := by decide +kernel
theorem dX8_unlaw_22 : decode cX8_unlaw 22 = .ok (.isub, 1) := by decide +kernel
theorem dX8_unlaw_23 : decode cX8_unlaw 23 = .ok (.putfield 96, 3) := by decide +kernel
theorem dX8_unlaw_26 : decode cX8_unlaw 26 = .ok (.aload_n 0, 1) := by decide +kernel
theorem dX8_unlaw_27 : decode cX8_unlaw 27 = .ok (.invokevirtual 93, 3) := by decide +kernel
theorem dX8_unlaw_30 : decode cX8_unlaw 30 = .ok (.aload_n 0, 1) := by decide +kernel
theorem dX8_unlaw_31 : decode cX8_unlaw 31 = .ok (.getfield 19, 3) := by decide +kernel
theorem dX8_unlaw_34 : decode cX8_unlaw 34 = .ok (.getfield 96, 3) := by decide +kernel
theorem dX8_unlaw_37 : decode cX8_unlaw 37 = .ok (.ireturn, 1) := by decide +kernel
theorem dX8_worlds_0 : decode cX8_worlds 0 = .ok (.iload_n 1, 1) := by decide +kernel
theorem dX8_worlds_1 : decode cX8_worlds 1 = .ok (.invokestatic 100, 3) := by decide +kernel
theorem dX8_worlds_4 : decode cX8_worlds 4 = .ok (.ifCond .ne 6, 3) := by decide +kernel
theorem dX8_worlds_7 : decode cX8_worlds 7 = .ok (.bipush (-2), 2) := by decide +kernel
theorem dX8_worlds_9 : decode cX8_worlds 9 = .ok (.ireturn, 1) := by decide +kernel
theorem dX8_worlds_10 : decode cX8_worlds 10 = .ok (.aload_n 0, 1) := by decide +kernel
theorem dX8_worlds_11 : decode cX8_worlds 11 = .ok (.invokevirtual 103, 3) := by decide +kernel
theorem dX8_worlds_14 : decode cX8_worlds 14 = .ok (.aload_n 0, 1) := by decide +kernel
theorem dX8_worlds_15 : decode cX8_worlds 15 = .ok (.getfield 35, 3) := by decide +kernel
theorem dX8_worlds_18 : decode cX8_worlds 18 = .ok (.iload_n 1, 1) := by decide +kernel
theorem dX8_worlds_19 : decode cX8_worlds 19 = .ok (.aload_n 0, 1) := by decide +kernel
theorem dX8_worlds_20 : decode cX8_worlds 20 = .ok (.getfield 19, 3) := by decide +kernel
theorem dX8_worlds_23 : decode cX8_worlds 23 = .ok (.invokevirtual 106, 3) := by decide +kernel
theorem dX8_worlds_26 : decode cX8_worlds 26 = .ok (.iload_n 2, 1) := by decide +kernel
theorem dX8_worlds_27 : decode cX8_worlds 27 = .ok (.invokevirtual 110, 3) := by decide +kernel
theorem dX8_worlds_30 : decode cX8_worlds 30 = .ok (.ireturn, 1) := by decide +kernel
theorem dX8_number_0 : decode cX8_number 0 = .ok (.iload_n 1, 1) := by decide +kernel
theorem dX8_number_1 : decode cX8_number 1 = .ok (.invokestatic 100, 3) := by decide +kernel
theorem dX8_number_4 : decode cX8_number 4 = .ok (.ifCond .ne 6, 3) := by decide +kernel
theorem dX8_number_7 : decode cX8_number 7 = .ok (.bipush (-2), 2) := by decide +kernel
theorem dX8_number_9 : decode cX8_number 9 = .ok (.ireturn, 1) := by decide +kernel
theorem dX8_number_10 : decode cX8_number 10 = .ok (.aload_n 0, 1) := by decide +kernel
theorem dX8_number_11 : decode cX8_number 11 = .ok (.invokevirtual 103, 3) := by decide +kernel
theorem dX8_number_14 : decode cX8_number 14 = .ok (.aload_n 0, 1) := by decide +kernel
theorem dX8_number_15 : decode cX8_number 15 = .ok (.getfield 35, 3) := by decide +kernel
theorem dX8_number_18 : decode cX8_number 18 = .ok (.iload_n 1, 1) := by decide +kernel
theorem dX8_number_19 : decode cX8_number 19 = .ok (.aload_n 0, 1) := by decide +kernel
theorem dX8_number_20 : decode cX8_number 20 = .ok (.getfield 19, 3) := by decide +kernel
theorem dX8_number_23 : decode cX8_number 23 = .ok (.invokevirtual 106, 3) := by decide +kernel
theorem dX8_number_26 : decode cX8_number 26 = .ok (.iload_n 2, 1) := by decide +kernel
theorem dX8_number_27 : decode cX8_number 27 = .ok (.invokevirtual 114, 3) := by decide +kernel
theorem dX8_number_30 : decode cX8_number 30 = .ok (.ireturn, 1) := by decide +kernel
theorem dX8_keeps_0 : decode cX8_keeps 0 = .ok (.iload_n 1, 1) := by decide +kernel
theorem dX8_keeps_1 : decode cX8_keeps 1 = .ok (.iload_n 2, 1) := by decide +kernel
theorem dX8_keeps_2 : decode cX8_keeps 2 = .ok (.invokestatic 118, 3) := by decide +kernel
theorem dX8_keeps_5 : decode cX8_keeps 5 = .ok (.ifCond .ne 6, 3) := by decide +kernel
theorem dX8_keeps_8 : decode cX8_keeps 8 = .ok (.bipush (-2), 2) := by decide +kernel
theorem dX8_keeps_10 : decode cX8_keeps 10 = .ok (.ireturn, 1) := by decide +kernel
theorem dX8_keeps_11 : decode cX8_keeps 11 = .ok (.aload_n 0, 1) := by decide +kernel
theorem dX8_keeps_12 : decode cX8_keeps 12 = .ok (.iload_n 1, 1) := by decide +kernel
theorem dX8_keeps_13 : decode cX8_keeps 13 = .ok (.iload_n 2, 1) := by decide +kernel
theorem dX8_keeps_14 : decode cX8_keeps 14 = .ok (.invokevirtual 122, 3) := by decide +kernel
theorem dX8_keeps_17 : decode cX8_keeps 17 = .ok (.bipush (-9), 2) := by decide +kernel
theorem dX8_keeps_19 : decode cX8_keeps 19 = .ok (.if_icmp .ne 7, 3) := by decide +kernel
theorem dX8_keeps_22 : decode cX8_keeps 22 = .ok (.iconst 1, 1) := by decide +kernel
theorem dX8_keeps_23 : decode cX8_keeps 23 = .ok (.goto 4, 3) := by decide +kernel
theorem dX8_keeps_26 : decode cX8_keeps 26 = .ok (.iconst 0, 1) := by decide +kernel
theorem dX8_keeps_27 : decode cX8_keeps 27 = .ok (.ireturn, 1) := by decide +kernel
theorem dX8_breaks_0 : decode cX8_breaks 0 = .ok (.iload_n 1, 1) := by decide +kernel
theorem dX8_breaks_1 : decode cX8_breaks 1 = .ok (.iload_n 2, 1) := by decide +kernel
theorem dX8_breaks_2 : decode cX8_breaks 2 = .ok (.invokestatic 118, 3) := by decide +kernel
theorem dX8_breaks_5 : decode cX8_breaks 5 = .ok (.ifCond .ne 6, 3) := by decide +kernel
theorem dX8_breaks_8 : decode cX8_breaks 8 = .ok (.bipush (-2), 2) := by decide +kernel
theorem dX8_breaks_10 : decode cX8_breaks 10 = .ok (.ireturn, 1) := by decide +kernel
theorem dX8_breaks_11 : decode cX8_breaks 11 = .ok (.aload_n 0, 1) := by decide +kernel
theorem dX8_breaks_12 : decode cX8_breaks 12 = .ok (.iload_n 1, 1) := by decide +kernel
theorem dX8_breaks_13 : decode cX8_breaks 13 = .ok (.iload_n 2, 1) := by decide +kernel
theorem dX8_breaks_14 : decode cX8_breaks 14 = .ok (.invokevirtual 122, 3) := by decide +kernel
theorem dX8_breaks_17 : decode cX8_breaks 17 = .ok (.ireturn, 1) := by decide +kernel
theorem dX8_plain_0 : decode cX8_plain 0 = .ok (.iload_n 1, 1) := by decide +kernel
theorem dX8_plain_1 : decode cX8_plain 1 = .ok (.iload_n 2, 1) := by decide +kernel
theorem dX8_plain_2 : decode cX8_plain 2 = .ok (.invokestatic 118, 3) := by decide +kernel
theorem dX8_plain_5 : decode cX8_plain 5 = .ok (.ifCond .ne 6, 3) := by decide +kernel
theorem dX8_plain_8 : decode cX8_plain 8 = .ok (.bipush (-2), 2) := by decide +kernel
theorem dX8_plain_10 : decode cX8_plain 10 = .ok (.ireturn, 1) := by decide +kernel
theorem dX8_plain_11 : decode cX8_plain 11 = .ok (.aload_n 0, 1) := by decide +kernel
theorem dX8_plain_12 : decode cX8_plain 12 = .ok (.getfield 26, 3) := by decide +kernel
theorem dX8_plain_15 : decode cX8_plain 15 = .ok (.iload_n 1, 1) := by decide +kernel
theorem dX8_plain_16 : decode cX8_plain 16 = .ok (.iload_n 2, 1) := by decide +kernel
theorem dX8_plain_17 : decode cX8_plain 17 = .ok (.invokevirtual 125, 3) := by decide +kernel
theorem dX8_plain_20 : decode cX8_plain 20 = .ok (.aload_n 0, 1) := by decide +kernel
theorem dX8_plain_21 : decode cX8_plain 21 = .ok (.getfield 26, 3) := by decide +kernel
theorem dX8_plain_24 : decode cX8_plain 24 = .ok (.invokevirtual 129, 3) := by decide +kernel
theorem dX8_plain_27 : decode cX8_plain 27 = .ok (.ireturn, 1) := by decide +kernel
theorem dX8_list_0 : decode cX8_list 0 = .ok (.iload_n 1, 1) := by decide +kernel
theorem dX8_list_1 : decode cX8_list 1 = .ok (.ifCond .eq 11, 3) := by decide +kernel
theorem dX8_list_4 : decode cX8_list 4 = .ok (.iload_n 1, 1) := by decide +kernel
theorem dX8_list_5 : decode cX8_list 5 = .ok (.iconst 1, 1) := by decide +kernel
theorem dX8_list_6 : decode cX8_list 6 = .ok (.if_icmp .eq 6, 3) := by decide +kernel
theorem dX8_list_9 : decode cX8_list 9 = .ok (.bipush (-2), 2) := by decide +kernel
theorem dX8_list_11 : decode cX8_list 11 = .ok (.ireturn, 1) := by decide +kernel
theorem dX8_list_12 : decode cX8_list 12 = .ok (.aload_n 0, 1) := by decide +kernel
theorem dX8_list_13 : decode cX8_list 13 = .ok (.invokevirtual 103, 3) := by decide +kernel
theorem dX8_list_16 : decode cX8_list 16 = .ok (.iload_n 1, 1) := by decide +kernel
theorem dX8_list_17 : decode cX8_list 17 = .ok (.ifCond .ne 13, 3) := by decide +kernel
theorem dX8_list_20 : decode cX8_list 20 = .ok (.aload_n 0, 1) := by decide +kernel
theorem dX8_list_21 : decode cX8_list 21 = .ok (.getfield 51, 3) := by decide +kernel
theorem dX8_list_24 : decode cX8_list 24 = .ok (.getfield 132, 3) := by decide +kernel
theorem dX8_list_27 : decode cX8_list 27 = .ok (.goto 10, 3) := by decide +kernel
theorem dX8_list_30 : decode cX8_list 30 = .ok (.aload_n 0, 1) := by decide +kernel
theorem dX8_list_31 : decode cX8_list 31 = .ok (.getfield 51, 3) := by decide +kernel
theorem dX8_list_34 : decode cX8_list 34 = .ok (.getfield 133, 3) := by decide +kernel
theorem dX8_list_37 : decode cX8_list 37 = .ok (.ireturn, 1) := by decide +kernel
theorem dX8_world_0 : decode cX8_world 0 = .ok (.aload_n 0, 1) := by decide +kernel
theorem dX8_world_1 : decode cX8_world 1 = .ok (.invokevirtual 103, 3) := by decide +kernel
theorem dX8_world_4 : decode cX8_world 4 = .ok (.aload_n 0, 1) := by decide +kernel
theorem dX8_world_5 : decode cX8_world 5 = .ok (.getfield 51, 3) := by decide +kernel
theorem dX8_world_8 : decode cX8_world 8 = .ok (.iload_n 1, 1) := by decide +kernel
theorem dX8_world_9 : decode cX8_world 9 = .ok (.invokevirtual 136, 3) := by decide +kernel
theorem dX8_world_12 : decode cX8_world 12 = .ok (.ifCond .ne 5, 3) := by decide +kernel
theorem dX8_world_15 : decode cX8_world 15 = .ok (.iconst (-1), 1) := by decide +kernel
theorem dX8_world_16 : decode cX8_world 16 = .ok (.ireturn, 1) := by decide +kernel
theorem dX8_world_17 : decode cX8_world 17 = .ok (.iload_n 2, 1) := by decide +kernel
theorem dX8_world_18 : decode cX8_world 18 = .ok (.ifCond .eq 11, 3) := by decide +kernel
theorem dX8_world_21 : decode cX8_world 21 = .ok (.iload_n 2, 1) := by decide +kernel
theorem dX8_world_22 : decode cX8_world 22 = .ok (.iconst 1, 1) := by decide +kernel
theorem dX8_world_23 : decode cX8_world 23 = .ok (.if_icmp .eq 6, 3) := by decide +kernel
theorem dX8_world_26 : decode cX8_world 26 = .ok (.bipush (-2), 2) := by decide +kernel
theorem dX8_world_28 : decode cX8_world 28 = .ok (.ireturn, 1) := by decide +kernel
theorem dX8_world_29 : decode cX8_world 29 = .ok (.iload_n 2, 1) := by decide +kernel
theorem dX8_world_30 : decode cX8_world 30 = .ok (.ifCond .ne 14, 3) := by decide +kernel
theorem dX8_world_33 : decode cX8_world 33 = .ok (.aload_n 0, 1) := by decide +kernel
theorem dX8_world_34 : decode cX8_world 34 = .ok (.getfield 51, 3) := by decide +kernel
theorem dX8_world_37 : decode cX8_world 37 = .ok (.iload_n 1, 1) := by decide +kernel
theorem dX8_world_38 : decode cX8_world 38 = .ok (.invokevirtual 137, 3) := by decide +kernel
theorem dX8_world_41 : decode cX8_world 41 = .ok (.goto 20, 3) := by decide +kernel
theorem dX8_world_44 : decode cX8_world 44 = .ok (.aload_n 0, 1) := by decide +kernel
theorem dX8_world_45 : decode cX8_world 45 = .ok (.getfield 35, 3) := by decide +kernel
theorem dX8_world_48 : decode cX8_world 48 = .ok (.getfield 141, 3) := by decide +kernel
theorem dX8_world_51 : decode cX8_world 51 = .ok (.aload_n 0, 1) := by decide +kernel
theorem dX8_world_52 : decode cX8_world 52 = .ok (.getfield 51, 3) := by decide +kernel
theorem dX8_world_55 : decode cX8_world 55 = .ok (.getfield 144, 3) := by decide +kernel
theorem dX8_world_58 : decode cX8_world 58 = .ok (.iload_n 1, 1) := by decide +kernel
theorem dX8_world_59 : decode cX8_world 59 = .ok (.iaload, 1) := by decide +kernel
theorem dX8_world_60 : decode cX8_world 60 = .ok (.iaload, 1) := by decide +kernel
theorem dX8_world_61 : decode cX8_world 61 = .ok (.ireturn, 1) := by decide +kernel
theorem dX8_make_0 : decode cX8_make 0 = .ok (.iload_n 1, 1) := by decide +kernel
theorem dX8_make_1 : decode cX8_make 1 = .ok (.ifCond .lt 9, 3) := by decide +kernel
theorem dX8_make_4 : decode cX8_make 4 = .ok (.iload_n 1, 1) := by decide +kernel
theorem dX8_make_5 : decode cX8_make 5 = .ok (.bipush 6, 2) := by decide +kernel
theorem dX8_make_7 : decode cX8_make 7 = .ok (.if_icmp .le 6, 3) := by decide +kernel
theorem dX8_make_10 : decode cX8_make 10 = .ok (.bipush (-2), 2) := by decide +kernel
theorem dX8_make_12 : decode cX8_make 12 = .ok (.ireturn, 1) := by decide +kernel
theorem dX8_make_13 : decode cX8_make 13 = .ok (.aload_n 0, 1) := by decide +kernel
theorem dX8_make_14 : decode cX8_make 14 = .ok (.iload_n 1, 1) := by decide +kernel
theorem dX8_make_15 : decode cX8_make 15 = .ok (.iload_n 2, 1) := by decide +kernel
theorem dX8_make_16 : decode cX8_make 16 = .ok (.invokevirtual 147, 3) := by decide +kernel
theorem dX8_make_19 : decode cX8_make 19 = .ok (.ifCond .ne 5, 3) := by decide +kernel
theorem dX8_make_22 : decode cX8_make 22 = .ok (.iconst (-1), 1) := by decide +kernel
theorem dX8_make_23 : decode cX8_make 23 = .ok (.ireturn, 1) := by decide +kernel
theorem dX8_make_24 : decode cX8_make 24 = .ok (.iload_n 1, 1) := by decide +kernel
theorem dX8_make_25 : decode cX8_make 25 = .ok (.ifCond .eq 8, 3) := by decide +kernel
theorem dX8_make_28 : decode cX8_make 28 = .ok (.iload_n 1, 1) := by decide +kernel
theorem dX8_make_29 : decode cX8_make 29 = .ok (.iconst 2, 1) := by decide +kernel
theorem dX8_make_30 : decode cX8_make 30 = .ok (.if_icmp .ne 7, 3) := by decide +kernel
theorem dX8_make_33 : decode cX8_make 33 = .ok (.iconst 1, 1) := by decide +kernel
theorem dX8_make_34 : decode cX8_make 34 = .ok (.goto 4, 3) := by decide +kernel
theorem dX8_make_37 : decode cX8_make 37 = .ok (.iconst 0, 1) := by decide +kernel
theorem dX8_make_38 : decode cX8_make 38 = .ok (.istore 4, 2) := by decide +kernel
theorem dX8_make_40 : decode cX8_make 40 = .ok (.iload 4, 2) := by decide +kernel
theorem dX8_make_42 : decode cX8_make 42 = .ok (.ifCond .eq 14, 3) := by decide +kernel
theorem dX8_make_45 : decode cX8_make 45 = .ok (.aload_n 0, 1) := by decide +kernel
theorem dX8_make_46 : decode cX8_make 46 = .ok (.iload_n 1, 1) := by decide +kernel
theorem dX8_make_47 : decode cX8_make 47 = .ok (.iload_n 3, 1) := by decide +kernel
theorem dX8_make_48 : decode cX8_make 48 = .ok (.invokevirtual 147, 3) := by decide +kernel
theorem dX8_make_51 : decode cX8_make 51 = .ok (.ifCond .ne 5, 3) := by decide +kernel
theorem dX8_make_54 : decode cX8_make 54 = .ok (.iconst (-1), 1) := by decide +kernel
theorem dX8_make_55 : decode cX8_make 55 = .ok (.ireturn, 1) := by decide +kernel
theorem dX8_make_56 : decode cX8_make 56 = .ok (.aload_n 0, 1) := by decide +kernel
theorem dX8_make_57 : decode cX8_make 57 = .ok (.getfield 42, 3) := by decide +kernel
theorem dX8_make_60 : decode cX8_make 60 = .ok (.iload_n 1, 1) := by decide +kernel
theorem dX8_make_61 : decode cX8_make 61 = .ok (.iload_n 2, 1) := by decide +kernel
theorem dX8_make_62 : decode cX8_make 62 = .ok (.iload 4, 2) := by decide +kernel
theorem dX8_make_64 : decode cX8_make 64 = .ok (.ifCond .eq 7, 3) := by decide +kernel
theorem dX8_make_67 : decode cX8_make 67 = .ok (.iload_n 3, 1) := by decide +kernel
theorem dX8_make_68 : decode cX8_make 68 = .ok (.goto 4, 3) := by decide +kernel
theorem dX8_make_71 : decode cX8_make 71 = .ok (.iconst 0, 1) := by decide +kernel
theorem dX8_make_72 : decode cX8_make 72 = .ok (.invokevirtual 150, 3) := by decide +kernel
theorem dX8_make_75 : decode cX8_make 75 = .ok (.ireturn, 1) := by decide +kernel
theorem dX8_yes_0 : decode cX8_yes 0 = .ok (.aload_n 0, 1) := by decide +kernel
theorem dX8_yes_1 : decode cX8_yes 1 = .ok (.getfield 42, 3) := by decide +kernel
theorem dX8_yes_4 : decode cX8_yes 4 = .ok (.iload_n 1, 1) := by decide +kernel
theorem dX8_yes_5 : decode cX8_yes 5 = .ok (.invokevirtual 152, 3) := by decide +kernel
theorem dX8_yes_8 : decode cX8_yes 8 = .ok (.ifCond .ne 5, 3) := by decide +kernel
theorem dX8_yes_11 : decode cX8_yes 11 = .ok (.iconst (-1), 1) := by decide +kernel
theorem dX8_yes_12 : decode cX8_yes 12 = .ok (.ireturn, 1) := by decide +kernel
theorem dX8_yes_13 : decode cX8_yes 13 = .ok (.aload_n 0, 1) := by decide +kernel
theorem dX8_yes_14 : decode cX8_yes 14 = .ok (.invokevirtual 103, 3) := by decide +kernel
theorem dX8_yes_17 : decode cX8_yes 17 = .ok (.aload_n 0, 1) := by decide +kernel
theorem dX8_yes_18 : decode cX8_yes 18 = .ok (.getfield 51, 3) := by decide +kernel
theorem dX8_yes_21 : decode cX8_yes 21 = .ok (.iload_n 2, 1) := by decide +kernel
theorem dX8_yes_22 : decode cX8_yes 22 = .ok (.invokevirtual 136, 3) := by decide +kernel
theorem dX8_yes_25 : decode cX8_yes 25 = .ok (.ifCond .ne 5, 3) := by decide +kernel
theorem dX8_yes_28 : decode cX8_yes 28 = .ok (.iconst (-1), 1) := by decide +kernel
theorem dX8_yes_29 : decode cX8_yes 29 = .ok (.ireturn, 1) := by decide +kernel
theorem dX8_yes_30 : decode cX8_yes 30 = .ok (.aload_n 0, 1) := by decide +kernel
theorem dX8_yes_31 : decode cX8_yes 31 = .ok (.getfield 51, 3) := by decide +kernel
theorem dX8_yes_34 : decode cX8_yes 34 = .ok (.iload_n 2, 1) := by decide +kernel
theorem dX8_yes_35 : decode cX8_yes 35 = .ok (.invokevirtual 137, 3) := by decide +kernel
theorem dX8_yes_38 : decode cX8_yes 38 = .ok (.istore 5, 2) := by decide +kernel
theorem dX8_yes_40 : decode cX8_yes 40 = .ok (.iload_n 3, 1) := by decide +kernel
theorem dX8_yes_41 : decode cX8_yes 41 = .ok (.ifCond .lt 21, 3) := by decide +kernel
theorem dX8_yes_44 : decode cX8_yes 44 = .ok (.iload_n 3, 1) := by decide +kernel
theorem dX8_yes_45 : decode cX8_yes 45 = .ok (.iload 5, 2) := by decide +kernel
theorem dX8_yes_47 : decode cX8_yes 47 = .ok (.if_icmp .ge 15, 3) := by decide +kernel
theorem dX8_yes_50 : decode cX8_yes 50 = .ok (.iload 4, 2) := by decide +kernel
theorem dX8_yes_52 : decode cX8_yes 52 = .ok (.ifCond .lt 10, 3) := by decide +kernel
theorem dX8_yes_55 : decode cX8_yes 55 = .ok (.iload 4, 2) := by decide +kernel
theorem dX8_yes_57 : decode cX8_yes 57 = .ok (.iload 5, 2) := by decide +kernel
theorem dX8_yes_59 : decode cX8_yes 59 = .ok (.if_icmp .lt 6, 3) := by decide +kernel
theorem dX8_yes_62 : decode cX8_yes 62 = .ok (.bipush (-2), 2) := by decide +kernel
theorem dX8_yes_64 : decode cX8_yes 64 = .ok (.ireturn, 1) := by decide +kernel
theorem dX8_yes_65 : decode cX8_yes 65 = .ok (.aload_n 0, 1) := by decide +kernel
theorem dX8_yes_66 : decode cX8_yes 66 = .ok (.getfield 51, 3) := by decide +kernel
theorem dX8_yes_69 : decode cX8_yes 69 = .ok (.iload_n 1, 1) := by decide +kernel
theorem dX8_yes_70 : decode cX8_yes 70 = .ok (.iload_n 2, 1) := by decide +kernel
theorem dX8_yes_71 : decode cX8_yes 71 = .ok (.invokevirtual 153, 3) := by decide +kernel
theorem dX8_yes_74 : decode cX8_yes 74 = .ok (.iload_n 3, 1) := by decide +kernel
theorem dX8_yes_75 : decode cX8_yes 75 = .ok (.iload 5, 2) := by decide +kernel
theorem dX8_yes_77 : decode cX8_yes 77 = .ok (.imul, 1) := by decide +kernel
theorem dX8_yes_78 : decode cX8_yes 78 = .ok (.iload 4, 2) := by decide +kernel
theorem dX8_yes_80 : decode cX8_yes 80 = .ok (.iadd, 1) := by decide +kernel
theorem dX8_yes_81 : decode cX8_yes 81 = .ok (.ishr, 1) := by decide +kernel
theorem dX8_yes_82 : decode cX8_yes 82 = .ok (.iconst 1, 1) := by decide +kernel
theorem dX8_yes_83 : decode cX8_yes 83 = .ok (.iand, 1) := by decide +kernel
theorem dX8_yes_84 : decode cX8_yes 84 = .ok (.ireturn, 1) := by decide +kernel
theorem dX8_many_0 : decode cX8_many 0 = .ok (.aload_n 0, 1) := by decide +kernel
theorem dX8_many_1 : decode cX8_many 1 = .ok (.getfield 42, 3) := by decide +kernel
theorem dX8_many_4 : decode cX8_many 4 = .ok (.iload_n 1, 1) := by decide +kernel
theorem dX8_many_5 : decode cX8_many 5 = .ok (.invokevirtual 152, 3) := by decide +kernel
theorem dX8_many_8 : decode cX8_many 8 = .ok (.ifCond .ne 5, 3) := by decide +kernel
theorem dX8_many_11 : decode cX8_many 11 = .ok (.iconst (-1), 1) := by decide +kernel
theorem dX8_many_12 : decode cX8_many 12 = .ok (.ireturn, 1) := by decide +kernel
theorem dX8_many_13 : decode cX8_many 13 = .ok (.aload_n 0, 1) := by decide +kernel
theorem dX8_many_14 : decode cX8_many 14 = .ok (.invokevirtual 103, 3) := by decide +kernel
theorem dX8_many_17 : decode cX8_many 17 = .ok (.aload_n 0, 1) := by decide +kernel
theorem dX8_many_18 : decode cX8_many 18 = .ok (.getfield 51, 3) := by decide +kernel
theorem dX8_many_21 : decode cX8_many 21 = .ok (.iload_n 1, 1) := by decide +kernel
theorem dX8_many_22 : decode cX8_many 22 = .ok (.invokevirtual 156, 3) := by decide +kernel
theorem dX8_many_25 : decode cX8_many 25 = .ok (.ireturn, 1) := by decide +kernel
theorem dX8_twin_0 : decode cX8_twin 0 = .ok (.aload_n 0, 1) := by decide +kernel
theorem dX8_twin_1 : decode cX8_twin 1 = .ok (.getfield 42, 3) := by decide +kernel
theorem dX8_twin_4 : decode cX8_twin 4 = .ok (.iload_n 1, 1) := by decide +kernel
theorem dX8_twin_5 : decode cX8_twin 5 = .ok (.invokevirtual 152, 3) := by decide +kernel
theorem dX8_twin_8 : decode cX8_twin 8 = .ok (.ifCond .ne 5, 3) := by decide +kernel
theorem dX8_twin_11 : decode cX8_twin 11 = .ok (.iconst (-1), 1) := by decide +kernel
theorem dX8_twin_12 : decode cX8_twin 12 = .ok (.ireturn, 1) := by decide +kernel
theorem dX8_twin_13 : decode cX8_twin 13 = .ok (.aload_n 0, 1) := by decide +kernel
theorem dX8_twin_14 : decode cX8_twin 14 = .ok (.invokevirtual 103, 3) := by decide +kernel
theorem dX8_twin_17 : decode cX8_twin 17 = .ok (.iconst 0, 1) := by decide +kernel
theorem dX8_twin_18 : decode cX8_twin 18 = .ok (.istore_n 2, 1) := by decide +kernel
theorem dX8_twin_19 : decode cX8_twin 19 = .ok (.iload_n 2, 1) := by decide +kernel
theorem dX8_twin_20 : decode cX8_twin 20 = .ok (.iload_n 1, 1) := by decide +kernel
theorem dX8_twin_21 : decode cX8_twin 21 = .ok (.if_icmp .ge 23, 3) := by decide +kernel
theorem dX8_twin_24 : decode cX8_twin 24 = .ok (.aload_n 0, 1) := by decide +kernel
theorem dX8_twin_25 : decode cX8_twin 25 = .ok (.getfield 51, 3) := by decide +kernel
theorem dX8_twin_28 : decode cX8_twin 28 = .ok (.iload_n 2, 1) := by decide +kernel
theorem dX8_twin_29 : decode cX8_twin 29 = .ok (.iload_n 1, 1) := by decide +kernel
theorem dX8_twin_30 : decode cX8_twin 30 = .ok (.invokevirtual 159, 3) := by decide +kernel
theorem dX8_twin_33 : decode cX8_twin 33 = .ok (.ifCond .eq 5, 3) := by decide +kernel
theorem dX8_twin_36 : decode cX8_twin 36 = .ok (.iload_n 2, 1) := by decide +kernel
theorem dX8_twin_37 : decode cX8_twin 37 = .ok (.ireturn, 1) := by decide +kernel
theorem dX8_twin_38 : decode cX8_twin 38 = .ok (.iinc 2 1, 3) := by decide +kernel
theorem dX8_twin_41 : decode cX8_twin 41 = .ok (.goto (-22), 3) := by decide +kernel
theorem dX8_twin_44 : decode cX8_twin 44 = .ok (.bipush (-9), 2) := by decide +kernel
theorem dX8_twin_46 : decode cX8_twin 46 = .ok (.ireturn, 1) := by decide +kernel
theorem dX8_butFor_0 : decode cX8_butFor 0 = .ok (.aload_n 0, 1) := by decide +kernel
theorem dX8_butFor_1 : decode cX8_butFor 1 = .ok (.getfield 42, 3) := by decide +kernel
theorem dX8_butFor_4 : decode cX8_butFor 4 = .ok (.iload_n 1, 1) := by decide +kernel
theorem dX8_butFor_5 : decode cX8_butFor 5 = .ok (.invokevirtual 152, 3) := by decide +kernel
theorem dX8_butFor_8 : decode cX8_butFor 8 = .ok (.ifCond .eq 14, 3) := by decide +kernel
theorem dX8_butFor_11 : decode cX8_butFor 11 = .ok (.aload_n 0, 1) := by decide +kernel
theorem dX8_butFor_12 : decode cX8_butFor 12 = .ok (.getfield 42, 3) := by decide +kernel
theorem dX8_butFor_15 : decode cX8_butFor 15 = .ok (.iload_n 2, 1) := by decide +kernel
theorem dX8_butFor_16 : decode cX8_butFor 16 = .ok (.invokevirtual 152, 3) := by decide +kernel
theorem dX8_butFor_19 : decode cX8_butFor 19 = .ok (.ifCond .ne 5, 3) := by decide +kernel
theorem dX8_butFor_22 : decode cX8_butFor 22 = .ok (.iconst (-1), 1) := by decide +kernel
theorem dX8_butFor_23 : decode cX8_butFor 23 = .ok (.ireturn, 1) := by decide +kernel
theorem dX8_butFor_24 : decode cX8_butFor 24 = .ok (.aload_n 0, 1) := by decide +kernel
end
section
theorem dX8_butFor_25 : decode cX8_butFor 25 = .ok (.invokevirtual 103, 3) := by decide +kernel
theorem dX8_butFor_28 : decode cX8_butFor 28 = .ok (.aload_n 0, 1) := by decide +kernel
theorem dX8_butFor_29 : decode cX8_butFor 29 = .ok (.getfield 51, 3) := by decide +kernel
theorem dX8_butFor_32 : decode cX8_butFor 32 = .ok (.iload_n 1, 1) := by decide +kernel
theorem dX8_butFor_33 : decode cX8_butFor 33 = .ok (.iload_n 2, 1) := by decide +kernel
theorem dX8_butFor_34 : decode cX8_butFor 34 = .ok (.invokevirtual 162, 3) := by decide +kernel
theorem dX8_butFor_37 : decode cX8_butFor 37 = .ok (.ireturn, 1) := by decide +kernel
theorem dX8_look_0 : decode cX8_look 0 = .ok (.aload_n 0, 1) := by decide +kernel
theorem dX8_look_1 : decode cX8_look 1 = .ok (.getfield 42, 3) := by decide +kernel
theorem dX8_look_4 : decode cX8_look 4 = .ok (.iload_n 1, 1) := by decide +kernel
theorem dX8_look_5 : decode cX8_look 5 = .ok (.invokevirtual 152, 3) := by decide +kernel
theorem dX8_look_8 : decode cX8_look 8 = .ok (.ifCond .eq 14, 3) := by decide +kernel
theorem dX8_look_11 : decode cX8_look 11 = .ok (.aload_n 0, 1) := by decide +kernel
theorem dX8_look_12 : decode cX8_look 12 = .ok (.getfield 42, 3) := by decide +kernel
theorem dX8_look_15 : decode cX8_look 15 = .ok (.iload_n 2, 1) := by decide +kernel
theorem dX8_look_16 : decode cX8_look 16 = .ok (.invokevirtual 152, 3) := by decide +kernel
theorem dX8_look_19 : decode cX8_look 19 = .ok (.ifCond .ne 5, 3) := by decide +kernel
theorem dX8_look_22 : decode cX8_look 22 = .ok (.iconst (-1), 1) := by decide +kernel
theorem dX8_look_23 : decode cX8_look 23 = .ok (.ireturn, 1) := by decide +kernel
theorem dX8_look_24 : decode cX8_look 24 = .ok (.aload_n 0, 1) := by decide +kernel
theorem dX8_look_25 : decode cX8_look 25 = .ok (.invokevirtual 103, 3) := by decide +kernel
theorem dX8_look_28 : decode cX8_look 28 = .ok (.aload_n 0, 1) := by decide +kernel
theorem dX8_look_29 : decode cX8_look 29 = .ok (.getfield 51, 3) := by decide +kernel
theorem dX8_look_32 : decode cX8_look 32 = .ok (.iload_n 1, 1) := by decide +kernel
theorem dX8_look_33 : decode cX8_look 33 = .ok (.iload_n 2, 1) := by decide +kernel
theorem dX8_look_34 : decode cX8_look 34 = .ok (.iload_n 3, 1) := by decide +kernel
theorem dX8_look_35 : decode cX8_look 35 = .ok (.invokevirtual 165, 3) := by decide +kernel
theorem dX8_look_38 : decode cX8_look 38 = .ok (.ireturn, 1) := by decide +kernel
theorem dX8_never_0 : decode cX8_never 0 = .ok (.aload_n 0, 1) := by decide +kernel
theorem dX8_never_1 : decode cX8_never 1 = .ok (.getfield 42, 3) := by decide +kernel
theorem dX8_never_4 : decode cX8_never 4 = .ok (.iload_n 1, 1) := by decide +kernel
theorem dX8_never_5 : decode cX8_never 5 = .ok (.invokevirtual 152, 3) := by decide +kernel
theorem dX8_never_8 : decode cX8_never 8 = .ok (.ifCond .eq 14, 3) := by decide +kernel
theorem dX8_never_11 : decode cX8_never 11 = .ok (.aload_n 0, 1) := by decide +kernel
theorem dX8_never_12 : decode cX8_never 12 = .ok (.getfield 42, 3) := by decide +kernel
theorem dX8_never_15 : decode cX8_never 15 = .ok (.iload_n 2, 1) := by decide +kernel
theorem dX8_never_16 : decode cX8_never 16 = .ok (.invokevirtual 152, 3) := by decide +kernel
theorem dX8_never_19 : decode cX8_never 19 = .ok (.ifCond .ne 5, 3) := by decide +kernel
theorem dX8_never_22 : decode cX8_never 22 = .ok (.iconst (-1), 1) := by decide +kernel
theorem dX8_never_23 : decode cX8_never 23 = .ok (.ireturn, 1) := by decide +kernel
theorem dX8_never_24 : decode cX8_never 24 = .ok (.aload_n 0, 1) := by decide +kernel
theorem dX8_never_25 : decode cX8_never 25 = .ok (.invokevirtual 103, 3) := by decide +kernel
theorem dX8_never_28 : decode cX8_never 28 = .ok (.aload_n 0, 1) := by decide +kernel
theorem dX8_never_29 : decode cX8_never 29 = .ok (.getfield 51, 3) := by decide +kernel
theorem dX8_never_32 : decode cX8_never 32 = .ok (.iload_n 1, 1) := by decide +kernel
theorem dX8_never_33 : decode cX8_never 33 = .ok (.iload_n 2, 1) := by decide +kernel
theorem dX8_never_34 : decode cX8_never 34 = .ok (.invokevirtual 168, 3) := by decide +kernel
theorem dX8_never_37 : decode cX8_never 37 = .ok (.ifCond .eq 7, 3) := by decide +kernel
theorem dX8_never_40 : decode cX8_never 40 = .ok (.iconst 0, 1) := by decide +kernel
theorem dX8_never_41 : decode cX8_never 41 = .ok (.goto 4, 3) := by decide +kernel
theorem dX8_never_44 : decode cX8_never 44 = .ok (.iconst 1, 1) := by decide +kernel
theorem dX8_never_45 : decode cX8_never 45 = .ok (.ireturn, 1) := by decide +kernel
theorem dX8_deny_0 : decode cX8_deny 0 = .ok (.aload_n 0, 1) := by decide +kernel
theorem dX8_deny_1 : decode cX8_deny 1 = .ok (.getfield 42, 3) := by decide +kernel
theorem dX8_deny_4 : decode cX8_deny 4 = .ok (.iload_n 1, 1) := by decide +kernel
theorem dX8_deny_5 : decode cX8_deny 5 = .ok (.invokevirtual 152, 3) := by decide +kernel
theorem dX8_deny_8 : decode cX8_deny 8 = .ok (.ifCond .eq 14, 3) := by decide +kernel
theorem dX8_deny_11 : decode cX8_deny 11 = .ok (.aload_n 0, 1) := by decide +kernel
theorem dX8_deny_12 : decode cX8_deny 12 = .ok (.getfield 42, 3) := by decide +kernel
theorem dX8_deny_15 : decode cX8_deny 15 = .ok (.iload_n 2, 1) := by decide +kernel
theorem dX8_deny_16 : decode cX8_deny 16 = .ok (.invokevirtual 152, 3) := by decide +kernel
theorem dX8_deny_19 : decode cX8_deny 19 = .ok (.ifCond .ne 5, 3) := by decide +kernel
theorem dX8_deny_22 : decode cX8_deny 22 = .ok (.iconst (-1), 1) := by decide +kernel
theorem dX8_deny_23 : decode cX8_deny 23 = .ok (.ireturn, 1) := by decide +kernel
theorem dX8_deny_24 : decode cX8_deny 24 = .ok (.aload_n 0, 1) := by decide +kernel
theorem dX8_deny_25 : decode cX8_deny 25 = .ok (.invokevirtual 103, 3) := by decide +kernel
theorem dX8_deny_28 : decode cX8_deny 28 = .ok (.aload_n 0, 1) := by decide +kernel
theorem dX8_deny_29 : decode cX8_deny 29 = .ok (.getfield 51, 3) := by decide +kernel
theorem dX8_deny_32 : decode cX8_deny 32 = .ok (.iload_n 1, 1) := by decide +kernel
theorem dX8_deny_33 : decode cX8_deny 33 = .ok (.iload_n 2, 1) := by decide +kernel
theorem dX8_deny_34 : decode cX8_deny 34 = .ok (.aload_n 0, 1) := by decide +kernel
theorem dX8_deny_35 : decode cX8_deny 35 = .ok (.getfield 19, 3) := by decide +kernel
theorem dX8_deny_38 : decode cX8_deny 38 = .ok (.invokevirtual 106, 3) := by decide +kernel
theorem dX8_deny_41 : decode cX8_deny 41 = .ok (.invokevirtual 171, 3) := by decide +kernel
theorem dX8_deny_44 : decode cX8_deny 44 = .ok (.istore_n 3, 1) := by decide +kernel
theorem dX8_deny_45 : decode cX8_deny 45 = .ok (.iload_n 3, 1) := by decide +kernel
theorem dX8_deny_46 : decode cX8_deny 46 = .ok (.bipush (-9), 2) := by decide +kernel
theorem dX8_deny_48 : decode cX8_deny 48 = .ok (.if_icmp .ne 6, 3) := by decide +kernel
theorem dX8_deny_51 : decode cX8_deny 51 = .ok (.bipush (-9), 2) := by decide +kernel
theorem dX8_deny_53 : decode cX8_deny 53 = .ok (.ireturn, 1) := by decide +kernel
theorem dX8_deny_54 : decode cX8_deny 54 = .ok (.aload_n 0, 1) := by decide +kernel
theorem dX8_deny_55 : decode cX8_deny 55 = .ok (.getfield 35, 3) := by decide +kernel
theorem dX8_deny_58 : decode cX8_deny 58 = .ok (.iload_n 3, 1) := by decide +kernel
theorem dX8_deny_59 : decode cX8_deny 59 = .ok (.invokevirtual 174, 3) := by decide +kernel
theorem dX8_deny_62 : decode cX8_deny 62 = .ok (.ldc 177, 2) := by decide +kernel
theorem dX8_deny_64 : decode cX8_deny 64 = .ok (.imul, 1) := by decide +kernel
theorem dX8_deny_65 : decode cX8_deny 65 = .ok (.aload_n 0, 1) := by decide +kernel
theorem dX8_deny_66 : decode cX8_deny 66 = .ok (.getfield 35, 3) := by decide +kernel
theorem dX8_deny_69 : decode cX8_deny 69 = .ok (.getfield 141, 3) := by decide +kernel
theorem dX8_deny_72 : decode cX8_deny 72 = .ok (.iload_n 3, 1) := by decide +kernel
theorem dX8_deny_73 : decode cX8_deny 73 = .ok (.iaload, 1) := by decide +kernel
theorem dX8_deny_74 : decode cX8_deny 74 = .ok (.iadd, 1) := by decide +kernel
theorem dX8_deny_75 : decode cX8_deny 75 = .ok (.ireturn, 1) := by decide +kernel
theorem dX8_weigh_0 : decode cX8_weigh 0 = .ok (.iload_n 1, 1) := by decide +kernel
theorem dX8_weigh_1 : decode cX8_weigh 1 = .ok (.ifCond .lt 18, 3) := by decide +kernel
theorem dX8_weigh_4 : decode cX8_weigh 4 = .ok (.iload_n 1, 1) := by decide +kernel
theorem dX8_weigh_5 : decode cX8_weigh 5 = .ok (.iconst 3, 1) := by decide +kernel
theorem dX8_weigh_6 : decode cX8_weigh 6 = .ok (.if_icmp .ge 13, 3) := by decide +kernel
theorem dX8_weigh_9 : decode cX8_weigh 9 = .ok (.iload_n 2, 1) := by decide +kernel
theorem dX8_weigh_10 : decode cX8_weigh 10 = .ok (.ifCond .lt 9, 3) := by decide +kernel
theorem dX8_weigh_13 : decode cX8_weigh 13 = .ok (.iload_n 2, 1) := by decide +kernel
theorem dX8_weigh_14 : decode cX8_weigh 14 = .ok (.bipush 9, 2) := by decide +kernel
theorem dX8_weigh_16 : decode cX8_weigh 16 = .ok (.if_icmp .le 6, 3) := by decide +kernel
theorem dX8_weigh_19 : decode cX8_weigh 19 = .ok (.bipush (-2), 2) := by decide +kernel
theorem dX8_weigh_21 : decode cX8_weigh 21 = .ok (.ireturn, 1) := by decide +kernel
theorem dX8_weigh_22 : decode cX8_weigh 22 = .ok (.aload_n 0, 1) := by decide +kernel
theorem dX8_weigh_23 : decode cX8_weigh 23 = .ok (.getfield 62, 3) := by decide +kernel
theorem dX8_weigh_26 : decode cX8_weigh 26 = .ok (.iload_n 1, 1) := by decide +kernel
theorem dX8_weigh_27 : decode cX8_weigh 27 = .ok (.iaload, 1) := by decide +kernel
theorem dX8_weigh_28 : decode cX8_weigh 28 = .ok (.istore_n 3, 1) := by decide +kernel
theorem dX8_weigh_29 : decode cX8_weigh 29 = .ok (.aload_n 0, 1) := by decide +kernel
theorem dX8_weigh_30 : decode cX8_weigh 30 = .ok (.getfield 62, 3) := by decide +kernel
theorem dX8_weigh_33 : decode cX8_weigh 33 = .ok (.iload_n 1, 1) := by decide +kernel
theorem dX8_weigh_34 : decode cX8_weigh 34 = .ok (.iload_n 2, 1) := by decide +kernel
theorem dX8_weigh_35 : decode cX8_weigh 35 = .ok (.iastore, 1) := by decide +kernel
theorem dX8_weigh_36 : decode cX8_weigh 36 = .ok (.iload_n 3, 1) := by decide +kernel
theorem dX8_weigh_37 : decode cX8_weigh 37 = .ok (.ireturn, 1) := by decide +kernel
theorem dX8_wake_0 : decode cX8_wake 0 = .ok (.aload_n 0, 1) := by decide +kernel
theorem dX8_wake_1 : decode cX8_wake 1 = .ok (.getfield 42, 3) := by decide +kernel
theorem dX8_wake_4 : decode cX8_wake 4 = .ok (.iload_n 1, 1) := by decide +kernel
theorem dX8_wake_5 : decode cX8_wake 5 = .ok (.invokevirtual 152, 3) := by decide +kernel
theorem dX8_wake_8 : decode cX8_wake 8 = .ok (.ifCond .ne 5, 3) := by decide +kernel
theorem dX8_wake_11 : decode cX8_wake 11 = .ok (.iconst (-1), 1) := by decide +kernel
theorem dX8_wake_12 : decode cX8_wake 12 = .ok (.ireturn, 1) := by decide +kernel
theorem dX8_wake_13 : decode cX8_wake 13 = .ok (.aload_n 0, 1) := by decide +kernel
theorem dX8_wake_14 : decode cX8_wake 14 = .ok (.getfield 42, 3) := by decide +kernel
theorem dX8_wake_17 : decode cX8_wake 17 = .ok (.getfield 178, 3) := by decide +kernel
theorem dX8_wake_20 : decode cX8_wake 20 = .ok (.iload_n 1, 1) := by decide +kernel
theorem dX8_wake_21 : decode cX8_wake 21 = .ok (.baload, 1) := by decide +kernel
theorem dX8_wake_22 : decode cX8_wake 22 = .ok (.ifCond .eq 7, 3) := by decide +kernel
theorem dX8_wake_25 : decode cX8_wake 25 = .ok (.iconst 1, 1) := by decide +kernel
theorem dX8_wake_26 : decode cX8_wake 26 = .ok (.goto 4, 3) := by decide +kernel
theorem dX8_wake_29 : decode cX8_wake 29 = .ok (.iconst 0, 1) := by decide +kernel
theorem dX8_wake_30 : decode cX8_wake 30 = .ok (.istore_n 3, 1) := by decide +kernel
theorem dX8_wake_31 : decode cX8_wake 31 = .ok (.aload_n 0, 1) := by decide +kernel
theorem dX8_wake_32 : decode cX8_wake 32 = .ok (.getfield 42, 3) := by decide +kernel
theorem dX8_wake_35 : decode cX8_wake 35 = .ok (.getfield 178, 3) := by decide +kernel
theorem dX8_wake_38 : decode cX8_wake 38 = .ok (.iload_n 1, 1) := by decide +kernel
theorem dX8_wake_39 : decode cX8_wake 39 = .ok (.iload_n 2, 1) := by decide +kernel
theorem dX8_wake_40 : decode cX8_wake 40 = .ok (.bastore, 1) := by decide +kernel
theorem dX8_wake_41 : decode cX8_wake 41 = .ok (.iload_n 3, 1) := by decide +kernel
theorem dX8_wake_42 : decode cX8_wake 42 = .ok (.ireturn, 1) := by decide +kernel
theorem dX8_worth_0 : decode cX8_worth 0 = .ok (.aload_n 0, 1) := by decide +kernel
theorem dX8_worth_1 : decode cX8_worth 1 = .ok (.getfield 42, 3) := by decide +kernel
theorem dX8_worth_4 : decode cX8_worth 4 = .ok (.iload_n 1, 1) := by decide +kernel
theorem dX8_worth_5 : decode cX8_worth 5 = .ok (.invokevirtual 152, 3) := by decide +kernel
theorem dX8_worth_8 : decode cX8_worth 8 = .ok (.ifCond .ne 5, 3) := by decide +kernel
theorem dX8_worth_11 : decode cX8_worth 11 = .ok (.iconst (-1), 1) := by decide +kernel
theorem dX8_worth_12 : decode cX8_worth 12 = .ok (.ireturn, 1) := by decide +kernel
theorem dX8_worth_13 : decode cX8_worth 13 = .ok (.iload_n 2, 1) := by decide +kernel
theorem dX8_worth_14 : decode cX8_worth 14 = .ok (.ifCond .lt 8, 3) := by decide +kernel
theorem dX8_worth_17 : decode cX8_worth 17 = .ok (.iload_n 2, 1) := by decide +kernel
theorem dX8_worth_18 : decode cX8_worth 18 = .ok (.iconst 3, 1) := by decide +kernel
theorem dX8_worth_19 : decode cX8_worth 19 = .ok (.if_icmp .le 6, 3) := by decide +kernel
theorem dX8_worth_22 : decode cX8_worth 22 = .ok (.bipush (-2), 2) := by decide +kernel
theorem dX8_worth_24 : decode cX8_worth 24 = .ok (.ireturn, 1) := by decide +kernel
theorem dX8_worth_25 : decode cX8_worth 25 = .ok (.aload_n 0, 1) := by decide +kernel
theorem dX8_worth_26 : decode cX8_worth 26 = .ok (.invokevirtual 103, 3) := by decide +kernel
theorem dX8_worth_29 : decode cX8_worth 29 = .ok (.iload_n 2, 1) := by decide +kernel
theorem dX8_worth_30 : decode cX8_worth 30 = .ok (.tableswitch 61 0 2 #[26, 42, 51], 26) := by decide +kernel
theorem dX8_worth_56 : decode cX8_worth 56 = .ok (.aload_n 0, 1) := by decide +kernel
theorem dX8_worth_57 : decode cX8_worth 57 = .ok (.getfield 51, 3) := by decide +kernel
theorem dX8_worth_60 : decode cX8_worth 60 = .ok (.aload_n 0, 1) := by decide +kernel
theorem dX8_worth_61 : decode cX8_worth 61 = .ok (.getfield 51, 3) := by decide +kernel
theorem dX8_worth_64 : decode cX8_worth 64 = .ok (.iload_n 1, 1) := by decide +kernel
theorem dX8_worth_65 : decode cX8_worth 65 = .ok (.invokevirtual 156, 3) := by decide +kernel
theorem dX8_worth_68 : decode cX8_worth 68 = .ok (.invokevirtual 182, 3) := by decide +kernel
theorem dX8_worth_71 : decode cX8_worth 71 = .ok (.ireturn, 1) := by decide +kernel
theorem dX8_worth_72 : decode cX8_worth 72 = .ok (.aload_n 0, 1) := by decide +kernel
theorem dX8_worth_73 : decode cX8_worth 73 = .ok (.getfield 51, 3) := by decide +kernel
theorem dX8_worth_76 : decode cX8_worth 76 = .ok (.iload_n 1, 1) := by decide +kernel
theorem dX8_worth_77 : decode cX8_worth 77 = .ok (.invokevirtual 185, 3) := by decide +kernel
theorem dX8_worth_80 : decode cX8_worth 80 = .ok (.ireturn, 1) := by decide +kernel
theorem dX8_worth_81 : decode cX8_worth 81 = .ok (.aload_n 0, 1) := by decide +kernel
theorem dX8_worth_82 : decode cX8_worth 82 = .ok (.getfield 42, 3) := by decide +kernel
theorem dX8_worth_85 : decode cX8_worth 85 = .ok (.getfield 188, 3) := by decide +kernel
theorem dX8_worth_88 : decode cX8_worth 88 = .ok (.iload_n 1, 1) := by decide +kernel
theorem dX8_worth_89 : decode cX8_worth 89 = .ok (.iaload, 1) := by decide +kernel
theorem dX8_worth_90 : decode cX8_worth 90 = .ok (.ireturn, 1) := by decide +kernel
theorem dX8_worth_91 : decode cX8_worth 91 = .ok (.aload_n 0, 1) := by decide +kernel
theorem dX8_worth_92 : decode cX8_worth 92 = .ok (.iload_n 1, 1) := by decide +kernel
theorem dX8_worth_93 : decode cX8_worth 93 = .ok (.invokevirtual 191, 3) := by decide +kernel
theorem dX8_worth_96 : decode cX8_worth 96 = .ok (.ldc 177, 2) := by decide +kernel
theorem dX8_worth_98 : decode cX8_worth 98 = .ok (.iadd, 1) := by decide +kernel
theorem dX8_worth_99 : decode cX8_worth 99 = .ok (.ireturn, 1) := by decide +kernel
theorem dX8_best_0 : decode cX8_best 0 = .ok (.aload_n 0, 1) := by decide +kernel
theorem dX8_best_1 : decode cX8_best 1 = .ok (.invokevirtual 103, 3) := by decide +kernel
theorem dX8_best_4 : decode cX8_best 4 = .ok (.bipush (-9), 2) := by decide +kernel
theorem dX8_best_6 : decode cX8_best 6 = .ok (.istore_n 1, 1) := by decide +kernel
theorem dX8_best_7 : decode cX8_best 7 = .ok (.iconst 0, 1) := by decide +kernel
theorem dX8_best_8 : decode cX8_best 8 = .ok (.istore_n 2, 1) := by decide +kernel
theorem dX8_best_9 : decode cX8_best 9 = .ok (.iconst 0, 1) := by decide +kernel
theorem dX8_best_10 : decode cX8_best 10 = .ok (.istore_n 3, 1) := by decide +kernel
theorem dX8_best_11 : decode cX8_best 11 = .ok (.iload_n 3, 1) := by decide +kernel
theorem dX8_best_12 : decode cX8_best 12 = .ok (.aload_n 0, 1) := by decide +kernel
theorem dX8_best_13 : decode cX8_best 13 = .ok (.getfield 42, 3) := by decide +kernel
theorem dX8_best_16 : decode cX8_best 16 = .ok (.getfield 194, 3) := by decide +kernel
theorem dX8_best_19 : decode cX8_best 19 = .ok (.if_icmp .ge 45, 3) := by decide +kernel
theorem dX8_best_22 : decode cX8_best 22 = .ok (.aload_n 0, 1) := by decide +kernel
theorem dX8_best_23 : decode cX8_best 23 = .ok (.getfield 42, 3) := by decide +kernel
theorem dX8_best_26 : decode cX8_best 26 = .ok (.getfield 178, 3) := by decide +kernel
theorem dX8_best_29 : decode cX8_best 29 = .ok (.iload_n 3, 1) := by decide +kernel
theorem dX8_best_30 : decode cX8_best 30 = .ok (.baload, 1) := by decide +kernel
theorem dX8_best_31 : decode cX8_best 31 = .ok (.ifCond .eq 27, 3) := by decide +kernel
theorem dX8_best_34 : decode cX8_best 34 = .ok (.aload_n 0, 1) := by decide +kernel
theorem dX8_best_35 : decode cX8_best 35 = .ok (.iload_n 3, 1) := by decide +kernel
theorem dX8_best_36 : decode cX8_best 36 = .ok (.invokevirtual 191, 3) := by decide +kernel
theorem dX8_best_39 : decode cX8_best 39 = .ok (.istore 4, 2) := by decide +kernel
theorem dX8_best_41 : decode cX8_best 41 = .ok (.iload_n 1, 1) := by decide +kernel
theorem dX8_best_42 : decode cX8_best 42 = .ok (.bipush (-9), 2) := by decide +kernel
theorem dX8_best_44 : decode cX8_best 44 = .ok (.if_icmp .eq 9, 3) := by decide +kernel
theorem dX8_best_47 : decode cX8_best 47 = .ok (.iload 4, 2) := by decide +kernel
theorem dX8_best_49 : decode cX8_best 49 = .ok (.iload_n 2, 1) := by decide +kernel
theorem dX8_best_50 : decode cX8_best 50 = .ok (.if_icmp .le 8, 3) := by decide +kernel
theorem dX8_best_53 : decode cX8_best 53 = .ok (.iload_n 3, 1) := by decide +kernel
theorem dX8_best_54 : decode cX8_best 54 = .ok (.istore_n 1, 1) := by decide +kernel
theorem dX8_best_55 : decode cX8_best 55 = .ok (.iload 4, 2) := by decide +kernel
theorem dX8_best_57 : decode cX8_best 57 = .ok (.istore_n 2, 1) := by decide +kernel
theorem dX8_best_58 : decode cX8_best 58 = .ok (.iinc 3 1, 3) := by decide +kernel
theorem dX8_best_61 : decode cX8_best 61 = .ok (.goto (-50), 3) := by decide +kernel
theorem dX8_best_64 : decode cX8_best 64 = .ok (.iload_n 1, 1) := by decide +kernel
theorem dX8_best_65 : decode cX8_best 65 = .ok (.ireturn, 1) := by decide +kernel
theorem dX8_next_0 : decode cX8_next 0 = .ok (.aload_n 0, 1) := by decide +kernel
theorem dX8_next_1 : decode cX8_next 1 = .ok (.invokevirtual 103, 3) := by decide +kernel
theorem dX8_next_4 : decode cX8_next 4 = .ok (.aload_n 0, 1) := by decide +kernel
theorem dX8_next_5 : decode cX8_next 5 = .ok (.getfield 51, 3) := by decide +kernel
theorem dX8_next_8 : decode cX8_next 8 = .ok (.invokevirtual 195, 3) := by decide +kernel
theorem dX8_next_11 : decode cX8_next 11 = .ok (.ireturn, 1) := by decide +kernel
theorem dX8_makeNext_0 : decode cX8_makeNext 0 = .ok (.aload_n 0, 1) := by decide +kernel
theorem dX8_makeNext_1 : decode cX8_makeNext 1 = .ok (.invokevirtual 103, 3) := by decide +kernel
theorem dX8_makeNext_4 : decode cX8_makeNext 4 = .ok (.aload_n 0, 1) := by decide +kernel
theorem dX8_makeNext_5 : decode cX8_makeNext 5 = .ok (.getfield 51, 3) := by decide +kernel
theorem dX8_makeNext_8 : decode cX8_makeNext 8 = .ok (.invokevirtual 195, 3) := by decide +kernel
theorem dX8_makeNext_11 : decode cX8_makeNext 11 = .ok (.istore_n 1, 1) := by decide +kernel
theorem dX8_makeNext_12 : decode cX8_makeNext 12 = .ok (.iload_n 1, 1) := by decide +kernel
theorem dX8_makeNext_13 : decode cX8_makeNext 13 = .ok (.bipush (-9), 2) := by decide +kernel
theorem dX8_makeNext_15 : decode cX8_makeNext 15 = .ok (.if_icmp .ne 6, 3) := by decide +kernel
theorem dX8_makeNext_18 : decode cX8_makeNext 18 = .ok (.bipush (-3), 2) := by decide +kernel
theorem dX8_makeNext_20 : decode cX8_makeNext 20 = .ok (.ireturn, 1) := by decide +kernel
theorem dX8_makeNext_21 : decode cX8_makeNext 21 = .ok (.aload_n 0, 1) := by decide +kernel
theorem dX8_makeNext_22 : decode cX8_makeNext 22 = .ok (.getfield 42, 3) := by decide +kernel
theorem dX8_makeNext_25 : decode cX8_makeNext 25 = .ok (.iload_n 1, 1) := by decide +kernel
theorem dX8_makeNext_26 : decode cX8_makeNext 26 = .ok (.sipush 10000, 3) := by decide +kernel
theorem dX8_makeNext_29 : decode cX8_makeNext 29 = .ok (.idiv, 1) := by decide +kernel
theorem dX8_makeNext_30 : decode cX8_makeNext 30 = .ok (.iload_n 1, 1) := by decide +kernel
theorem dX8_makeNext_31 : decode cX8_makeNext 31 = .ok (.bipush 100, 2) := by decide +kernel
theorem dX8_makeNext_33 : decode cX8_makeNext 33 = .ok (.idiv, 1) := by decide +kernel
theorem dX8_makeNext_34 : decode cX8_makeNext 34 = .ok (.bipush 100, 2) := by decide +kernel
theorem dX8_makeNext_36 : decode cX8_makeNext 36 = .ok (.irem, 1) := by decide +kernel
theorem dX8_makeNext_37 : decode cX8_makeNext 37 = .ok (.iload_n 1, 1) := by decide +kernel
theorem dX8_makeNext_38 : decode cX8_makeNext 38 = .ok (.bipush 100, 2) := by decide +kernel
theorem dX8_makeNext_40 : decode cX8_makeNext 40 = .ok (.irem, 1) := by decide +kernel
theorem dX8_makeNext_41 : decode cX8_makeNext 41 = .ok (.invokevirtual 150, 3) := by decide +kernel
theorem dX8_makeNext_44 : decode cX8_makeNext 44 = .ok (.ireturn, 1) := by decide +kernel
theorem dX8_needed_0 : decode cX8_needed 0 = .ok (.iload_n 1, 1) := by decide +kernel
theorem dX8_needed_1 : decode cX8_needed 1 = .ok (.ifCond .lt 14, 3) := by decide +kernel
theorem dX8_needed_4 : decode cX8_needed 4 = .ok (.iload_n 1, 1) := by decide +kernel
theorem dX8_needed_5 : decode cX8_needed 5 = .ok (.aload_n 0, 1) := by decide +kernel
theorem dX8_needed_6 : decode cX8_needed 6 = .ok (.getfield 19, 3) := by decide +kernel
theorem dX8_needed_9 : decode cX8_needed 9 = .ok (.getfield 96, 3) := by decide +kernel
theorem dX8_needed_12 : decode cX8_needed 12 = .ok (.if_icmp .lt 5, 3) := by decide +kernel
theorem dX8_needed_15 : decode cX8_needed 15 = .ok (.iconst (-1), 1) := by decide +kernel
theorem dX8_needed_16 : decode cX8_needed 16 = .ok (.ireturn, 1) := by decide +kernel
theorem dX8_needed_17 : decode cX8_needed 17 = .ok (.aload_n 0, 1) := by decide +kernel
theorem dX8_needed_18 : decode cX8_needed 18 = .ok (.invokevirtual 103, 3) := by decide +kernel
theorem dX8_needed_21 : decode cX8_needed 21 = .ok (.aload_n 0, 1) := by decide +kernel
theorem dX8_needed_22 : decode cX8_needed 22 = .ok (.getfield 35, 3) := by decide +kernel
theorem dX8_needed_25 : decode cX8_needed 25 = .ok (.iload_n 1, 1) := by decide +kernel
theorem dX8_needed_26 : decode cX8_needed 26 = .ok (.aload_n 0, 1) := by decide +kernel
theorem dX8_needed_27 : decode cX8_needed 27 = .ok (.getfield 19, 3) := by decide +kernel
theorem dX8_needed_30 : decode cX8_needed 30 = .ok (.invokevirtual 106, 3) := by decide +kernel
theorem dX8_needed_33 : decode cX8_needed 33 = .ok (.invokevirtual 198, 3) := by decide +kernel
theorem dX8_needed_36 : decode cX8_needed 36 = .ok (.ifCond .eq 7, 3) := by decide +kernel
theorem dX8_needed_39 : decode cX8_needed 39 = .ok (.iconst 1, 1) := by decide +kernel
theorem dX8_needed_40 : decode cX8_needed 40 = .ok (.goto 4, 3) := by decide +kernel
theorem dX8_needed_43 : decode cX8_needed 43 = .ok (.iconst 0, 1) := by decide +kernel
theorem dX8_needed_44 : decode cX8_needed 44 = .ok (.ireturn, 1) := by decide +kernel
theorem dX8_least_0 : decode cX8_least 0 = .ok (.aload_n 0, 1) := by decide +kernel
theorem dX8_least_1 : decode cX8_least 1 = .ok (.invokevirtual 103, 3) := by decide +kernel
theorem dX8_least_4 : decode cX8_least 4 = .ok (.aload_n 0, 1) := by decide +kernel
theorem dX8_least_5 : decode cX8_least 5 = .ok (.getfield 19, 3) := by decide +kernel
theorem dX8_least_8 : decode cX8_least 8 = .ok (.invokevirtual 106, 3) := by decide +kernel
theorem dX8_least_11 : decode cX8_least 11 = .ok (.istore_n 1, 1) := by decide +kernel
theorem dX8_least_12 : decode cX8_least 12 = .ok (.aload_n 0, 1) := by decide +kernel
theorem dX8_least_13 : decode cX8_least 13 = .ok (.getfield 19, 3) := by decide +kernel
theorem dX8_least_16 : decode cX8_least 16 = .ok (.getfield 96, 3) := by decide +kernel
theorem dX8_least_19 : decode cX8_least 19 = .ok (.iconst 1, 1) := by decide +kernel
theorem dX8_least_20 : decode cX8_least 20 = .ok (.isub, 1) := by decide +kernel
theorem dX8_least_21 : decode cX8_least 21 = .ok (.istore_n 2, 1) := by decide +kernel
theorem dX8_least_22 : decode cX8_least 22 = .ok (.iload_n 2, 1) := by decide +kernel
theorem dX8_least_23 : decode cX8_least 23 = .ok (.ifCond .lt 29, 3) := by decide +kernel
theorem dX8_least_26 : decode cX8_least 26 = .ok (.aload_n 0, 1) := by decide +kernel
theorem dX8_least_27 : decode cX8_least 27 = .ok (.getfield 35, 3) := by decide +kernel
theorem dX8_least_30 : decode cX8_least 30 = .ok (.iload_n 2, 1) := by decide +kernel
theorem dX8_least_31 : decode cX8_least 31 = .ok (.iload_n 1, 1) := by decide +kernel
theorem dX8_least_32 : decode cX8_least 32 = .ok (.invokevirtual 198, 3) := by decide +kernel
theorem dX8_least_35 : decode cX8_least 35 = .ok (.ifCond .ne 11, 3) := by decide +kernel
theorem dX8_least_38 : decode cX8_least 38 = .ok (.iload_n 1, 1) := by decide +kernel
theorem dX8_least_39 : decode cX8_least 39 = .ok (.iconst 1, 1) := by decide +kernel
theorem dX8_least_40 : decode cX8_least 40 = .ok (.iload_n 2, 1) := by decide +kernel
theorem dX8_least_41 : decode cX8_least 41 = .ok (.ishl, 1) := by decide +kernel
theorem dX8_least_42 : decode cX8_least 42 = .ok (.iconst (-1), 1) := by decide +kernel
theorem dX8_least_43 : decode cX8_least 43 = .ok (.ixor, 1) := by decide +kernel
theorem dX8_least_44 : decode cX8_least 44 = .ok (.iand, 1) := by decide +kernel
theorem dX8_least_45 : decode cX8_least 45 = .ok (.istore_n 1, 1) := by decide +kernel
theorem dX8_least_46 : decode cX8_least 46 = .ok (.iinc 2 (-1), 3) := by decide +kernel
theorem dX8_least_49 : decode cX8_least 49 = .ok (.goto (-27), 3) := by decide +kernel
theorem dX8_least_52 : decode cX8_least 52 = .ok (.iload_n 1, 1) := by decide +kernel
theorem dX8_least_53 : decode cX8_least 53 = .ok (.ireturn, 1) := by decide +kernel
theorem dX8_even_0 : decode cX8_even 0 = .ok (.aload_n 0, 1) := by decide +kernel
theorem dX8_even_1 : decode cX8_even 1 = .ok (.invokevirtual 103, 3) := by decide +kernel
theorem dX8_even_4 : decode cX8_even 4 = .ok (.aload_n 0, 1) := by decide +kernel
theorem dX8_even_5 : decode cX8_even 5 = .ok (.getfield 35, 3) := by decide +kernel
theorem dX8_even_8 : decode cX8_even 8 = .ok (.aload_n 0, 1) := by decide +kernel
theorem dX8_even_9 : decode cX8_even 9 = .ok (.getfield 19, 3) := by decide +kernel
theorem dX8_even_12 : decode cX8_even 12 = .ok (.invokevirtual 106, 3) := by decide +kernel
theorem dX8_even_15 : decode cX8_even 15 = .ok (.invokevirtual 201, 3) := by decide +kernel
theorem dX8_even_18 : decode cX8_even 18 = .ok (.ifCond .eq 7, 3) := by decide +kernel
theorem dX8_even_21 : decode cX8_even 21 = .ok (.iconst 1, 1) := by decide +kernel
theorem dX8_even_22 : decode cX8_even 22 = .ok (.goto 4, 3) := by decide +kernel
theorem dX8_even_25 : decode cX8_even 25 = .ok (.iconst 0, 1) := by decide +kernel
theorem dX8_even_26 : decode cX8_even 26 = .ok (.ireturn, 1) := by decide +kernel
theorem dX8_keep_0 : decode cX8_keep 0 = .ok (.iload_n 1, 1) := by decide +kernel
theorem dX8_keep_1 : decode cX8_keep 1 = .ok (.invokestatic 204, 3) := by decide +kernel
theorem dX8_keep_4 : decode cX8_keep 4 = .ok (.ifCond .ne 5, 3) := by decide +kernel
theorem dX8_keep_7 : decode cX8_keep 7 = .ok (.iconst (-1), 1) := by decide +kernel
theorem dX8_keep_8 : decode cX8_keep 8 = .ok (.ireturn, 1) := by decide +kernel
theorem dX8_keep_9 : decode cX8_keep 9 = .ok (.aload_n 0, 1) := by decide +kernel
theorem dX8_keep_10 : decode cX8_keep 10 = .ok (.invokevirtual 103, 3) := by decide +kernel
theorem dX8_keep_13 : decode cX8_keep 13 = .ok (.aload_n 0, 1) := by decide +kernel
theorem dX8_keep_14 : decode cX8_keep 14 = .ok (.getfield 35, 3) := by decide +kernel
theorem dX8_keep_17 : decode cX8_keep 17 = .ok (.iload_n 1, 1) := by decide +kernel
theorem dX8_keep_18 : decode cX8_keep 18 = .ok (.aload_n 0, 1) := by decide +kernel
theorem dX8_keep_19 : decode cX8_keep 19 = .ok (.getfield 19, 3) := by decide +kernel
theorem dX8_keep_22 : decode cX8_keep 22 = .ok (.invokevirtual 106, 3) := by decide +kernel
theorem dX8_keep_25 : decode cX8_keep 25 = .ok (.invokevirtual 207, 3) := by decide +kernel
theorem dX8_keep_28 : decode cX8_keep 28 = .ok (.aload_n 0, 1) := by decide +kernel
theorem dX8_keep_29 : decode cX8_keep 29 = .ok (.getfield 19, 3) := by decide +kernel
theorem dX8_keep_32 : decode cX8_keep 32 = .ok (.getfield 96, 3) := by decide +kernel
theorem dX8_keep_35 : decode cX8_keep 35 = .ok (.ireturn, 1) := by decide +kernel
theorem dX8_same_0 : decode cX8_same 0 = .ok (.iload_n 1, 1) := by decide +kernel
theorem dX8_same_1 : decode cX8_same 1 = .ok (.invokestatic 204, 3) := by decide +kernel
theorem dX8_same_4 : decode cX8_same 4 = .ok (.ifCond .ne 5, 3) := by decide +kernel
theorem dX8_same_7 : decode cX8_same 7 = .ok (.iconst (-1), 1) := by decide +kernel
theorem dX8_same_8 : decode cX8_same 8 = .ok (.ireturn, 1) := by decide +kernel
theorem dX8_same_9 : decode cX8_same 9 = .ok (.aload_n 0, 1) := by decide +kernel
theorem dX8_same_10 : decode cX8_same 10 = .ok (.invokevirtual 103, 3) := by decide +kernel
theorem dX8_same_13 : decode cX8_same 13 = .ok (.aload_n 0, 1) := by decide +kernel
theorem dX8_same_14 : decode cX8_same 14 = .ok (.getfield 35, 3) := by decide +kernel
theorem dX8_same_17 : decode cX8_same 17 = .ok (.iload_n 1, 1) := by decide +kernel
theorem dX8_same_18 : decode cX8_same 18 = .ok (.aload_n 0, 1) := by decide +kernel
theorem dX8_same_19 : decode cX8_same 19 = .ok (.getfield 19, 3) := by decide +kernel
theorem dX8_same_22 : decode cX8_same 22 = .ok (.invokevirtual 106, 3) := by decide +kernel
theorem dX8_same_25 : decode cX8_same 25 = .ok (.iconst 0, 1) := by decide +kernel
theorem dX8_same_26 : decode cX8_same 26 = .ok (.invokevirtual 210, 3) := by decide +kernel
theorem dX8_same_29 : decode cX8_same 29 = .ok (.ifCond .eq 5, 3) := by decide +kernel
theorem dX8_same_32 : decode cX8_same 32 = .ok (.iconst 1, 1) := by decide +kernel
theorem dX8_same_33 : decode cX8_same 33 = .ok (.ireturn, 1) := by decide +kernel
theorem dX8_same_34 : decode cX8_same 34 = .ok (.aload_n 0, 1) := by decide +kernel
theorem dX8_same_35 : decode cX8_same 35 = .ok (.getfield 35, 3) := by decide +kernel
theorem dX8_same_38 : decode cX8_same 38 = .ok (.iload_n 1, 1) := by decide +kernel
theorem dX8_same_39 : decode cX8_same 39 = .ok (.aload_n 0, 1) := by decide +kernel
theorem dX8_same_40 : decode cX8_same 40 = .ok (.getfield 19, 3) := by decide +kernel
theorem dX8_same_43 : decode cX8_same 43 = .ok (.invokevirtual 106, 3) := by decide +kernel
theorem dX8_same_46 : decode cX8_same 46 = .ok (.iconst 1, 1) := by decide +kernel
theorem dX8_same_47 : decode cX8_same 47 = .ok (.invokevirtual 210, 3) := by decide +kernel
theorem dX8_same_50 : decode cX8_same 50 = .ok (.ifCond .eq 7, 3) := by decide +kernel
theorem dX8_same_53 : decode cX8_same 53 = .ok (.iconst 2, 1) := by decide +kernel
theorem dX8_same_54 : decode cX8_same 54 = .ok (.goto 4, 3) := by decide +kernel
theorem dX8_same_57 : decode cX8_same 57 = .ok (.iconst 0, 1) := by decide +kernel
theorem dX8_same_58 : decode cX8_same 58 = .ok (.ireturn, 1) := by decide +kernel
theorem dX8_shown_0 : decode cX8_shown 0 = .ok (.aload_n 0, 1) := by decide +kernel
theorem dX8_shown_1 : decode cX8_shown 1 = .ok (.getfield 10, 3) := by decide +kernel
theorem dX8_shown_4 : decode cX8_shown 4 = .ok (.iload_n 1, 1) := by decide +kernel
theorem dX8_shown_5 : decode cX8_shown 5 = .ok (.invokevirtual 72, 3) := by decide +kernel
theorem dX8_shown_8 : decode cX8_shown 8 = .ok (.ifCond .eq 14, 3) := by decide +kernel
theorem dX8_shown_11 : decode cX8_shown 11 = .ok (.aload_n 0, 1) := by decide +kernel
theorem dX8_shown_12 : decode cX8_shown 12 = .ok (.getfield 10, 3) := by decide +kernel
theorem dX8_shown_15 : decode cX8_shown 15 = .ok (.iload_n 2, 1) := by decide +kernel
theorem dX8_shown_16 : decode cX8_shown 16 = .ok (.invokevirtual 72, 3) := by decide +kernel
theorem dX8_shown_19 : decode cX8_shown 19 = .ok (.ifCond .ne 5, 3) := by decide +kernel
theorem dX8_shown_22 : decode cX8_shown 22 = .ok (.iconst (-1), 1) := by decide +kernel
theorem dX8_shown_23 : decode cX8_shown 23 = .ok (.ireturn, 1) := by decide +kernel
theorem dX8_shown_24 : decode cX8_shown 24 = .ok (.aload_n 0, 1) := by decide +kernel
theorem dX8_shown_25 : decode cX8_shown 25 = .ok (.getfield 58, 3) := by decide +kernel
theorem dX8_shown_28 : decode cX8_shown 28 = .ok (.aload_n 0, 1) := by decide +kernel
theorem dX8_shown_29 : decode cX8_shown 29 = .ok (.getfield 10, 3) := by decide +kernel
theorem dX8_shown_32 : decode cX8_shown 32 = .ok (.aload_n 0, 1) := by decide +kernel
theorem dX8_shown_33 : decode cX8_shown 33 = .ok (.getfield 19, 3) := by decide +kernel
theorem dX8_shown_36 : decode cX8_shown 36 = .ok (.invokevirtual 214, 3) := by decide +kernel
theorem dX8_shown_39 : decode cX8_shown 39 = .ok (.aload_n 0, 1) := by decide +kernel
theorem dX8_shown_40 : decode cX8_shown 40 = .ok (.getfield 58, 3) := by decide +kernel
theorem dX8_shown_43 : decode cX8_shown 43 = .ok (.iload_n 1, 1) := by decide +kernel
theorem dX8_shown_44 : decode cX8_shown 44 = .ok (.iload_n 2, 1) := by decide +kernel
theorem dX8_shown_45 : decode cX8_shown 45 = .ok (.invokevirtual 217, 3) := by decide +kernel
theorem dX8_shown_48 : decode cX8_shown 48 = .ok (.ireturn, 1) := by decide +kernel
theorem dX8_groups_0 : decode cX8_groups 0 = .ok (.aload_n 0, 1) := by decide +kernel
theorem dX8_groups_1 : decode cX8_groups 1 = .ok (.getfield 58, 3) := by decide +kernel
theorem dX8_groups_4 : decode cX8_groups 4 = .ok (.aload_n 0, 1) := by decide +kernel
theorem dX8_groups_5 : decode cX8_groups 5 = .ok (.getfield 10, 3) := by decide +kernel
theorem dX8_groups_8 : decode cX8_groups 8 = .ok (.aload_n 0, 1) := by decide +kernel
theorem dX8_groups_9 : decode cX8_groups 9 = .ok (.getfield 19, 3) := by decide +kernel
theorem dX8_groups_12 : decode cX8_groups 12 = .ok (.invokevirtual 214, 3) := by decide +kernel
theorem dX8_groups_15 : decode cX8_groups 15 = .ok (.aload_n 0, 1) := by decide +kernel
theorem dX8_groups_16 : decode cX8_groups 16 = .ok (.getfield 58, 3) := by decide +kernel
theorem dX8_groups_19 : decode cX8_groups 19 = .ok (.aload_n 0, 1) := by decide +kernel
theorem dX8_groups_20 : decode cX8_groups 20 = .ok (.getfield 10, 3) := by decide +kernel
theorem dX8_groups_23 : decode cX8_groups 23 = .ok (.getfield 220, 3) := by decide +kernel
theorem dX8_groups_26 : decode cX8_groups 26 = .ok (.invokevirtual 221, 3) := by decide +kernel
theorem dX8_groups_29 : decode cX8_groups 29 = .ok (.ireturn, 1) := by decide +kernel
theorem dX8_first_0 : decode cX8_first 0 = .ok (.aload_n 0, 1) := by decide +kernel
theorem dX8_first_1 : decode cX8_first 1 = .ok (.getfield 10, 3) := by decide +kernel
theorem dX8_first_4 : decode cX8_first 4 = .ok (.iload_n 1, 1) := by decide +kernel
theorem dX8_first_5 : decode cX8_first 5 = .ok (.invokevirtual 72, 3) := by decide +kernel
theorem dX8_first_8 : decode cX8_first 8 = .ok (.ifCond .ne 5, 3) := by decide +kernel
theorem dX8_first_11 : decode cX8_first 11 = .ok (.iconst (-1), 1) := by decide +kernel
theorem dX8_first_12 : decode cX8_first 12 = .ok (.ireturn, 1) := by decide +kernel
theorem dX8_first_13 : decode cX8_first 13 = .ok (.aload_n 0, 1) := by decide +kernel
theorem dX8_first_14 : decode cX8_first 14 = .ok (.getfield 58, 3) := by decide +kernel
theorem dX8_first_17 : decode cX8_first 17 = .ok (.aload_n 0, 1) := by decide +kernel
theorem dX8_first_18 : decode cX8_first 18 = .ok (.getfield 10, 3) := by decide +kernel
theorem dX8_first_21 : decode cX8_first 21 = .ok (.aload_n 0, 1) := by decide +kernel
theorem dX8_first_22 : decode cX8_first 22 = .ok (.getfield 19, 3) := by decide +kernel
theorem dX8_first_25 : decode cX8_first 25 = .ok (.invokevirtual 214, 3) := by decide +kernel
theorem dX8_first_28 : decode cX8_first 28 = .ok (.aload_n 0, 1) := by decide +kernel
theorem dX8_first_29 : decode cX8_first 29 = .ok (.getfield 58, 3) := by decide +kernel
theorem dX8_first_32 : decode cX8_first 32 = .ok (.getfield 224, 3) := by decide +kernel
theorem dX8_first_35 : decode cX8_first 35 = .ok (.iload_n 1, 1) := by decide +kernel
theorem dX8_first_36 : decode cX8_first 36 = .ok (.iaload, 1) := by decide +kernel
theorem dX8_first_37 : decode cX8_first 37 = .ok (.ireturn, 1) := by decide +kernel
theorem dX8_count_0 : decode cX8_count 0 = .ok (.iload_n 1, 1) := by decide +kernel
theorem dX8_count_1 : decode cX8_count 1 = .ok (.tableswitch 90 0 4 #[35, 43, 51, 59, 67], 35) := by decide +kernel
theorem dX8_count_36 : decode cX8_count 36 = .ok (.aload_n 0, 1) := by decide +kernel
theorem dX8_count_37 : decode cX8_count 37 = .ok (.getfield 10, 3) := by decide +kernel
theorem dX8_count_40 : decode cX8_count 40 = .ok (.getfield 220, 3) := by decide +kernel
theorem dX8_count_43 : decode cX8_count 43 = .ok (.ireturn, 1) := by decide +kernel
theorem dX8_count_44 : decode cX8_count 44 = .ok (.aload_n 0, 1) := by decide +kernel
theorem dX8_count_45 : decode cX8_count 45 = .ok (.getfield 19, 3) := by decide +kernel
theorem dX8_count_48 : decode cX8_count 48 = .ok (.getfield 96, 3) := by decide +kernel
theorem dX8_count_51 : decode cX8_count 51 = .ok (.ireturn, 1) := by decide +kernel
theorem dX8_count_52 : decode cX8_count 52 = .ok (.aload_n 0, 1) := by decide +kernel
theorem dX8_count_53 : decode cX8_count 53 = .ok (.getfield 42, 3) := by decide +kernel
theorem dX8_count_56 : decode cX8_count 56 = .ok (.getfield 194, 3) := by decide +kernel
theorem dX8_count_59 : decode cX8_count 59 = .ok (.ireturn, 1) := by decide +kernel
theorem dX8_count_60 : decode cX8_count 60 = .ok (.aload_n 0, 1) := by decide +kernel
theorem dX8_count_61 : decode cX8_count 61 = .ok (.getfield 42, 3) := by decide +kernel
theorem dX8_count_64 : decode cX8_count 64 = .ok (.invokevirtual 227, 3) := by decide +kernel
theorem dX8_count_67 : decode cX8_count 67 = .ok (.ireturn, 1) := by decide +kernel
theorem dX8_count_68 : decode cX8_count 68 = .ok (.aload_n 0, 1) := by decide +kernel
theorem dX8_count_69 : decode cX8_count 69 = .ok (.getfield 58, 3) := by decide +kernel
theorem dX8_count_72 : decode cX8_count 72 = .ok (.aload_n 0, 1) := by decide +kernel
theorem dX8_count_73 : decode cX8_count 73 = .ok (.getfield 10, 3) := by decide +kernel
theorem dX8_count_76 : decode cX8_count 76 = .ok (.aload_n 0, 1) := by decide +kernel
theorem dX8_count_77 : decode cX8_count 77 = .ok (.getfield 19, 3) := by decide +kernel
theorem dX8_count_80 : decode cX8_count 80 = .ok (.invokevirtual 214, 3) := by decide +kernel
theorem dX8_count_83 : decode cX8_count 83 = .ok (.aload_n 0, 1) := by decide +kernel
theorem dX8_count_84 : decode cX8_count 84 = .ok (.getfield 58, 3) := by decide +kernel
theorem dX8_count_87 : decode cX8_count 87 = .ok (.getfield 230, 3) := by decide +kernel
theorem dX8_count_90 : decode cX8_count 90 = .ok (.ireturn, 1) := by decide +kernel
theorem dX8_count_91 : decode cX8_count 91 = .ok (.bipush (-2), 2) := by decide +kernel
theorem dX8_count_93 : decode cX8_count 93 = .ok (.ireturn, 1) := by decide +kernel
theorem dX8_isSize_0 : decode cX8_isSize 0 = .ok (.iload_n 0, 1) := by decide +kernel
theorem dX8_isSize_1 : decode cX8_isSize 1 = .ok (.iconst 1, 1) := by decide +kernel
theorem dX8_isSize_2 : decode cX8_isSize 2 = .ok (.if_icmp .lt 12, 3) := by decide +kernel
theorem dX8_isSize_5 : decode cX8_isSize 5 = .ok (.iload_n 0, 1) := by decide +kernel
theorem dX8_isSize_6 : decode cX8_isSize 6 = .ok (.iconst 3, 1) := by decide +kernel
theorem dX8_isSize_7 : decode cX8_isSize 7 = .ok (.if_icmp .gt 7, 3) := by decide +kernel
theorem dX8_isSize_10 : decode cX8_isSize 10 = .ok (.iconst 1, 1) := by decide +kernel
theorem dX8_isSize_11 : decode cX8_isSize 11 = .ok (.goto 4, 3) := by decide +kernel
theorem dX8_isSize_14 : decode cX8_isSize 14 = .ok (.iconst 0, 1) := by decide +kernel
theorem dX8_isSize_15 : decode cX8_isSize 15 = .ok (.ireturn, 1) := by decide +kernel
theorem dX8_isWorld_0 : decode cX8_isWorld 0 = .ok (.iload_n 0, 1) := by decide +kernel
theorem dX8_isWorld_1 : decode cX8_isWorld 1 = .ok (.invokestatic 100, 3) := by decide +kernel
theorem dX8_isWorld_4 : decode cX8_isWorld 4 = .ok (.ifCond .eq 20, 3) := by decide +kernel
theorem dX8_isWorld_7 : decode cX8_isWorld 7 = .ok (.iload_n 1, 1) := by decide +kernel
theorem dX8_isWorld_8 : decode cX8_isWorld 8 = .ok (.ifCond .lt 16, 3) := by decide +kernel
theorem dX8_isWorld_11 : decode cX8_isWorld 11 = .ok (.iload_n 1, 1) := by decide +kernel
theorem dX8_isWorld_12 : decode cX8_isWorld 12 = .ok (.getstatic 233, 3) := by decide +kernel
theorem dX8_isWorld_15 : decode cX8_isWorld 15 = .ok (.iload_n 0, 1) := by decide +kernel
theorem dX8_isWorld_16 : decode cX8_isWorld 16 = .ok (.iaload, 1) := by decide +kernel
theorem dX8_isWorld_17 : decode cX8_isWorld 17 = .ok (.if_icmp .ge 7, 3) := by decide +kernel
theorem dX8_isWorld_20 : decode cX8_isWorld 20 = .ok (.iconst 1, 1) := by decide +kernel
theorem dX8_isWorld_21 : decode cX8_isWorld 21 = .ok (.goto 4, 3) := by decide +kernel
theorem dX8_isWorld_24 : decode cX8_isWorld 24 = .ok (.iconst 0, 1) := by decide +kernel
theorem dX8_isWorld_25 : decode cX8_isWorld 25 = .ok (.ireturn, 1) := by decide +kernel
theorem dX8_isSlot_0 : decode cX8_isSlot 0 = .ok (.iload_n 0, 1) := by decide +kernel
theorem dX8_isSlot_1 : decode cX8_isSlot 1 = .ok (.ifCond .lt 12, 3) := by decide +kernel
theorem dX8_isSlot_4 : decode cX8_isSlot 4 = .ok (.iload_n 0, 1) := by decide +kernel
theorem dX8_isSlot_5 : decode cX8_isSlot 5 = .ok (.iconst 2, 1) := by decide +kernel
theorem dX8_isSlot_6 : decode cX8_isSlot 6 = .ok (.if_icmp .ge 7, 3) := by decide +kernel
theorem dX8_isSlot_9 : decode cX8_isSlot 9 = .ok (.iconst 1, 1) := by decide +kernel
theorem dX8_isSlot_10 : decode cX8_isSlot 10 = .ok (.goto 4, 3) := by decide +kernel
theorem dX8_isSlot_13 : decode cX8_isSlot 13 = .ok (.iconst 0, 1) := by decide +kernel
theorem dX8_isSlot_14 : decode cX8_isSlot 14 = .ok (.ireturn, 1) := by decide +kernel
theorem dX8_isMadeOf_0 : decode cX8_isMadeOf 0 = .ok (.iload_n 1, 1) := by decide +kernel
theorem dX8_isMadeOf_1 : decode cX8_isMadeOf 1 = .ok (.ifCond .ne 14, 3) := by decide +kernel
theorem dX8_isMadeOf_4 : decode cX8_isMadeOf 4 = .ok (.aload_n 0, 1) := by decide +kernel
theorem dX8_isMadeOf_5 : decode cX8_isMadeOf 5 = .ok (.getfield 10, 3) := by decide +kernel
theorem dX8_isMadeOf_8 : decode cX8_isMadeOf 8 = .ok (.iload_n 2, 1) := by decide +kernel
theorem dX8_isMadeOf_9 : decode cX8_isMadeOf 9 = .ok (.invokevirtual 72, 3) := by decide +kernel
theorem dX8_isMadeOf_12 : decode cX8_isMadeOf 12 = .ok (.goto 11, 3) := by decide +kernel
theorem dX8_isMadeOf_15 : decode cX8_isMadeOf 15 = .ok (.aload_n 0, 1) := by decide +kernel
theorem dX8_isMadeOf_16 : decode cX8_isMadeOf 16 = .ok (.getfield 42, 3) := by decide +kernel
theorem dX8_isMadeOf_19 : decode cX8_isMadeOf 19 = .ok (.iload_n 2, 1) := by decide +kernel
theorem dX8_isMadeOf_20 : decode cX8_isMadeOf 20 = .ok (.invokevirtual 152, 3) := by decide +kernel
theorem dX8_isMadeOf_23 : decode cX8_isMadeOf 23 = .ok (.ireturn, 1) := by decide +kernel
theorem dX8_pageChanged_0 : decode cX8_pageChanged 0 = .ok (.aload_n 0, 1) := by decide +kernel
theorem dX8_pageChanged_1 : decode cX8_pageChanged 1 = .ok (.getfield 35, 3) := by decide +kernel
theorem dX8_pageChanged_4 : decode cX8_pageChanged 4 = .ok (.aload_n 0, 1) := by decide +kernel
theorem dX8_pageChanged_5 : decode cX8_pageChanged 5 = .ok (.getfield 19, 3) := by decide +kernel
theorem dX8_pageChanged_8 : decode cX8_pageChanged 8 = .ok (.getfield 96, 3) := by decide +kernel
theorem dX8_pageChanged_11 : decode cX8_pageChanged 11 = .ok (.invokevirtual 236, 3) := by decide +kernel
theorem dX8_pageChanged_14 : decode cX8_pageChanged 14 = .ok (.aload_n 0, 1) := by decide +kernel
theorem dX8_pageChanged_15 : decode cX8_pageChanged 15 = .ok (.getfield 51, 3) := by decide +kernel
theorem dX8_pageChanged_18 : decode cX8_pageChanged 18 = .ok (.invokevirtual 240, 3) := by decide +kernel
theorem dX8_pageChanged_21 : decode cX8_pageChanged 21 = .ok (.aload_n 0, 1) := by decide +kernel
theorem dX8_pageChanged_22 : decode cX8_pageChanged 22 = .ok (.getfield 58, 3) := by decide +kernel
theorem dX8_pageChanged_25 : decode cX8_pageChanged 25 = .ok (.invokevirtual 83, 3) := by decide +kernel
theorem dX8_pageChanged_28 : decode cX8_pageChanged 28 = .ok (.return_, 1) := by decide +kernel
theorem dX8_settle_0 : decode cX8_settle 0 = .ok (.aload_n 0, 1) := by decide +kernel
theorem dX8_settle_1 : decode cX8_settle 1 = .ok (.getfield 35, 3) := by decide +kernel
theorem dX8_settle_4 : decode cX8_settle 4 = .ok (.aload_n 0, 1) := by decide +kernel
theorem dX8_settle_5 : decode cX8_settle 5 = .ok (.getfield 10, 3) := by decide +kernel
theorem dX8_settle_8 : decode cX8_settle 8 = .ok (.aload_n 0, 1) := by decide +kernel
theorem dX8_settle_9 : decode cX8_settle 9 = .ok (.getfield 19, 3) := by decide +kernel
theorem dX8_settle_12 : decode cX8_settle 12 = .ok (.invokevirtual 241, 3) := by decide +kernel
theorem dX8_settle_15 : decode cX8_settle 15 = .ok (.aload_n 0, 1) := by decide +kernel
theorem dX8_settle_16 : decode cX8_settle 16 = .ok (.getfield 51, 3) := by decide +kernel
theorem dX8_settle_19 : decode cX8_settle 19 = .ok (.aload_n 0, 1) := by decide +kernel
theorem dX8_settle_20 : decode cX8_settle 20 = .ok (.getfield 19, 3) := by decide +kernel
theorem dX8_settle_23 : decode cX8_settle 23 = .ok (.invokevirtual 106, 3) := by decide +kernel
theorem dX8_settle_26 : decode cX8_settle 26 = .ok (.invokevirtual 242, 3) := by decide +kernel
theorem dX8_settle_29 : decode cX8_settle 29 = .ok (.return_, 1) := by decide +kernel
theorem dX8_firstBroken_0 : decode cX8_firstBroken 0 = .ok (.aload_n 0, 1) := by decide +kernel
theorem dX8_firstBroken_1 : decode cX8_firstBroken 1 = .ok (.getfield 26, 3) := by decide +kernel
theorem dX8_firstBroken_4 : decode cX8_firstBroken 4 = .ok (.iload_n 1, 1) := by decide +kernel
theorem dX8_firstBroken_5 : decode cX8_firstBroken 5 = .ok (.iload_n 2, 1) := by decide +kernel
theorem dX8_firstBroken_6 : decode cX8_firstBroken 6 = .ok (.invokevirtual 125, 3) := by decide +kernel
theorem dX8_firstBroken_9 : decode cX8_firstBroken 9 = .ok (.iconst 0, 1) := by decide +kernel
theorem dX8_firstBroken_10 : decode cX8_firstBroken 10 = .ok (.istore_n 3, 1) := by decide +kernel
theorem dX8_firstBroken_11 : decode cX8_firstBroken 11 = .ok (.iload_n 3, 1) := by decide +kernel
theorem dX8_firstBroken_12 : decode cX8_firstBroken 12 = .ok (.aload_n 0, 1) := by decide +kernel
theorem dX8_firstBroken_13 : decode cX8_firstBroken 13 = .ok (.getfield 19, 3) := by decide +kernel
theorem dX8_firstBroken_16 : decode cX8_firstBroken 16 = .ok (.getfield 96, 3) := by decide +kernel
theorem dX8_firstBroken_19 : decode cX8_firstBroken 19 = .ok (.if_icmp .ge 43, 3) := by decide +kernel
theorem dX8_firstBroken_22 : decode cX8_firstBroken 22 = .ok (.aload_n 0, 1) := by decide +kernel
theorem dX8_firstBroken_23 : decode cX8_firstBroken 23 = .ok (.getfield 26, 3) := by decide +kernel
theorem dX8_firstBroken_26 : decode cX8_firstBroken 26 = .ok (.aload_n 0, 1) := by decide +kernel
theorem dX8_firstBroken_27 : decode cX8_firstBroken 27 = .ok (.getfield 10, 3) := by decide +kernel
theorem dX8_firstBroken_30 : decode cX8_firstBroken 30 = .ok (.aload_n 0, 1) := by decide +kernel
theorem dX8_firstBroken_31 : decode cX8_firstBroken 31 = .ok (.getfield 19, 3) := by decide +kernel
theorem dX8_firstBroken_34 : decode cX8_firstBroken 34 = .ok (.getfield 244, 3) := by decide +kernel
theorem dX8_firstBroken_37 : decode cX8_firstBroken 37 = .ok (.iload_n 3, 1) := by decide +kernel
theorem dX8_firstBroken_38 : decode cX8_firstBroken 38 = .ok (.iaload, 1) := by decide +kernel
theorem dX8_firstBroken_39 : decode cX8_firstBroken 39 = .ok (.aload_n 0, 1) := by decide +kernel
theorem dX8_firstBroken_40 : decode cX8_firstBroken 40 = .ok (.getfield 19, 3) := by decide +kernel
theorem dX8_firstBroken_43 : decode cX8_firstBroken 43 = .ok (.getfield 245, 3) := by decide +kernel
theorem dX8_firstBroken_46 : decode cX8_firstBroken 46 = .ok (.iload_n 3, 1) := by decide +kernel
theorem dX8_firstBroken_47 : decode cX8_firstBroken 47 = .ok (.iaload, 1) := by decide +kernel
theorem dX8_firstBroken_48 : decode cX8_firstBroken 48 = .ok (.invokevirtual 246, 3) := by decide +kernel
theorem dX8_firstBroken_51 : decode cX8_firstBroken 51 = .ok (.ifCond .ne 5, 3) := by decide +kernel
theorem dX8_firstBroken_54 : decode cX8_firstBroken 54 = .ok (.iload_n 3, 1) := by decide +kernel
theorem dX8_firstBroken_55 : decode cX8_firstBroken 55 = .ok (.ireturn, 1) := by decide +kernel
theorem dX8_firstBroken_56 : decode cX8_firstBroken 56 = .ok (.iinc 3 1, 3) := by decide +kernel
theorem dX8_firstBroken_59 : decode cX8_firstBroken 59 = .ok (.goto (-48), 3) := by decide +kernel
theorem dX8_firstBroken_62 : decode cX8_firstBroken 62 = .ok (.bipush (-9), 2) := by decide +kernel
theorem dX8_firstBroken_64 : decode cX8_firstBroken 64 = .ok (.ireturn, 1) := by decide +kernel
theorem dX8_worthOf_0 : decode cX8_worthOf 0 = .ok (.aload_n 0, 1) := by decide +kernel
theorem dX8_worthOf_1 : decode cX8_worthOf 1 = .ok (.getfield 62, 3) := by decide +kernel
theorem dX8_worthOf_4 : decode cX8_worthOf 4 = .ok (.iconst 0, 1) := by decide +kernel
theorem dX8_worthOf_5 : decode cX8_worthOf 5 = .ok (.iaload, 1) := by decide +kernel
theorem dX8_worthOf_6 : decode cX8_worthOf 6 = .ok (.aload_n 0, 1) := by decide +kernel
theorem dX8_worthOf_7 : decode cX8_worthOf 7 = .ok (.getfield 51, 3) := by decide +kernel
theorem dX8_worthOf_10 : decode cX8_worthOf 10 = .ok (.aload_n 0, 1) := by decide +kernel
theorem dX8_worthOf_11 : decode cX8_worthOf 11 = .ok (.getfield 51, 3) := by decide +kernel
theorem dX8_worthOf_14 : decode cX8_worthOf 14 = .ok (.iload_n 1, 1) := by decide +kernel
theorem dX8_worthOf_15 : decode cX8_worthOf 15 = .ok (.invokevirtual 156, 3) := by decide +kernel
theorem dX8_worthOf_18 : decode cX8_worthOf 18 = .ok (.invokevirtual 182, 3) := by decide +kernel
theorem dX8_worthOf_21 : decode cX8_worthOf 21 = .ok (.imul, 1) := by decide +kernel
theorem dX8_worthOf_22 : decode cX8_worthOf 22 = .ok (.aload_n 0, 1) := by decide +kernel
theorem dX8_worthOf_23 : decode cX8_worthOf 23 = .ok (.getfield 62, 3) := by decide +kernel
theorem dX8_worthOf_26 : decode cX8_worthOf 26 = .ok (.iconst 1, 1) := by decide +kernel
theorem dX8_worthOf_27 : decode cX8_worthOf 27 = .ok (.iaload, 1) := by decide +kernel
theorem dX8_worthOf_28 : decode cX8_worthOf 28 = .ok (.aload_n 0, 1) := by decide +kernel
theorem dX8_worthOf_29 : decode cX8_worthOf 29 = .ok (.getfield 51, 3) := by decide +kernel
theorem dX8_worthOf_32 : decode cX8_worthOf 32 = .ok (.iload_n 1, 1) := by decide +kernel
theorem dX8_worthOf_33 : decode cX8_worthOf 33 = .ok (.invokevirtual 185, 3) := by decide +kernel
theorem dX8_worthOf_36 : decode cX8_worthOf 36 = .ok (.imul, 1) := by decide +kernel
theorem dX8_worthOf_37 : decode cX8_worthOf 37 = .ok (.iadd, 1) := by decide +kernel
theorem dX8_worthOf_38 : decode cX8_worthOf 38 = .ok (.aload_n 0, 1) := by decide +kernel
theorem dX8_worthOf_39 : decode cX8_worthOf 39 = .ok (.getfield 62, 3) := by decide +kernel
theorem dX8_worthOf_42 : decode cX8_worthOf 42 = .ok (.iconst 2, 1) := by decide +kernel
theorem dX8_worthOf_43 : decode cX8_worthOf 43 = .ok (.iaload, 1) := by decide +kernel
theorem dX8_worthOf_44 : decode cX8_worthOf 44 = .ok (.aload_n 0, 1) := by decide +kernel
theorem dX8_worthOf_45 : decode cX8_worthOf 45 = .ok (.getfield 42, 3) := by decide +kernel
theorem dX8_worthOf_48 : decode cX8_worthOf 48 = .ok (.getfield 188, 3) := by decide +kernel
theorem dX8_worthOf_51 : decode cX8_worthOf 51 = .ok (.iload_n 1, 1) := by decide +kernel
theorem dX8_worthOf_52 : decode cX8_worthOf 52 = .ok (.iaload, 1) := by decide +kernel
theorem dX8_worthOf_53 : decode cX8_worthOf 53 = .ok (.imul, 1) := by decide +kernel
theorem dX8_worthOf_54 : decode cX8_worthOf 54 = .ok (.isub, 1) := by decide +kernel
theorem dX8_worthOf_55 : decode cX8_worthOf 55 = .ok (.ireturn, 1) := by decide +kernel
theorem dX9_init_0 : decode cX9_init 0 = .ok (.aload_n 0, 1) := by decide +kernel
theorem dX9_init_1 : decode cX9_init 1 = .ok (.invokespecial 1, 3) := by decide +kernel
theorem dX9_init_4 : decode cX9_init 4 = .ok (.aload_n 0, 1) := by decide +kernel
theorem dX9_init_5 : decode cX9_init 5 = .ok (.iconst 3, 1) := by decide +kernel
theorem dX9_init_6 : decode cX9_init 6 = .ok (.putfield 7, 3) := by decide +kernel
theorem dX9_init_9 : decode cX9_init 9 = .ok (.aload_n 0, 1) := by decide +kernel
theorem dX9_init_10 : decode cX9_init 10 = .ok (.bipush 20, 2) := by decide +kernel
theorem dX9_init_12 : decode cX9_init 12 = .ok (.newarray .int, 2) := by decide +kernel
theorem dX9_init_14 : decode cX9_init 14 = .ok (.putfield 13, 3) := by decide +kernel
theorem dX9_init_17 : decode cX9_init 17 = .ok (.aload_n 0, 1) := by decide +kernel
theorem dX9_init_18 : decode cX9_init 18 = .ok (.bipush 20, 2) := by decide +kernel
theorem dX9_init_20 : decode cX9_init 20 = .ok (.newarray .int, 2) := by decide +kernel
theorem dX9_init_22 : decode cX9_init 22 = .ok (.putfield 17, 3) := by decide +kernel
theorem dX9_init_25 : decode cX9_init 25 = .ok (.aload_n 0, 1) := by decide +kernel
theorem dX9_init_26 : decode cX9_init 26 = .ok (.sipush 400, 3) := by decide +kernel
theorem dX9_init_29 : decode cX9_init 29 = .ok (.newarray .int, 2) := by decide +kernel
theorem dX9_init_31 : decode cX9_init 31 = .ok (.putfield 20, 3) := by decide +kernel
theorem dX9_init_34 : decode cX9_init 34 = .ok (.aload_n 0, 1) := by decide +kernel
theorem dX9_init_35 : decode cX9_init 35 = .ok (.bipush 6, 2) := by decide +kernel
theorem dX9_init_37 : decode cX9_init 37 = .ok (.newarray .int, 2) := by decide +kernel
theorem dX9_init_39 : decode cX9_init 39 = .ok (.putfield 23, 3) := by decide +kernel
theorem dX9_init_42 : decode cX9_init 42 = .ok (.aload_n 0, 1) := by decide +kernel
theorem dX9_init_43 : decode cX9_init 43 = .ok (.bipush 6, 2) := by decide +kernel
theorem dX9_init_45 : decode cX9_init 45 = .ok (.newarray .int, 2) := by decide +kernel
theorem dX9_init_47 : decode cX9_init 47 = .ok (.putfield 26, 3) := by decide +kernel
theorem dX9_init_50 : decode cX9_init 50 = .ok (.aload_n 0, 1) := by decide +kernel
theorem dX9_init_51 : decode cX9_init 51 = .ok (.bipush 9, 2) := by decide +kernel
theorem dX9_init_53 : decode cX9_init 53 = .ok (.newarray .int, 2) := by decide +kernel
theorem dX9_init_55 : decode cX9_init 55 = .ok (.putfield 29, 3) := by decide +kernel
theorem dX9_init_58 : decode cX9_init 58 = .ok (.aload_n 0, 1) := by decide +kernel
theorem dX9_init_59 : decode cX9_init 59 = .ok (.bipush 20, 2) := by decide +kernel
theorem dX9_init_61 : decode cX9_init 61 = .ok (.newarray .int, 2) := by decide +kernel
theorem dX9_init_63 : decode cX9_init 63 = .ok (.putfield 32, 3) := by decide +kernel
theorem dX9_init_66 : decode cX9_init 66 = .ok (.aload_n 0, 1) := by decide +kernel
theorem dX9_init_67 : decode cX9_init 67 = .ok (.bipush 20, 2) := by decide +kernel
theorem dX9_init_69 : decode cX9_init 69 = .ok (.newarray .boolean, 2) := by decide +kernel
theorem dX9_init_71 : decode cX9_init 71 = .ok (.putfield 35, 3) := by decide +kernel
theorem dX9_init_74 : decode cX9_init 74 = .ok (.aload_n 0, 1) := by decide +kernel
theorem dX9_init_75 : decode cX9_init 75 = .ok (.sipush 19700, 3) := by decide +kernel
theorem dX9_init_78 : decode cX9_init 78 = .ok (.newarray .int, 2) := by decide +kernel
theorem dX9_init_80 : decode cX9_init 80 = .ok (.putfield 39, 3) := by decide +kernel
theorem dX9_init_83 : decode cX9_init 83 = .ok (.aload_n 0, 1) := by decide +kernel
theorem dX9_init_84 : decode cX9_init 84 = .ok (.sipush 19700, 3) := by decide +kernel
theorem dX9_init_87 : decode cX9_init 87 = .ok (.newarray .int, 2) := by decide +kernel
theorem dX9_init_89 : decode cX9_init 89 = .ok (.putfield 42, 3) := by decide +kernel
theorem dX9_init_92 : decode cX9_init 92 = .ok (.aload_n 0, 1) := by decide +kernel
theorem dX9_init_93 : decode cX9_init 93 = .ok (.iconst 3, 1) := by decide +kernel
theorem dX9_init_94 : decode cX9_init 94 = .ok (.newarray .int, 2) := by decide +kernel
theorem dX9_init_96 : decode cX9_init 96 = .ok (.putfield 45, 3) := by decide +kernel
theorem dX9_init_99 : decode cX9_init 99 = .ok (.aload_n 0, 1) := by decide +kernel
theorem dX9_init_100 : decode cX9_init 100 = .ok (.sipush 19700, 3) := by decide +kernel
theorem dX9_init_103 : decode cX9_init 103 = .ok (.newarray .int, 2) := by decide +kernel
theorem dX9_init_105 : decode cX9_init 105 = .ok (.putfield 48, 3) := by decide +kernel
theorem dX9_init_108 : decode cX9_init 108 = .ok (.aload_n 0, 1) := by decide +kernel
theorem dX9_init_109 : decode cX9_init 109 = .ok (.bipush 41, 2) := by decide +kernel
theorem dX9_init_111 : decode cX9_init 111 = .ok (.newarray .int, 2) := by decide +kernel
theorem dX9_init_113 : decode cX9_init 113 = .ok (.putfield 51, 3) := by decide +kernel
theorem dX9_init_116 : decode cX9_init 116 = .ok (.aload_n 0, 1) := by decide +kernel
theorem dX9_init_117 : decode cX9_init 117 = .ok (.bipush 13, 2) := by decide +kernel
theorem dX9_init_119 : decode cX9_init 119 = .ok (.newarray .int, 2) := by decide +kernel
theorem dX9_init_121 : decode cX9_init 121 = .ok (.putfield 54, 3) := by decide +kernel
theorem dX9_init_124 : decode cX9_init 124 = .ok (.aload_n 0, 1) := by decide +kernel
theorem dX9_init_125 : decode cX9_init 125 = .ok (.bipush 13, 2) := by decide +kernel
theorem dX9_init_127 : decode cX9_init 127 = .ok (.newarray .int, 2) := by decide +kernel
theorem dX9_init_129 : decode cX9_init 129 = .ok (.putfield 57, 3) := by decide +kernel
theorem dX9_init_132 : decode cX9_init 132 = .ok (.aload_n 0, 1) := by decide +kernel
theorem dX9_init_133 : decode cX9_init 133 = .ok (.bipush 13, 2) := by decide +kernel
theorem dX9_init_135 : decode cX9_init 135 = .ok (.newarray .int, 2) := by decide +kernel
theorem dX9_init_137 : decode cX9_init 137 = .ok (.putfield 60, 3) := by decide +kernel
theorem dX9_init_140 : decode cX9_init 140 = .ok (.aload_n 0, 1) := by decide +kernel
theorem dX9_init_141 : decode cX9_init 141 = .ok (.bipush 13, 2) := by decide +kernel
theorem dX9_init_143 : decode cX9_init 143 = .ok (.newarray .boolean, 2) := by decide +kernel
theorem dX9_init_145 : decode cX9_init 145 = .ok (.putfield 63, 3) := by decide +kernel
theorem dX9_init_148 : decode cX9_init 148 = .ok (.aload_n 0, 1) := by decide +kernel
theorem dX9_init_149 : decode cX9_init 149 = .ok (.bipush 117, 2) := by decide +kernel
theorem dX9_init_151 : decode cX9_init 151 = .ok (.newarray .boolean, 2) := by decide +kernel
theorem dX9_init_153 : decode cX9_init 153 = .ok (.putfield 66, 3) := by decide +kernel
theorem dX9_init_156 : decode cX9_init 156 = .ok (.aload_n 0, 1) := by decide +kernel
theorem dX9_init_157 : decode cX9_init 157 = .ok (.sipush 4680, 3) := by decide +kernel
theorem dX9_init_160 : decode cX9_init 160 = .ok (.newarray .boolean, 2) := by decide +kernel
theorem dX9_init_162 : decode cX9_init 162 = .ok (.putfield 69, 3) := by decide +kernel
theorem dX9_init_165 : decode cX9_init 165 = .ok (.aload_n 0, 1) := by decide +kernel
theorem dX9_init_166 : decode cX9_init 166 = .ok (.iconst 3, 1) := by decide +kernel
theorem dX9_init_167 : decode cX9_init 167 = .ok (.newarray .int, 2) := by decide +kernel
theorem dX9_init_169 : decode cX9_init 169 = .ok (.dup, 1) := by decide +kernel
theorem dX9_init_170 : decode cX9_init 170 = .ok (.iconst 0, 1) := by decide +kernel
theorem dX9_init_171 : decode cX9_init 171 = .ok (.iconst 1, 1) := by decide +kernel
theorem dX9_init_172 : decode cX9_init 172 = .ok (.iastore, 1) := by decide +kernel
theorem dX9_init_173 : decode cX9_init 173 = .ok (.dup, 1) := by decide +kernel
theorem dX9_init_174 : decode cX9_init 174 = .ok (.iconst 1, 1) := by decide +kernel
theorem dX9_init_175 : decode cX9_init 175 = .ok (.iconst 1, 1) := by decide +kernel
theorem dX9_init_176 : decode cX9_init 176 = .ok (.iastore, 1) := by decide +kernel
theorem dX9_init_177 : decode cX9_init 177 = .ok (.dup, 1) := by decide +kernel
theorem dX9_init_178 : decode cX9_init 178 = .ok (.iconst 2, 1) := by decide +kernel
theorem dX9_init_179 : decode cX9_init 179 = .ok (.iconst 1, 1) := by decide +kernel
theorem dX9_init_180 : decode cX9_init 180 = .ok (.iastore, 1) := by decide +kernel
theorem dX9_init_181 : decode cX9_init 181 = .ok (.putfield 72, 3) := by decide +kernel
theorem dX9_init_184 : decode cX9_init 184 = .ok (.aload_n 0, 1) := by decide +kernel
theorem dX9_init_185 : decode cX9_init 185 = .ok (.bipush 12, 2) := by decide +kernel
theorem dX9_init_187 : decode cX9_init 187 = .ok (.newarray .int, 2) := by decide +kernel
theorem dX9_init_189 : decode cX9_init 189 = .ok (.putfield 75, 3) := by decide +kernel
theorem dX9_init_192 : decode cX9_init 192 = .ok (.aload_n 0, 1) := by decide +kernel
theorem dX9_init_193 : decode cX9_init 193 = .ok (.iconst 2, 1) := by decide +kernel
theorem dX9_init_194 : decode cX9_init 194 = .ok (.newarray .int, 2) := by decide +kernel
theorem dX9_init_196 : decode cX9_init 196 = .ok (.putfield 78, 3) := by decide +kernel
theorem dX9_init_199 : decode cX9_init 199 = .ok (.aload_n 0, 1) := by decide +kernel
theorem dX9_init_200 : decode cX9_init 200 = .ok (.bipush 12, 2) := by decide +kernel
theorem dX9_init_202 : decode cX9_init 202 = .ok (.newarray .int, 2) := by decide +kernel
theorem dX9_init_204 : decode cX9_init 204 = .ok (.putfield 81, 3) := by decide +kernel
theorem dX9_init_207 : decode cX9_init 207 = .ok (.aload_n 0, 1) := by decide +kernel
theorem dX9_init_208 : decode cX9_init 208 = .ok (.bipush 12, 2) := by decide +kernel
theorem dX9_init_210 : decode cX9_init 210 = .ok (.newarray .int, 2) := by decide +kernel
theorem dX9_init_212 : decode cX9_init 212 = .ok (.putfield 84, 3) := by decide +kernel
theorem dX9_init_215 : decode cX9_init 215 = .ok (.aload_n 0, 1) := by decide +kernel
theorem dX9_init_216 : decode cX9_init 216 = .ok (.bipush 6, 2) := by decide +kernel
theorem dX9_init_218 : decode cX9_init 218 = .ok (.newarray .int, 2) := by decide +kernel
theorem dX9_init_220 : decode cX9_init 220 = .ok (.putfield 87, 3) := by decide +kernel
theorem dX9_init_223 : decode cX9_init 223 = .ok (.aload_n 0, 1) := by decide +kernel
theorem dX9_init_224 : decode cX9_init 224 = .ok (.bipush 6, 2) := by decide +kernel
theorem dX9_init_226 : decode cX9_init 226 = .ok (.newarray .int, 2) := by decide +kernel
theorem dX9_init_228 : decode cX9_init 228 = .ok (.putfield 90, 3) := by decide +kernel
theorem dX9_init_231 : decode cX9_init 231 = .ok (.aload_n 0, 1) := by decide +kernel
theorem dX9_init_232 : decode cX9_init 232 = .ok (.sipush 400, 3) := by decide +kernel
theorem dX9_init_235 : decode cX9_init 235 = .ok (.newarray .int, 2) := by decide +kernel
theorem dX9_init_237 : decode cX9_init 237 = .ok (.putfield 93, 3) := by decide +kernel
theorem dX9_init_240 : decode cX9_init 240 = .ok (.aload_n 0, 1) := by decide +kernel
theorem dX9_init_241 : decode cX9_init 241 = .ok (.bipush 20, 2) := by decide +kernel
theorem dX9_init_243 : decode cX9_init 243 = .ok (.newarray .int, 2) := by decide +kernel
theorem dX9_init_245 : decode cX9_init 245 = .ok (.putfield 96, 3) := by decide +kernel
theorem dX9_init_248 : decode cX9_init 248 = .ok (.aload_n 0, 1) := by decide +kernel
theorem dX9_init_249 : decode cX9_init 249 = .ok (.bipush 20, 2) := by decide +kernel
theorem dX9_init_251 : decode cX9_init 251 = .ok (.newarray .int, 2) := by decide +kernel
theorem dX9_init_253 : decode cX9_init 253 = .ok (.putfield 99, 3) := by decide +kernel
theorem dX9_init_256 : decode cX9_init 256 = .ok (.aload_n 0, 1) := by decide +kernel
theorem dX9_init_257 : decode cX9_init 257 = .ok (.sipush 400, 3) := by decide +kernel
theorem dX9_init_260 : decode cX9_init 260 = .ok (.newarray .boolean, 2) := by decide +kernel
theorem dX9_init_262 : decode cX9_init 262 = .ok (.putfield 102, 3) := by decide +kernel
theorem dX9_init_265 : decode cX9_init 265 = .ok (.iconst 0, 1) := by decide +kernel
theorem dX9_init_266 : decode cX9_init 266 = .ok (.istore_n 1, 1) := by decide +kernel
theorem dX9_init_267 : decode cX9_init 267 = .ok (.iload_n 1, 1) := by decide +kernel
theorem dX9_init_268 : decode cX9_init 268 = .ok (.sipush 400, 3) := by decide +kernel
theorem dX9_init_271 : decode cX9_init 271 = .ok (.if_icmp .ge 17, 3) := by decide +kernel
theorem dX9_init_274 : decode cX9_init 274 = .ok (.aload_n 0, 1) := by decide +kernel
theorem dX9_init_275 : decode cX9_init 275 = .ok (.getfield 20, 3) := by decide +kernel
theorem dX9_init_278 : decode cX9_init 278 = .ok (.iload_n 1, 1) := by decide +kernel
theorem dX9_init_279 : decode cX9_init 279 = .ok (.bipush (-9), 2) := by decide +kernel
theorem dX9_init_281 : decode cX9_init 281 = .ok (.iastore, 1) := by decide +kernel
theorem dX9_init_282 : decode cX9_init 282 = .ok (.iinc 1 1, 3) := by decide +kernel
theorem dX9_init_285 : decode cX9_init 285 = .ok (.goto (-18), 3) := by decide +kernel
theorem dX9_init_288 : decode cX9_init 288 = .ok (.return_, 1) := by decide +kernel
theorem dX9_in_0 : decode cX9_in 0 = .ok (.lload_n 0, 1) := by decide +kernel
theorem dX9_in_1 : decode cX9_in 1 = .ok (.lload_n 2, 1) := by decide +kernel
theorem dX9_in_2 : decode cX9_in 2 = .ok (.lcmp, 1) := by decide +kernel
theorem dX9_in_3 : decode cX9_in 3 = .ok (.ifCond .lt 14, 3) := by decide +kernel
theorem dX9_in_6 : decode cX9_in 6 = .ok (.lload_n 0, 1) := by decide +kernel
theorem dX9_in_7 : decode cX9_in 7 = .ok (.lload 4, 2) := by decide +kernel
theorem dX9_in_9 : decode cX9_in 9 = .ok (.lcmp, 1) := by decide +kernel
theorem dX9_in_10 : decode cX9_in 10 = .ok (.ifCond .gt 7, 3) := by decide +kernel
theorem dX9_in_13 : decode cX9_in 13 = .ok (.iconst 1, 1) := by decide +kernel
theorem dX9_in_14 : decode cX9_in 14 = .ok (.goto 4, 3) := by decide +kernel
theorem dX9_in_17 : decode cX9_in 17 = .ok (.iconst 0, 1) := by decide +kernel
theorem dX9_in_18 : decode cX9_in 18 = .ok (.ireturn, 1) := by decide +kernel
theorem dX9_isTerm_0 : decode cX9_isTerm 0 = .ok (.iload_n 1, 1) := by decide +kernel
theorem dX9_isTerm_1 : decode cX9_isTerm 1 = .ok (.i2l, 1) := by decide +kernel
theorem dX9_isTerm_2 : decode cX9_isTerm 2 = .ok (.lconst 0, 1) := by decide +kernel
theorem dX9_isTerm_3 : decode cX9_isTerm 3 = .ok (.aload_n 0, 1) := by decide +kernel
theorem dX9_isTerm_4 : decode cX9_isTerm 4 = .ok (.getfield 7, 3) := by decide +kernel
theorem dX9_isTerm_7 : decode cX9_isTerm 7 = .ok (.iconst 1, 1) := by decide +kernel
theorem dX9_isTerm_8 : decode cX9_isTerm 8 = .ok (.isub, 1) := by decide +kernel
theorem dX9_isTerm_9 : decode cX9_isTerm 9 = .ok (.i2l, 1) := by decide +kernel
theorem dX9_isTerm_10 : decode cX9_isTerm 10 = .ok (.invokestatic 105, 3) := by decide +kernel
theorem dX9_isTerm_13 : decode cX9_isTerm 13 = .ok (.ireturn, 1) := by decide +kernel
theorem dX9_put_0 : decode cX9_put 0 = .ok (.aload_n 0, 1) := by decide +kernel
theorem dX9_put_1 : decode cX9_put 1 = .ok (.iload_n 1, 1) := by decide +kernel
theorem dX9_put_2 : decode cX9_put 2 = .ok (.invokevirtual 109, 3) := by decide +kernel
theorem dX9_put_5 : decode cX9_put 5 = .ok (.ifCond .eq 11, 3) := by decide +kernel
theorem dX9_put_8 : decode cX9_put 8 = .ok (.aload_n 0, 1) := by decide +kernel
theorem dX9_put_9 : decode cX9_put 9 = .ok (.iload_n 2, 1) := by decide +kernel
theorem dX9_put_10 : decode cX9_put 10 = .ok (.invokevirtual 109, 3) := by decide +kernel
theorem dX9_put_13 : decode cX9_put 13 = .ok (.ifCond .ne 5, 3) := by decide +kernel
theorem dX9_put_16 : decode cX9_put 16 = .ok (.iconst (-1), 1) := by decide +kernel
theorem dX9_put_17 : decode cX9_put 17 = .ok (.ireturn, 1) := by decide +kernel
theorem dX9_put_18 : decode cX9_put 18 = .ok (.aload_n 0, 1) := by decide +kernel
theorem dX9_put_19 : decode cX9_put 19 = .ok (.getfield 20, 3) := by decide +kernel
theorem dX9_put_22 : decode cX9_put 22 = .ok (.bipush 20, 2) := by decide +kernel
theorem dX9_put_24 : decode cX9_put 24 = .ok (.iload_n 1, 1) := by decide +kernel
theorem dX9_put_25 : decode cX9_put 25 = .ok (.imul, 1) := by decide +kernel
theorem dX9_put_26 : decode cX9_put 26 = .ok (.iload_n 2, 1) := by decide +kernel
theorem dX9_put_27 : decode cX9_put 27 = .ok (.iadd, 1) := by decide +kernel
theorem dX9_put_28 : decode cX9_put 28 = .ok (.iaload, 1) := by decide +kernel
theorem dX9_put_29 : decode cX9_put 29 = .ok (.bipush (-9), 2) := by decide +kernel
theorem dX9_put_31 : decode cX9_put 31 = .ok (.if_icmp .eq 15, 3) := by decide +kernel
theorem dX9_put_34 : decode cX9_put 34 = .ok (.aload_n 0, 1) := by decide +kernel
theorem dX9_put_35 : decode cX9_put 35 = .ok (.getfield 20, 3) := by decide +kernel
theorem dX9_put_38 : decode cX9_put 38 = .ok (.bipush 20, 2) := by decide +kernel
theorem dX9_put_40 : decode cX9_put 40 = .ok (.iload_n 1, 1) := by decide +kernel
theorem dX9_put_41 : decode cX9_put 41 = .ok (.imul, 1) := by decide +kernel
theorem dX9_put_42 : decode cX9_put 42 = .ok (.iload_n 2, 1) := by decide +kernel
theorem dX9_put_43 : decode cX9_put 43 = .ok (.iadd, 1) := by decide +kernel
theorem dX9_put_44 : decode cX9_put 44 = .ok (.iaload, 1) := by decide +kernel
theorem dX9_put_45 : decode cX9_put 45 = .ok (.ireturn, 1) := by decide +kernel
theorem dX9_put_46 : decode cX9_put 46 = .ok (.aload_n 0, 1) := by decide +kernel
theorem dX9_put_47 : decode cX9_put 47 = .ok (.getfield 7, 3) := by decide +kernel
theorem dX9_put_50 : decode cX9_put 50 = .ok (.bipush 20, 2) := by decide +kernel
theorem dX9_put_52 : decode cX9_put 52 = .ok (.if_icmp .ne 6, 3) := by decide +kernel
theorem dX9_put_55 : decode cX9_put 55 = .ok (.bipush (-4), 2) := by decide +kernel
theorem dX9_put_57 : decode cX9_put 57 = .ok (.ireturn, 1) := by decide +kernel
theorem dX9_put_58 : decode cX9_put 58 = .ok (.aload_n 0, 1) := by decide +kernel
theorem dX9_put_59 : decode cX9_put 59 = .ok (.getfield 13, 3) := by decide +kernel
theorem dX9_put_62 : decode cX9_put 62 = .ok (.aload_n 0, 1) := by decide +kernel
theorem dX9_put_63 : decode cX9_put 63 = .ok (.getfield 7, 3) := by decide +kernel
theorem dX9_put_66 : decode cX9_put 66 = .ok (.iload_n 1, 1) := by decide +kernel
theorem dX9_put_67 : decode cX9_put 67 = .ok (.iastore, 1) := by decide +kernel
theorem dX9_put_68 : decode cX9_put 68 = .ok (.aload_n 0, 1) := by decide +kernel
theorem dX9_put_69 : decode cX9_put 69 = .ok (.getfield 17, 3) := by decide +kernel
theorem dX9_put_72 : decode cX9_put 72 = .ok (.aload_n 0, 1) := by decide +kernel
theorem dX9_put_73 : decode cX9_put 73 = .ok (.getfield 7, 3) := by decide +kernel
theorem dX9_put_76 : decode cX9_put 76 = .ok (.iload_n 2, 1) := by decide +kernel
theorem dX9_put_77 : decode cX9_put 77 = .ok (.iastore, 1) := by decide +kernel
theorem dX9_put_78 : decode cX9_put 78 = .ok (.aload_n 0, 1) := by decide +kernel
theorem dX9_put_79 : decode cX9_put 79 = .ok (.getfield 20, 3) := by decide +kernel
theorem dX9_put_82 : decode cX9_put 82 = .ok (.bipush 20, 2) := by decide +kernel
theorem dX9_put_84 : decode cX9_put 84 = .ok (.iload_n 1, 1) := by decide +kernel
theorem dX9_put_85 : decode cX9_put 85 = .ok (.imul, 1) := by decide +kernel
theorem dX9_put_86 : decode cX9_put 86 = .ok (.iload_n 2, 1) := by decide +kernel
theorem dX9_put_87 : decode cX9_put 87 = .ok (.iadd, 1) := by decide +kernel
theorem dX9_put_88 : decode cX9_put 88 = .ok (.aload_n 0, 1) := by decide +kernel
theorem dX9_put_89 : decode cX9_put 89 = .ok (.getfield 7, 3) := by decide +kernel
theorem dX9_put_92 : decode cX9_put 92 = .ok (.iastore, 1) := by decide +kernel
theorem dX9_put_93 : decode cX9_put 93 = .ok (.aload_n 0, 1) := by decide +kernel
theorem dX9_put_94 : decode cX9_put 94 = .ok (.dup, 1) := by decide +kernel
theorem dX9_put_95 : decode cX9_put 95 = .ok (.getfield 7, 3) := by decide +kernel
theorem dX9_put_98 : decode cX9_put 98 = .ok (.iconst 1, 1) := by decide +kernel
theorem dX9_put_99 : decode cX9_put 99 = .ok (.iadd, 1) := by decide +kernel
theorem dX9_put_100 : decode cX9_put 100 = .ok (.putfield 7, 3) := by decide +kernel
theorem dX9_put_103 : decode cX9_put 103 = .ok (.aload_n 0, 1) := by decide +kernel
theorem dX9_put_104 : decode cX9_put 104 = .ok (.getfield 7, 3) := by decide +kernel
theorem dX9_put_107 : decode cX9_put 107 = .ok (.iconst 1, 1) := by decide +kernel
theorem dX9_put_108 : decode cX9_put 108 = .ok (.isub, 1) := by decide +kernel
theorem dX9_put_109 : decode cX9_put 109 = .ok (.ireturn, 1) := by decide +kernel
theorem dX9_part_0 : decode cX9_part 0 = .ok (.aload_n 0, 1) := by decide +kernel
theorem dX9_part_1 : decode cX9_part 1 = .ok (.iload_n 1, 1) := by decide +kernel
theorem dX9_part_2 : decode cX9_part 2 = .ok (.invokevirtual 109, 3) := by decide +kernel
theorem dX9_part_5 : decode cX9_part 5 = .ok (.ifCond .ne 5, 3) := by decide +kernel
theorem dX9_part_8 : decode cX9_part 8 = .ok (.iconst (-1), 1) := by decide +kernel
theorem dX9_part_9 : decode cX9_part 9 = .ok (.ireturn, 1) := by decide +kernel
theorem dX9_part_10 : decode cX9_part 10 = .ok (.iload_n 1, 1) := by decide +kernel
theorem dX9_part_11 : decode cX9_part 11 = .ok (.iconst 3, 1) := by decide +kernel
theorem dX9_part_12 : decode cX9_part 12 = .ok (.if_icmp .ge 8, 3) := by decide +kernel
theorem dX9_part_15 : decode cX9_part 15 = .ok (.bipush (-9), 2) := by decide +kernel
theorem dX9_part_17 : decode cX9_part 17 = .ok (.goto 22, 3) := by decide +kernel
theorem dX9_part_20 : decode cX9_part 20 = .ok (.iload_n 2, 1) := by decide +kernel
theorem dX9_part_21 : decode cX9_part 21 = .ok (.ifCond .eq 12, 3) := by decide +kernel
theorem dX9_part_24 : decode cX9_part 24 = .ok (.aload_n 0, 1) := by decide +kernel
theorem dX9_part_25 : decode cX9_part 25 = .ok (.getfield 17, 3) := by decide +kernel
theorem dX9_part_28 : decode cX9_part 28 = .ok (.iload_n 1, 1) := by decide +kernel
theorem dX9_part_29 : decode cX9_part 29 = .ok (.iaload, 1) := by decide +kernel
theorem dX9_part_30 : decode cX9_part 30 = .ok (.goto 9, 3) := by decide +kernel
theorem dX9_part_33 : decode cX9_part 33 = .ok (.aload_n 0, 1) := by decide +kernel
theorem dX9_part_34 : decode cX9_part 34 = .ok (.getfield 13, 3) := by decide +kernel
theorem dX9_part_37 : decode cX9_part 37 = .ok (.iload_n 1, 1) := by decide +kernel
theorem dX9_part_38 : decode cX9_part 38 = .ok (.iaload, 1) := by decide +kernel
theorem dX9_part_39 : decode cX9_part 39 = .ok (.ireturn, 1) := by decide +kernel
theorem dX9_law_0 : decode cX9_law 0 = .ok (.aload_n 0, 1) := by decide +kernel
theorem dX9_law_1 : decode cX9_law 1 = .ok (.iload_n 1, 1) := by decide +kernel
theorem dX9_law_2 : decode cX9_law 2 = .ok (.invokevirtual 109, 3) := by decide +kernel
theorem dX9_law_5 : decode cX9_law 5 = .ok (.ifCond .eq 11, 3) := by decide +kernel
theorem dX9_law_8 : decode cX9_law 8 = .ok (.aload_n 0, 1) := by decide +kernel
theorem dX9_law_9 : decode cX9_law 9 = .ok (.iload_n 2, 1) := by decide +kernel
theorem dX9_law_10 : decode cX9_law 10 = .ok (.invokevirtual 109, 3) := by decide +kernel
theorem dX9_law_13 : decode cX9_law 13 = .ok (.ifCond .ne 5, 3) := by decide +kernel
theorem dX9_law_16 : decode cX9_law 16 = .ok (.iconst (-1), 1) := by decide +kernel
theorem dX9_law_17 : decode cX9_law 17 = .ok (.ireturn, 1) := by decide +kernel
theorem dX9_law_18 : decode cX9_law 18 = .ok (.aload_n 0, 1) := by decide +kernel
theorem dX9_law_19 : decode cX9_law 19 = .ok (.getfield 113, 3) := by decide +kernel
theorem dX9_law_22 : decode cX9_law 22 = .ok (.bipush 6, 2) := by decide +kernel
theorem dX9_law_24 : decode cX9_law 24 = .ok (.if_icmp .ne 6, 3) := by decide +kernel
theorem dX9_law_27 : decode cX9_law 27 = .ok (.bipush (-4), 2) := by decide +kernel
theorem dX9_law_29 : decode cX9_law 29 = .ok (.ireturn, 1) := by decide +kernel
theorem dX9_law_30 : decode cX9_law 30 = .ok (.aload_n 0, 1) := by decide +kernel
theorem dX9_law_31 : decode cX9_law 31 = .ok (.getfield 23, 3) := by decide +kernel
theorem dX9_law_34 : decode cX9_law 34 = .ok (.aload_n 0, 1) := by decide +kernel
theorem dX9_law_35 : decode cX9_law 35 = .ok (.getfield 113, 3) := by decide +kernel
theorem dX9_law_38 : decode cX9_law 38 = .ok (.iload_n 1, 1) := by decide +kernel
theorem dX9_law_39 : decode cX9_law 39 = .ok (.iastore, 1) := by decide +kernel
theorem dX9_law_40 : decode cX9_law 40 = .ok (.aload_n 0, 1) := by decide +kernel
theorem dX9_law_41 : decode cX9_law 41 = .ok (.getfield 26, 3) := by decide +kernel
theorem dX9_law_44 : decode cX9_law 44 = .ok (.aload_n 0, 1) := by decide +kernel
theorem dX9_law_45 : decode cX9_law 45 = .ok (.getfield 113, 3) := by decide +kernel
theorem dX9_law_48 : decode cX9_law 48 = .ok (.iload_n 2, 1) := by decide +kernel
theorem dX9_law_49 : decode cX9_law 49 = .ok (.iastore, 1) := by decide +kernel
theorem dX9_law_50 : decode cX9_law 50 = .ok (.aload_n 0, 1) := by decide +kernel
theorem dX9_law_51 : decode cX9_law 51 = .ok (.dup, 1) := by decide +kernel
theorem dX9_law_52 : decode cX9_law 52 = .ok (.getfield 113, 3) := by decide +kernel
theorem dX9_law_55 : decode cX9_law 55 = .ok (.iconst 1, 1) := by decide +kernel
theorem dX9_law_56 : decode cX9_law 56 = .ok (.iadd, 1) := by decide +kernel
theorem dX9_law_57 : decode cX9_law 57 = .ok (.putfield 113, 3) := by decide +kernel
theorem dX9_law_60 : decode cX9_law 60 = .ok (.aload_n 0, 1) := by decide +kernel
theorem dX9_law_61 : decode cX9_law 61 = .ok (.iconst 0, 1) := by decide +kernel
theorem dX9_law_62 : decode cX9_law 62 = .ok (.putfield 116, 3) := by decide +kernel
theorem dX9_law_65 : decode cX9_law 65 = .ok (.aload_n 0, 1) := by decide +kernel
theorem dX9_law_66 : decode cX9_law 66 = .ok (.getfield 113, 3) := by decide +kernel
theorem dX9_law_69 : decode cX9_law 69 = .ok (.iconst 1, 1) := by decide +kernel
theorem dX9_law_70 : decode cX9_law 70 = .ok (.isub, 1) := by decide +kernel
theorem dX9_law_71 : decode cX9_law 71 = .ok (.ireturn, 1) := by decide +kernel
theorem dX9_unlaw_0 : decode cX9_unlaw 0 = .ok (.aload_n 0, 1) := by decide +kernel
theorem dX9_unlaw_1 : decode cX9_unlaw 1 = .ok (.getfield 113, 3) := by decide +kernel
theorem dX9_unlaw_4 : decode cX9_unlaw 4 = .ok (.ifCond .ne 6, 3) := by decide +kernel
theorem dX9_unlaw_7 : decode cX9_unlaw 7 = .ok (.bipush (-3), 2) := by decide +kernel
theorem dX9_unlaw_9 : decode cX9_unlaw 9 = .ok (.ireturn, 1) := by decide +kernel
theorem dX9_unlaw_10 : decode cX9_unlaw 10 = .ok (.aload_n 0, 1) := by decide +kernel
theorem dX9_unlaw_11 : decode cX9_unlaw 11 = .ok (.dup, 1) := by decide +kernel
theorem dX9_unlaw_12 : decode cX9_unlaw 12 = .ok (.getfield 113, 3) := by decide +kernel
theorem dX9_unlaw_15 : decode cX9_unlaw 15 = .ok (.iconst 1, 1) := by decide +kernel
theorem dX9_unlaw_16 : decode cX9_unlaw 16 = .ok (.isub, 1) := by decide +kernel
theorem dX9_unlaw_17 : decode cX9_unlaw 17 = .ok (.putfield 113, 3) := by decide +kernel
theorem dX9_unlaw_20 : decode cX9_unlaw 20 = .ok (.aload_n 0, 1) := by decide +kernel
theorem dX9_unlaw_21 : decode cX9_unlaw 21 = .ok (.iconst 0, 1) := by decide +kernel
theorem dX9_unlaw_22 : decode cX9_unlaw 22 = .ok (.putfield 116, 3) := by decide +kernel
theorem dX9_unlaw_25 : decode cX9_unlaw 25 = .ok (.aload_n 0, 1) := by decide +kernel
theorem dX9_unlaw_26 : decode cX9_unlaw 26 = .ok (.getfield 113, 3) := by decide +kernel
theorem dX9_unlaw_29 : decode cX9_unlaw 29 = .ok (.ireturn, 1) := by decide +kernel
theorem dX9_baseOf_0 : decode cX9_baseOf 0 = .ok (.iload_n 0, 1) := by decide +kernel
theorem dX9_baseOf_1 : decode cX9_baseOf 1 = .ok (.iconst 1, 1) := by decide +kernel
theorem dX9_baseOf_2 : decode cX9_baseOf 2 = .ok (.if_icmp .ne 7, 3) := by decide +kernel
theorem dX9_baseOf_5 : decode cX9_baseOf 5 = .ok (.iconst 0, 1) := by decide +kernel
theorem dX9_baseOf_6 : decode cX9_baseOf 6 = .ok (.goto 14, 3) := by decide +kernel
theorem dX9_baseOf_9 : decode cX9_baseOf 9 = .ok (.iload_n 0, 1) := by decide +kernel
theorem dX9_baseOf_10 : decode cX9_baseOf 10 = .ok (.iconst 2, 1) := by decide +kernel
theorem dX9_baseOf_11 : decode cX9_baseOf 11 = .ok (.if_icmp .ne 7, 3) := by decide +kernel
theorem dX9_baseOf_14 : decode cX9_baseOf 14 = .ok (.iconst 1, 1) := by decide +kernel
theorem dX9_baseOf_15 : decode cX9_baseOf 15 = .ok (.goto 5, 3) := by decide +kernel
theorem dX9_baseOf_18 : decode cX9_baseOf 18 = .ok (.bipush 17, 2) := by decide +kernel
theorem dX9_baseOf_20 : decode cX9_baseOf 20 = .ok (.ireturn, 1) := by decide +kernel
theorem dX9_countOf_0 : decode cX9_countOf 0 = .ok (.iload_n 0, 1) := by decide +kernel
theorem dX9_countOf_1 : decode cX9_countOf 1 = .ok (.iconst 1, 1) := by decide +kernel
theorem dX9_countOf_2 : decode cX9_countOf 2 = .ok (.if_icmp .ne 7, 3) := by decide +kernel
theorem dX9_countOf_5 : decode cX9_countOf 5 = .ok (.iconst 1, 1) := by decide +kernel
theorem dX9_countOf_6 : decode cX9_countOf 6 = .ok (.goto 16, 3) := by decide +kernel
theorem dX9_countOf_9 : decode cX9_countOf 9 = .ok (.iload_n 0, 1) := by decide +kernel
theorem dX9_countOf_10 : decode cX9_countOf 10 = .ok (.iconst 2, 1) := by decide +kernel
theorem dX9_countOf_11 : decode cX9_countOf 11 = .ok (.if_icmp .ne 8, 3) := by decide +kernel
theorem dX9_countOf_14 : decode cX9_countOf 14 = .ok (.bipush 16, 2) := by decide +kernel
theorem dX9_countOf_16 : decode cX9_countOf 16 = .ok (.goto 6, 3) := by decide +kernel
theorem dX9_countOf_19 : decode cX9_countOf 19 = .ok (.sipush 19683, 3) := by decide +kernel
theorem dX9_countOf_22 : decode cX9_countOf 22 = .ok (.ireturn, 1) := by decide +kernel
theorem dX9_sizeAt_0 : decode cX9_sizeAt 0 = .ok (.iload_n 0, 1) := by decide +kernel
theorem dX9_sizeAt_1 : decode cX9_sizeAt 1 = .ok (.ifCond .ne 7, 3) := by decide +kernel
theorem dX9_sizeAt_4 : decode cX9_sizeAt 4 = .ok (.iconst 1, 1) := by decide +kernel
theorem dX9_sizeAt_5 : decode cX9_sizeAt 5 = .ok (.goto 14, 3) := by decide +kernel
theorem dX9_sizeAt_8 : decode cX9_sizeAt 8 = .ok (.iload_n 0, 1) := by decide +kernel
theorem dX9_sizeAt_9 : decode cX9_sizeAt 9 = .ok (.bipush 17, 2) := by decide +kernel
theorem dX9_sizeAt_11 : decode cX9_sizeAt 11 = .ok (.if_icmp .ge 7, 3) := by decide +kernel
theorem dX9_sizeAt_14 : decode cX9_sizeAt 14 = .ok (.iconst 2, 1) := by decide +kernel
theorem dX9_sizeAt_15 : decode cX9_sizeAt 15 = .ok (.goto 4, 3) := by decide +kernel
theorem dX9_sizeAt_18 : decode cX9_sizeAt 18 = .ok (.iconst 3, 1) := by decide +kernel
theorem dX9_sizeAt_19 : decode cX9_sizeAt 19 = .ok (.ireturn, 1) := by decide +kernel
theorem dX9_layWorld_0 : decode cX9_layWorld 0 = .ok (.aload_n 0, 1) := by decide +kernel
theorem dX9_layWorld_1 : decode cX9_layWorld 1 = .ok (.iload_n 1, 1) := by decide +kernel
theorem dX9_layWorld_2 : decode cX9_layWorld 2 = .ok (.invokestatic 120, 3) := by decide +kernel
theorem dX9_layWorld_5 : decode cX9_layWorld 5 = .ok (.putfield 124, 3) := by decide +kernel
theorem dX9_layWorld_8 : decode cX9_layWorld 8 = .ok (.iload_n 1, 1) := by decide +kernel
theorem dX9_layWorld_9 : decode cX9_layWorld 9 = .ok (.aload_n 0, 1) := by decide +kernel
theorem dX9_layWorld_10 : decode cX9_layWorld 10 = .ok (.getfield 124, 3) := by decide +kernel
theorem dX9_layWorld_13 : decode cX9_layWorld 13 = .ok (.invokestatic 127, 3) := by decide +kernel
theorem dX9_layWorld_16 : decode cX9_layWorld 16 = .ok (.isub, 1) := by decide +kernel
theorem dX9_layWorld_17 : decode cX9_layWorld 17 = .ok (.istore_n 2, 1) := by decide +kernel
theorem dX9_layWorld_18 : decode cX9_layWorld 18 = .ok (.aload_n 0, 1) := by decide +kernel
theorem dX9_layWorld_19 : decode cX9_layWorld 19 = .ok (.getfield 124, 3) := by decide +kernel
theorem dX9_layWorld_22 : decode cX9_layWorld 22 = .ok (.aload_n 0, 1) := by decide +kernel
theorem dX9_layWorld_23 : decode cX9_layWorld 23 = .ok (.getfield 124, 3) := by decide +kernel
theorem dX9_layWorld_26 : decode cX9_layWorld 26 = .ok (.imul, 1) := by decide +kernel
theorem dX9_layWorld_27 : decode cX9_layWorld 27 = .ok (.iconst 1, 1) := by decide +kernel
theorem dX9_layWorld_28 : decode cX9_layWorld 28 = .ok (.isub, 1) := by decide +kernel
theorem dX9_layWorld_29 : decode cX9_layWorld 29 = .ok (.istore_n 3, 1) := by decide +kernel
theorem dX9_layWorld_30 : decode cX9_layWorld 30 = .ok (.iload_n 3, 1) := by decide +kernel
theorem dX9_layWorld_31 : decode cX9_layWorld 31 = .ok (.ifCond .lt 28, 3) := by decide +kernel
theorem dX9_layWorld_34 : decode cX9_layWorld 34 = .ok (.aload_n 0, 1) := by decide +kernel
theorem dX9_layWorld_35 : decode cX9_layWorld 35 = .ok (.getfield 29, 3) := by decide +kernel
theorem dX9_layWorld_38 : decode cX9_layWorld 38 = .ok (.iload_n 3, 1) := by decide +kernel
theorem dX9_layWorld_39 : decode cX9_layWorld 39 = .ok (.iload_n 2, 1) := by decide +kernel
theorem dX9_layWorld_40 : decode cX9_layWorld 40 = .ok (.aload_n 0, 1) := by decide +kernel
theorem dX9_layWorld_41 : decode cX9_layWorld 41 = .ok (.getfield 124, 3) := by decide +kernel
theorem dX9_layWorld_44 : decode cX9_layWorld 44 = .ok (.irem, 1) := by decide +kernel
theorem dX9_layWorld_45 : decode cX9_layWorld 45 = .ok (.iastore, 1) := by decide +kernel
theorem dX9_layWorld_46 : decode cX9_layWorld 46 = .ok (.iload_n 2, 1) := by decide +kernel
theorem dX9_layWorld_47 : decode cX9_layWorld 47 = .ok (.aload_n 0, 1) := by decide +kernel
theorem dX9_layWorld_48 : decode cX9_layWorld 48 = .ok (.getfield 124, 3) := by decide +kernel
theorem dX9_layWorld_51 : decode cX9_layWorld 51 = .ok (.idiv, 1) := by decide +kernel
theorem dX9_layWorld_52 : decode cX9_layWorld 52 = .ok (.istore_n 2, 1) := by decide +kernel
theorem dX9_layWorld_53 : decode cX9_layWorld 53 = .ok (.iinc 3 (-1), 3) := by decide +kernel
theorem dX9_layWorld_56 : decode cX9_layWorld 56 = .ok (.goto (-26), 3) := by decide +kernel
theorem dX9_layWorld_59 : decode cX9_layWorld 59 = .ok (.return_, 1) := by decide +kernel
theorem dX9_want_0 : decode cX9_want 0 = .ok (.iconst 0, 1) := by decide +kernel
theorem dX9_want_1 : decode cX9_want 1 = .ok (.istore_n 3, 1) := by decide +kernel
theorem dX9_want_2 : decode cX9_want 2 = .ok (.iload_n 3, 1) := by decide +kernel
theorem dX9_want_3 : decode cX9_want 3 = .ok (.bipush 20, 2) := by decide +kernel
theorem dX9_want_5 : decode cX9_want 5 = .ok (.if_icmp .ge 30, 3) := by decide +kernel
theorem dX9_want_8 : decode cX9_want 8 = .ok (.aload_n 0, 1) := by decide +kernel
end
section
theorem dX9_want_9 : decode cX9_want 9 = .ok (.getfield 35, 3) := by decide +kernel
theorem dX9_want_12 : decode cX9_want 12 = .ok (.iload_n 3, 1) := by decide +kernel
theorem dX9_want_13 : decode cX9_want 13 = .ok (.iload_n 3, 1) := by decide +kernel
theorem dX9_want_14 : decode cX9_want 14 = .ok (.iload_n 1, 1) := by decide +kernel
theorem dX9_want_15 : decode cX9_want 15 = .ok (.if_icmp .eq 8, 3) := by decide +kernel
theorem dX9_want_18 : decode cX9_want 18 = .ok (.iload_n 3, 1) := by decide +kernel
theorem dX9_want_19 : decode cX9_want 19 = .ok (.iload_n 2, 1) := by decide +kernel
theorem dX9_want_20 : decode cX9_want 20 = .ok (.if_icmp .ne 7, 3) := by decide +kernel
theorem dX9_want_23 : decode cX9_want 23 = .ok (.iconst 1, 1) := by decide +kernel
theorem dX9_want_24 : decode cX9_want 24 = .ok (.goto 4, 3) := by decide +kernel
theorem dX9_want_27 : decode cX9_want 27 = .ok (.iconst 0, 1) := by decide +kernel
theorem dX9_want_28 : decode cX9_want 28 = .ok (.bastore, 1) := by decide +kernel
theorem dX9_want_29 : decode cX9_want 29 = .ok (.iinc 3 1, 3) := by decide +kernel
theorem dX9_want_32 : decode cX9_want 32 = .ok (.goto (-30), 3) := by decide +kernel
theorem dX9_want_35 : decode cX9_want 35 = .ok (.aload_n 0, 1) := by decide +kernel
theorem dX9_want_36 : decode cX9_want 36 = .ok (.getfield 7, 3) := by decide +kernel
theorem dX9_want_39 : decode cX9_want 39 = .ok (.iconst 1, 1) := by decide +kernel
theorem dX9_want_40 : decode cX9_want 40 = .ok (.isub, 1) := by decide +kernel
theorem dX9_want_41 : decode cX9_want 41 = .ok (.istore_n 3, 1) := by decide +kernel
theorem dX9_want_42 : decode cX9_want 42 = .ok (.iload_n 3, 1) := by decide +kernel
theorem dX9_want_43 : decode cX9_want 43 = .ok (.iconst 2, 1) := by decide +kernel
theorem dX9_want_44 : decode cX9_want 44 = .ok (.if_icmp .le 42, 3) := by decide +kernel
theorem dX9_want_47 : decode cX9_want 47 = .ok (.aload_n 0, 1) := by decide +kernel
theorem dX9_want_48 : decode cX9_want 48 = .ok (.getfield 35, 3) := by decide +kernel
theorem dX9_want_51 : decode cX9_want 51 = .ok (.iload_n 3, 1) := by decide +kernel
theorem dX9_want_52 : decode cX9_want 52 = .ok (.baload, 1) := by decide +kernel
theorem dX9_want_53 : decode cX9_want 53 = .ok (.ifCond .eq 27, 3) := by decide +kernel
theorem dX9_want_56 : decode cX9_want 56 = .ok (.aload_n 0, 1) := by decide +kernel
theorem dX9_want_57 : decode cX9_want 57 = .ok (.getfield 35, 3) := by decide +kernel
theorem dX9_want_60 : decode cX9_want 60 = .ok (.aload_n 0, 1) := by decide +kernel
theorem dX9_want_61 : decode cX9_want 61 = .ok (.getfield 13, 3) := by decide +kernel
theorem dX9_want_64 : decode cX9_want 64 = .ok (.iload_n 3, 1) := by decide +kernel
theorem dX9_want_65 : decode cX9_want 65 = .ok (.iaload, 1) := by decide +kernel
theorem dX9_want_66 : decode cX9_want 66 = .ok (.iconst 1, 1) := by decide +kernel
theorem dX9_want_67 : decode cX9_want 67 = .ok (.bastore, 1) := by decide +kernel
theorem dX9_want_68 : decode cX9_want 68 = .ok (.aload_n 0, 1) := by decide +kernel
theorem dX9_want_69 : decode cX9_want 69 = .ok (.getfield 35, 3) := by decide +kernel
theorem dX9_want_72 : decode cX9_want 72 = .ok (.aload_n 0, 1) := by decide +kernel
theorem dX9_want_73 : decode cX9_want 73 = .ok (.getfield 17, 3) := by decide +kernel
theorem dX9_want_76 : decode cX9_want 76 = .ok (.iload_n 3, 1) := by decide +kernel
theorem dX9_want_77 : decode cX9_want 77 = .ok (.iaload, 1) := by decide +kernel
theorem dX9_want_78 : decode cX9_want 78 = .ok (.iconst 1, 1) := by decide +kernel
theorem dX9_want_79 : decode cX9_want 79 = .ok (.bastore, 1) := by decide +kernel
theorem dX9_want_80 : decode cX9_want 80 = .ok (.iinc 3 (-1), 3) := by decide +kernel
theorem dX9_want_83 : decode cX9_want 83 = .ok (.goto (-41), 3) := by decide +kernel
theorem dX9_want_86 : decode cX9_want 86 = .ok (.return_, 1) := by decide +kernel
theorem dX9_isSame_0 : decode cX9_isSame 0 = .ok (.aload_n 0, 1) := by decide +kernel
theorem dX9_isSame_1 : decode cX9_isSame 1 = .ok (.getfield 32, 3) := by decide +kernel
theorem dX9_isSame_4 : decode cX9_isSame 4 = .ok (.iconst 0, 1) := by decide +kernel
theorem dX9_isSame_5 : decode cX9_isSame 5 = .ok (.iload_n 3, 1) := by decide +kernel
theorem dX9_isSame_6 : decode cX9_isSame 6 = .ok (.iastore, 1) := by decide +kernel
theorem dX9_isSame_7 : decode cX9_isSame 7 = .ok (.aload_n 0, 1) := by decide +kernel
theorem dX9_isSame_8 : decode cX9_isSame 8 = .ok (.getfield 32, 3) := by decide +kernel
theorem dX9_isSame_11 : decode cX9_isSame 11 = .ok (.iconst 1, 1) := by decide +kernel
theorem dX9_isSame_12 : decode cX9_isSame 12 = .ok (.iload 4, 2) := by decide +kernel
theorem dX9_isSame_14 : decode cX9_isSame 14 = .ok (.iastore, 1) := by decide +kernel
theorem dX9_isSame_15 : decode cX9_isSame 15 = .ok (.aload_n 0, 1) := by decide +kernel
theorem dX9_isSame_16 : decode cX9_isSame 16 = .ok (.getfield 32, 3) := by decide +kernel
theorem dX9_isSame_19 : decode cX9_isSame 19 = .ok (.iconst 2, 1) := by decide +kernel
theorem dX9_isSame_20 : decode cX9_isSame 20 = .ok (.iload 5, 2) := by decide +kernel
theorem dX9_isSame_22 : decode cX9_isSame 22 = .ok (.iastore, 1) := by decide +kernel
theorem dX9_isSame_23 : decode cX9_isSame 23 = .ok (.iload_n 1, 1) := by decide +kernel
theorem dX9_isSame_24 : decode cX9_isSame 24 = .ok (.iload_n 2, 1) := by decide +kernel
theorem dX9_isSame_25 : decode cX9_isSame 25 = .ok (.if_icmp .le 7, 3) := by decide +kernel
theorem dX9_isSame_28 : decode cX9_isSame 28 = .ok (.iload_n 1, 1) := by decide +kernel
theorem dX9_isSame_29 : decode cX9_isSame 29 = .ok (.goto 4, 3) := by decide +kernel
theorem dX9_isSame_32 : decode cX9_isSame 32 = .ok (.iload_n 2, 1) := by decide +kernel
theorem dX9_isSame_33 : decode cX9_isSame 33 = .ok (.istore 6, 2) := by decide +kernel
theorem dX9_isSame_35 : decode cX9_isSame 35 = .ok (.iconst 3, 1) := by decide +kernel
theorem dX9_isSame_36 : decode cX9_isSame 36 = .ok (.istore 7, 2) := by decide +kernel
theorem dX9_isSame_38 : decode cX9_isSame 38 = .ok (.iload 7, 2) := by decide +kernel
theorem dX9_isSame_40 : decode cX9_isSame 40 = .ok (.iload 6, 2) := by decide +kernel
theorem dX9_isSame_42 : decode cX9_isSame 42 = .ok (.if_icmp .gt 61, 3) := by decide +kernel
theorem dX9_isSame_45 : decode cX9_isSame 45 = .ok (.aload_n 0, 1) := by decide +kernel
theorem dX9_isSame_46 : decode cX9_isSame 46 = .ok (.getfield 35, 3) := by decide +kernel
theorem dX9_isSame_49 : decode cX9_isSame 49 = .ok (.iload 7, 2) := by decide +kernel
theorem dX9_isSame_51 : decode cX9_isSame 51 = .ok (.baload, 1) := by decide +kernel
theorem dX9_isSame_52 : decode cX9_isSame 52 = .ok (.ifCond .eq 45, 3) := by decide +kernel
theorem dX9_isSame_55 : decode cX9_isSame 55 = .ok (.aload_n 0, 1) := by decide +kernel
theorem dX9_isSame_56 : decode cX9_isSame 56 = .ok (.getfield 32, 3) := by decide +kernel
theorem dX9_isSame_59 : decode cX9_isSame 59 = .ok (.iload 7, 2) := by decide +kernel
theorem dX9_isSame_61 : decode cX9_isSame 61 = .ok (.aload_n 0, 1) := by decide +kernel
theorem dX9_isSame_62 : decode cX9_isSame 62 = .ok (.getfield 29, 3) := by decide +kernel
theorem dX9_isSame_65 : decode cX9_isSame 65 = .ok (.aload_n 0, 1) := by decide +kernel
theorem dX9_isSame_66 : decode cX9_isSame 66 = .ok (.getfield 124, 3) := by decide +kernel
theorem dX9_isSame_69 : decode cX9_isSame 69 = .ok (.aload_n 0, 1) := by decide +kernel
theorem dX9_isSame_70 : decode cX9_isSame 70 = .ok (.getfield 32, 3) := by decide +kernel
theorem dX9_isSame_73 : decode cX9_isSame 73 = .ok (.aload_n 0, 1) := by decide +kernel
theorem dX9_isSame_74 : decode cX9_isSame 74 = .ok (.getfield 13, 3) := by decide +kernel
theorem dX9_isSame_77 : decode cX9_isSame 77 = .ok (.iload 7, 2) := by decide +kernel
theorem dX9_isSame_79 : decode cX9_isSame 79 = .ok (.iaload, 1) := by decide +kernel
theorem dX9_isSame_80 : decode cX9_isSame 80 = .ok (.iaload, 1) := by decide +kernel
theorem dX9_isSame_81 : decode cX9_isSame 81 = .ok (.imul, 1) := by decide +kernel
theorem dX9_isSame_82 : decode cX9_isSame 82 = .ok (.aload_n 0, 1) := by decide +kernel
theorem dX9_isSame_83 : decode cX9_isSame 83 = .ok (.getfield 32, 3) := by decide +kernel
theorem dX9_isSame_86 : decode cX9_isSame 86 = .ok (.aload_n 0, 1) := by decide +kernel
theorem dX9_isSame_87 : decode cX9_isSame 87 = .ok (.getfield 17, 3) := by decide +kernel
theorem dX9_isSame_90 : decode cX9_isSame 90 = .ok (.iload 7, 2) := by decide +kernel
theorem dX9_isSame_92 : decode cX9_isSame 92 = .ok (.iaload, 1) := by decide +kernel
theorem dX9_isSame_93 : decode cX9_isSame 93 = .ok (.iaload, 1) := by decide +kernel
theorem dX9_isSame_94 : decode cX9_isSame 94 = .ok (.iadd, 1) := by decide +kernel
theorem dX9_isSame_95 : decode cX9_isSame 95 = .ok (.iaload, 1) := by decide +kernel
theorem dX9_isSame_96 : decode cX9_isSame 96 = .ok (.iastore, 1) := by decide +kernel
theorem dX9_isSame_97 : decode cX9_isSame 97 = .ok (.iinc 7 1, 3) := by decide +kernel
theorem dX9_isSame_100 : decode cX9_isSame 100 = .ok (.goto (-62), 3) := by decide +kernel
theorem dX9_isSame_103 : decode cX9_isSame 103 = .ok (.aload_n 0, 1) := by decide +kernel
theorem dX9_isSame_104 : decode cX9_isSame 104 = .ok (.getfield 32, 3) := by decide +kernel
theorem dX9_isSame_107 : decode cX9_isSame 107 = .ok (.iload_n 1, 1) := by decide +kernel
theorem dX9_isSame_108 : decode cX9_isSame 108 = .ok (.iaload, 1) := by decide +kernel
theorem dX9_isSame_109 : decode cX9_isSame 109 = .ok (.aload_n 0, 1) := by decide +kernel
theorem dX9_isSame_110 : decode cX9_isSame 110 = .ok (.getfield 32, 3) := by decide +kernel
theorem dX9_isSame_113 : decode cX9_isSame 113 = .ok (.iload_n 2, 1) := by decide +kernel
theorem dX9_isSame_114 : decode cX9_isSame 114 = .ok (.iaload, 1) := by decide +kernel
theorem dX9_isSame_115 : decode cX9_isSame 115 = .ok (.if_icmp .ne 7, 3) := by decide +kernel
theorem dX9_isSame_118 : decode cX9_isSame 118 = .ok (.iconst 1, 1) := by decide +kernel
theorem dX9_isSame_119 : decode cX9_isSame 119 = .ok (.goto 4, 3) := by decide +kernel
theorem dX9_isSame_122 : decode cX9_isSame 122 = .ok (.iconst 0, 1) := by decide +kernel
theorem dX9_isSame_123 : decode cX9_isSame 123 = .ok (.ireturn, 1) := by decide +kernel
theorem dX9_keepsOne_0 : decode cX9_keepsOne 0 = .ok (.iconst 0, 1) := by decide +kernel
theorem dX9_keepsOne_1 : decode cX9_keepsOne 1 = .ok (.istore_n 3, 1) := by decide +kernel
theorem dX9_keepsOne_2 : decode cX9_keepsOne 2 = .ok (.iload_n 3, 1) := by decide +kernel
theorem dX9_keepsOne_3 : decode cX9_keepsOne 3 = .ok (.aload_n 0, 1) := by decide +kernel
theorem dX9_keepsOne_4 : decode cX9_keepsOne 4 = .ok (.getfield 124, 3) := by decide +kernel
theorem dX9_keepsOne_7 : decode cX9_keepsOne 7 = .ok (.aload_n 0, 1) := by decide +kernel
theorem dX9_keepsOne_8 : decode cX9_keepsOne 8 = .ok (.getfield 124, 3) := by decide +kernel
theorem dX9_keepsOne_11 : decode cX9_keepsOne 11 = .ok (.imul, 1) := by decide +kernel
theorem dX9_keepsOne_12 : decode cX9_keepsOne 12 = .ok (.aload_n 0, 1) := by decide +kernel
theorem dX9_keepsOne_13 : decode cX9_keepsOne 13 = .ok (.getfield 124, 3) := by decide +kernel
theorem dX9_keepsOne_16 : decode cX9_keepsOne 16 = .ok (.imul, 1) := by decide +kernel
theorem dX9_keepsOne_17 : decode cX9_keepsOne 17 = .ok (.if_icmp .ge 48, 3) := by decide +kernel
theorem dX9_keepsOne_20 : decode cX9_keepsOne 20 = .ok (.aload_n 0, 1) := by decide +kernel
theorem dX9_keepsOne_21 : decode cX9_keepsOne 21 = .ok (.iload_n 1, 1) := by decide +kernel
theorem dX9_keepsOne_22 : decode cX9_keepsOne 22 = .ok (.iload_n 2, 1) := by decide +kernel
theorem dX9_keepsOne_23 : decode cX9_keepsOne 23 = .ok (.iload_n 3, 1) := by decide +kernel
theorem dX9_keepsOne_24 : decode cX9_keepsOne 24 = .ok (.aload_n 0, 1) := by decide +kernel
theorem dX9_keepsOne_25 : decode cX9_keepsOne 25 = .ok (.getfield 124, 3) := by decide +kernel
theorem dX9_keepsOne_28 : decode cX9_keepsOne 28 = .ok (.idiv, 1) := by decide +kernel
theorem dX9_keepsOne_29 : decode cX9_keepsOne 29 = .ok (.aload_n 0, 1) := by decide +kernel
theorem dX9_keepsOne_30 : decode cX9_keepsOne 30 = .ok (.getfield 124, 3) := by decide +kernel
theorem dX9_keepsOne_33 : decode cX9_keepsOne 33 = .ok (.idiv, 1) := by decide +kernel
theorem dX9_keepsOne_34 : decode cX9_keepsOne 34 = .ok (.iload_n 3, 1) := by decide +kernel
theorem dX9_keepsOne_35 : decode cX9_keepsOne 35 = .ok (.aload_n 0, 1) := by decide +kernel
theorem dX9_keepsOne_36 : decode cX9_keepsOne 36 = .ok (.getfield 124, 3) := by decide +kernel
theorem dX9_keepsOne_39 : decode cX9_keepsOne 39 = .ok (.idiv, 1) := by decide +kernel
theorem dX9_keepsOne_40 : decode cX9_keepsOne 40 = .ok (.aload_n 0, 1) := by decide +kernel
theorem dX9_keepsOne_41 : decode cX9_keepsOne 41 = .ok (.getfield 124, 3) := by decide +kernel
theorem dX9_keepsOne_44 : decode cX9_keepsOne 44 = .ok (.irem, 1) := by decide +kernel
theorem dX9_keepsOne_45 : decode cX9_keepsOne 45 = .ok (.iload_n 3, 1) := by decide +kernel
theorem dX9_keepsOne_46 : decode cX9_keepsOne 46 = .ok (.aload_n 0, 1) := by decide +kernel
theorem dX9_keepsOne_47 : decode cX9_keepsOne 47 = .ok (.getfield 124, 3) := by decide +kernel
theorem dX9_keepsOne_50 : decode cX9_keepsOne 50 = .ok (.irem, 1) := by decide +kernel
theorem dX9_keepsOne_51 : decode cX9_keepsOne 51 = .ok (.invokevirtual 130, 3) := by decide +kernel
theorem dX9_keepsOne_54 : decode cX9_keepsOne 54 = .ok (.ifCond .ne 5, 3) := by decide +kernel
theorem dX9_keepsOne_57 : decode cX9_keepsOne 57 = .ok (.iconst 0, 1) := by decide +kernel
theorem dX9_keepsOne_58 : decode cX9_keepsOne 58 = .ok (.ireturn, 1) := by decide +kernel
theorem dX9_keepsOne_59 : decode cX9_keepsOne 59 = .ok (.iinc 3 1, 3) := by decide +kernel
theorem dX9_keepsOne_62 : decode cX9_keepsOne 62 = .ok (.goto (-60), 3) := by decide +kernel
theorem dX9_keepsOne_65 : decode cX9_keepsOne 65 = .ok (.iconst 1, 1) := by decide +kernel
theorem dX9_keepsOne_66 : decode cX9_keepsOne 66 = .ok (.ireturn, 1) := by decide +kernel
theorem dX9_layBroken_0 : decode cX9_layBroken 0 = .ok (.iconst 0, 1) := by decide +kernel
theorem dX9_layBroken_1 : decode cX9_layBroken 1 = .ok (.istore 5, 2) := by decide +kernel
theorem dX9_layBroken_3 : decode cX9_layBroken 3 = .ok (.iload 5, 2) := by decide +kernel
theorem dX9_layBroken_5 : decode cX9_layBroken 5 = .ok (.sipush 19700, 3) := by decide +kernel
theorem dX9_layBroken_8 : decode cX9_layBroken 8 = .ok (.if_icmp .ge 14, 3) := by decide +kernel
theorem dX9_layBroken_11 : decode cX9_layBroken 11 = .ok (.aload_n 1, 1) := by decide +kernel
theorem dX9_layBroken_12 : decode cX9_layBroken 12 = .ok (.iload 5, 2) := by decide +kernel
theorem dX9_layBroken_14 : decode cX9_layBroken 14 = .ok (.iconst 0, 1) := by decide +kernel
theorem dX9_layBroken_15 : decode cX9_layBroken 15 = .ok (.iastore, 1) := by decide +kernel
theorem dX9_layBroken_16 : decode cX9_layBroken 16 = .ok (.iinc 5 1, 3) := by decide +kernel
theorem dX9_layBroken_19 : decode cX9_layBroken 19 = .ok (.goto (-16), 3) := by decide +kernel
theorem dX9_layBroken_22 : decode cX9_layBroken 22 = .ok (.iconst 0, 1) := by decide +kernel
theorem dX9_layBroken_23 : decode cX9_layBroken 23 = .ok (.istore 5, 2) := by decide +kernel
theorem dX9_layBroken_25 : decode cX9_layBroken 25 = .ok (.iload 5, 2) := by decide +kernel
theorem dX9_layBroken_27 : decode cX9_layBroken 27 = .ok (.iload 4, 2) := by decide +kernel
theorem dX9_layBroken_29 : decode cX9_layBroken 29 = .ok (.if_icmp .ge 74, 3) := by decide +kernel
theorem dX9_layBroken_32 : decode cX9_layBroken 32 = .ok (.aload_n 0, 1) := by decide +kernel
theorem dX9_layBroken_33 : decode cX9_layBroken 33 = .ok (.aload_n 2, 1) := by decide +kernel
theorem dX9_layBroken_34 : decode cX9_layBroken 34 = .ok (.iload 5, 2) := by decide +kernel
theorem dX9_layBroken_36 : decode cX9_layBroken 36 = .ok (.iaload, 1) := by decide +kernel
theorem dX9_layBroken_37 : decode cX9_layBroken 37 = .ok (.aload_n 3, 1) := by decide +kernel
theorem dX9_layBroken_38 : decode cX9_layBroken 38 = .ok (.iload 5, 2) := by decide +kernel
theorem dX9_layBroken_40 : decode cX9_layBroken 40 = .ok (.iaload, 1) := by decide +kernel
theorem dX9_layBroken_41 : decode cX9_layBroken 41 = .ok (.invokevirtual 134, 3) := by decide +kernel
theorem dX9_layBroken_44 : decode cX9_layBroken 44 = .ok (.iconst 0, 1) := by decide +kernel
theorem dX9_layBroken_45 : decode cX9_layBroken 45 = .ok (.istore 6, 2) := by decide +kernel
theorem dX9_layBroken_47 : decode cX9_layBroken 47 = .ok (.iload 6, 2) := by decide +kernel
theorem dX9_layBroken_49 : decode cX9_layBroken 49 = .ok (.sipush 19700, 3) := by decide +kernel
theorem dX9_layBroken_52 : decode cX9_layBroken 52 = .ok (.if_icmp .ge 45, 3) := by decide +kernel
theorem dX9_layBroken_55 : decode cX9_layBroken 55 = .ok (.aload_n 0, 1) := by decide +kernel
theorem dX9_layBroken_56 : decode cX9_layBroken 56 = .ok (.iload 6, 2) := by decide +kernel
theorem dX9_layBroken_58 : decode cX9_layBroken 58 = .ok (.invokevirtual 138, 3) := by decide +kernel
theorem dX9_layBroken_61 : decode cX9_layBroken 61 = .ok (.aload_n 1, 1) := by decide +kernel
theorem dX9_layBroken_62 : decode cX9_layBroken 62 = .ok (.iload 6, 2) := by decide +kernel
theorem dX9_layBroken_64 : decode cX9_layBroken 64 = .ok (.dup2, 1) := by decide +kernel
theorem dX9_layBroken_65 : decode cX9_layBroken 65 = .ok (.iaload, 1) := by decide +kernel
theorem dX9_layBroken_66 : decode cX9_layBroken 66 = .ok (.aload_n 0, 1) := by decide +kernel
theorem dX9_layBroken_67 : decode cX9_layBroken 67 = .ok (.aload_n 2, 1) := by decide +kernel
theorem dX9_layBroken_68 : decode cX9_layBroken 68 = .ok (.iload 5, 2) := by decide +kernel
theorem dX9_layBroken_70 : decode cX9_layBroken 70 = .ok (.iaload, 1) := by decide +kernel
theorem dX9_layBroken_71 : decode cX9_layBroken 71 = .ok (.aload_n 3, 1) := by decide +kernel
theorem dX9_layBroken_72 : decode cX9_layBroken 72 = .ok (.iload 5, 2) := by decide +kernel
theorem dX9_layBroken_74 : decode cX9_layBroken 74 = .ok (.iaload, 1) := by decide +kernel
theorem dX9_layBroken_75 : decode cX9_layBroken 75 = .ok (.invokevirtual 142, 3) := by decide +kernel
theorem dX9_layBroken_78 : decode cX9_layBroken 78 = .ok (.ifCond .eq 7, 3) := by decide +kernel
theorem dX9_layBroken_81 : decode cX9_layBroken 81 = .ok (.iconst 0, 1) := by decide +kernel
theorem dX9_layBroken_82 : decode cX9_layBroken 82 = .ok (.goto 7, 3) := by decide +kernel
theorem dX9_layBroken_85 : decode cX9_layBroken 85 = .ok (.iconst 1, 1) := by decide +kernel
theorem dX9_layBroken_86 : decode cX9_layBroken 86 = .ok (.iload 5, 2) := by decide +kernel
theorem dX9_layBroken_88 : decode cX9_layBroken 88 = .ok (.ishl, 1) := by decide +kernel
theorem dX9_layBroken_89 : decode cX9_layBroken 89 = .ok (.ior, 1) := by decide +kernel
theorem dX9_layBroken_90 : decode cX9_layBroken 90 = .ok (.iastore, 1) := by decide +kernel
theorem dX9_layBroken_91 : decode cX9_layBroken 91 = .ok (.iinc 6 1, 3) := by decide +kernel
theorem dX9_layBroken_94 : decode cX9_layBroken 94 = .ok (.goto (-47), 3) := by decide +kernel
theorem dX9_layBroken_97 : decode cX9_layBroken 97 = .ok (.iinc 5 1, 3) := by decide +kernel
theorem dX9_layBroken_100 : decode cX9_layBroken 100 = .ok (.goto (-75), 3) := by decide +kernel
theorem dX9_layBroken_103 : decode cX9_layBroken 103 = .ok (.return_, 1) := by decide +kernel
theorem dX9_renamed_0 : decode cX9_renamed 0 = .ok (.aload_n 0, 1) := by decide +kernel
theorem dX9_renamed_1 : decode cX9_renamed 1 = .ok (.getfield 45, 3) := by decide +kernel
theorem dX9_renamed_4 : decode cX9_renamed 4 = .ok (.iconst 0, 1) := by decide +kernel
theorem dX9_renamed_5 : decode cX9_renamed 5 = .ok (.aload_n 0, 1) := by decide +kernel
theorem dX9_renamed_6 : decode cX9_renamed 6 = .ok (.getfield 124, 3) := by decide +kernel
theorem dX9_renamed_9 : decode cX9_renamed 9 = .ok (.iconst 3, 1) := by decide +kernel
theorem dX9_renamed_10 : decode cX9_renamed 10 = .ok (.if_icmp .ne 9, 3) := by decide +kernel
theorem dX9_renamed_13 : decode cX9_renamed 13 = .ok (.iload_n 1, 1) := by decide +kernel
theorem dX9_renamed_14 : decode cX9_renamed 14 = .ok (.iconst 2, 1) := by decide +kernel
theorem dX9_renamed_15 : decode cX9_renamed 15 = .ok (.idiv, 1) := by decide +kernel
theorem dX9_renamed_16 : decode cX9_renamed 16 = .ok (.goto 6, 3) := by decide +kernel
theorem dX9_renamed_19 : decode cX9_renamed 19 = .ok (.iload_n 1, 1) := by decide +kernel
theorem dX9_renamed_20 : decode cX9_renamed 20 = .ok (.iconst 2, 1) := by decide +kernel
theorem dX9_renamed_21 : decode cX9_renamed 21 = .ok (.irem, 1) := by decide +kernel
theorem dX9_renamed_22 : decode cX9_renamed 22 = .ok (.iastore, 1) := by decide +kernel
theorem dX9_renamed_23 : decode cX9_renamed 23 = .ok (.aload_n 0, 1) := by decide +kernel
theorem dX9_renamed_24 : decode cX9_renamed 24 = .ok (.getfield 45, 3) := by decide +kernel
theorem dX9_renamed_27 : decode cX9_renamed 27 = .ok (.iconst 1, 1) := by decide +kernel
theorem dX9_renamed_28 : decode cX9_renamed 28 = .ok (.aload_n 0, 1) := by decide +kernel
theorem dX9_renamed_29 : decode cX9_renamed 29 = .ok (.getfield 124, 3) := by decide +kernel
theorem dX9_renamed_32 : decode cX9_renamed 32 = .ok (.iconst 3, 1) := by decide +kernel
theorem dX9_renamed_33 : decode cX9_renamed 33 = .ok (.if_icmp .ne 35, 3) := by decide +kernel
theorem dX9_renamed_36 : decode cX9_renamed 36 = .ok (.iload_n 1, 1) := by decide +kernel
theorem dX9_renamed_37 : decode cX9_renamed 37 = .ok (.iconst 2, 1) := by decide +kernel
theorem dX9_renamed_38 : decode cX9_renamed 38 = .ok (.irem, 1) := by decide +kernel
theorem dX9_renamed_39 : decode cX9_renamed 39 = .ok (.ifCond .ne 16, 3) := by decide +kernel
theorem dX9_renamed_42 : decode cX9_renamed 42 = .ok (.aload_n 0, 1) := by decide +kernel
theorem dX9_renamed_43 : decode cX9_renamed 43 = .ok (.getfield 45, 3) := by decide +kernel
theorem dX9_renamed_46 : decode cX9_renamed 46 = .ok (.iconst 0, 1) := by decide +kernel
theorem dX9_renamed_47 : decode cX9_renamed 47 = .ok (.iaload, 1) := by decide +kernel
theorem dX9_renamed_48 : decode cX9_renamed 48 = .ok (.iconst 1, 1) := by decide +kernel
theorem dX9_renamed_49 : decode cX9_renamed 49 = .ok (.iadd, 1) := by decide +kernel
theorem dX9_renamed_50 : decode cX9_renamed 50 = .ok (.iconst 3, 1) := by decide +kernel
theorem dX9_renamed_51 : decode cX9_renamed 51 = .ok (.irem, 1) := by decide +kernel
theorem dX9_renamed_52 : decode cX9_renamed 52 = .ok (.goto 21, 3) := by decide +kernel
theorem dX9_renamed_55 : decode cX9_renamed 55 = .ok (.aload_n 0, 1) := by decide +kernel
theorem dX9_renamed_56 : decode cX9_renamed 56 = .ok (.getfield 45, 3) := by decide +kernel
theorem dX9_renamed_59 : decode cX9_renamed 59 = .ok (.iconst 0, 1) := by decide +kernel
theorem dX9_renamed_60 : decode cX9_renamed 60 = .ok (.iaload, 1) := by decide +kernel
theorem dX9_renamed_61 : decode cX9_renamed 61 = .ok (.iconst 2, 1) := by decide +kernel
theorem dX9_renamed_62 : decode cX9_renamed 62 = .ok (.iadd, 1) := by decide +kernel
theorem dX9_renamed_63 : decode cX9_renamed 63 = .ok (.iconst 3, 1) := by decide +kernel
theorem dX9_renamed_64 : decode cX9_renamed 64 = .ok (.irem, 1) := by decide +kernel
theorem dX9_renamed_65 : decode cX9_renamed 65 = .ok (.goto 8, 3) := by decide +kernel
theorem dX9_renamed_68 : decode cX9_renamed 68 = .ok (.iconst 1, 1) := by decide +kernel
theorem dX9_renamed_69 : decode cX9_renamed 69 = .ok (.iload_n 1, 1) := by decide +kernel
theorem dX9_renamed_70 : decode cX9_renamed 70 = .ok (.iconst 2, 1) := by decide +kernel
theorem dX9_renamed_71 : decode cX9_renamed 71 = .ok (.irem, 1) := by decide +kernel
theorem dX9_renamed_72 : decode cX9_renamed 72 = .ok (.isub, 1) := by decide +kernel
theorem dX9_renamed_73 : decode cX9_renamed 73 = .ok (.iastore, 1) := by decide +kernel
theorem dX9_renamed_74 : decode cX9_renamed 74 = .ok (.aload_n 0, 1) := by decide +kernel
theorem dX9_renamed_75 : decode cX9_renamed 75 = .ok (.getfield 45, 3) := by decide +kernel
theorem dX9_renamed_78 : decode cX9_renamed 78 = .ok (.iconst 2, 1) := by decide +kernel
theorem dX9_renamed_79 : decode cX9_renamed 79 = .ok (.iconst 3, 1) := by decide +kernel
theorem dX9_renamed_80 : decode cX9_renamed 80 = .ok (.aload_n 0, 1) := by decide +kernel
theorem dX9_renamed_81 : decode cX9_renamed 81 = .ok (.getfield 45, 3) := by decide +kernel
theorem dX9_renamed_84 : decode cX9_renamed 84 = .ok (.iconst 0, 1) := by decide +kernel
theorem dX9_renamed_85 : decode cX9_renamed 85 = .ok (.iaload, 1) := by decide +kernel
theorem dX9_renamed_86 : decode cX9_renamed 86 = .ok (.isub, 1) := by decide +kernel
theorem dX9_renamed_87 : decode cX9_renamed 87 = .ok (.aload_n 0, 1) := by decide +kernel
theorem dX9_renamed_88 : decode cX9_renamed 88 = .ok (.getfield 45, 3) := by decide +kernel
theorem dX9_renamed_91 : decode cX9_renamed 91 = .ok (.iconst 1, 1) := by decide +kernel
theorem dX9_renamed_92 : decode cX9_renamed 92 = .ok (.iaload, 1) := by decide +kernel
theorem dX9_renamed_93 : decode cX9_renamed 93 = .ok (.isub, 1) := by decide +kernel
theorem dX9_renamed_94 : decode cX9_renamed 94 = .ok (.iastore, 1) := by decide +kernel
theorem dX9_renamed_95 : decode cX9_renamed 95 = .ok (.iconst 0, 1) := by decide +kernel
theorem dX9_renamed_96 : decode cX9_renamed 96 = .ok (.istore_n 2, 1) := by decide +kernel
theorem dX9_renamed_97 : decode cX9_renamed 97 = .ok (.iconst 0, 1) := by decide +kernel
theorem dX9_renamed_98 : decode cX9_renamed 98 = .ok (.istore_n 3, 1) := by decide +kernel
theorem dX9_renamed_99 : decode cX9_renamed 99 = .ok (.iload_n 3, 1) := by decide +kernel
theorem dX9_renamed_100 : decode cX9_renamed 100 = .ok (.aload_n 0, 1) := by decide +kernel
theorem dX9_renamed_101 : decode cX9_renamed 101 = .ok (.getfield 124, 3) := by decide +kernel
theorem dX9_renamed_104 : decode cX9_renamed 104 = .ok (.aload_n 0, 1) := by decide +kernel
theorem dX9_renamed_105 : decode cX9_renamed 105 = .ok (.getfield 124, 3) := by decide +kernel
theorem dX9_renamed_108 : decode cX9_renamed 108 = .ok (.imul, 1) := by decide +kernel
theorem dX9_renamed_109 : decode cX9_renamed 109 = .ok (.if_icmp .ge 61, 3) := by decide +kernel
theorem dX9_renamed_112 : decode cX9_renamed 112 = .ok (.aload_n 0, 1) := by decide +kernel
theorem dX9_renamed_113 : decode cX9_renamed 113 = .ok (.iload_n 3, 1) := by decide +kernel
theorem dX9_renamed_114 : decode cX9_renamed 114 = .ok (.aload_n 0, 1) := by decide +kernel
theorem dX9_renamed_115 : decode cX9_renamed 115 = .ok (.getfield 124, 3) := by decide +kernel
theorem dX9_renamed_118 : decode cX9_renamed 118 = .ok (.idiv, 1) := by decide +kernel
theorem dX9_renamed_119 : decode cX9_renamed 119 = .ok (.invokevirtual 146, 3) := by decide +kernel
theorem dX9_renamed_122 : decode cX9_renamed 122 = .ok (.istore 4, 2) := by decide +kernel
theorem dX9_renamed_124 : decode cX9_renamed 124 = .ok (.aload_n 0, 1) := by decide +kernel
theorem dX9_renamed_125 : decode cX9_renamed 125 = .ok (.iload_n 3, 1) := by decide +kernel
theorem dX9_renamed_126 : decode cX9_renamed 126 = .ok (.aload_n 0, 1) := by decide +kernel
theorem dX9_renamed_127 : decode cX9_renamed 127 = .ok (.getfield 124, 3) := by decide +kernel
theorem dX9_renamed_130 : decode cX9_renamed 130 = .ok (.irem, 1) := by decide +kernel
theorem dX9_renamed_131 : decode cX9_renamed 131 = .ok (.invokevirtual 146, 3) := by decide +kernel
theorem dX9_renamed_134 : decode cX9_renamed 134 = .ok (.istore 5, 2) := by decide +kernel
theorem dX9_renamed_136 : decode cX9_renamed 136 = .ok (.iload_n 2, 1) := by decide +kernel
theorem dX9_renamed_137 : decode cX9_renamed 137 = .ok (.aload_n 0, 1) := by decide +kernel
theorem dX9_renamed_138 : decode cX9_renamed 138 = .ok (.getfield 124, 3) := by decide +kernel
theorem dX9_renamed_141 : decode cX9_renamed 141 = .ok (.imul, 1) := by decide +kernel
theorem dX9_renamed_142 : decode cX9_renamed 142 = .ok (.aload_n 0, 1) := by decide +kernel
theorem dX9_renamed_143 : decode cX9_renamed 143 = .ok (.getfield 45, 3) := by decide +kernel
theorem dX9_renamed_146 : decode cX9_renamed 146 = .ok (.aload_n 0, 1) := by decide +kernel
theorem dX9_renamed_147 : decode cX9_renamed 147 = .ok (.getfield 29, 3) := by decide +kernel
theorem dX9_renamed_150 : decode cX9_renamed 150 = .ok (.aload_n 0, 1) := by decide +kernel
theorem dX9_renamed_151 : decode cX9_renamed 151 = .ok (.getfield 124, 3) := by decide +kernel
theorem dX9_renamed_154 : decode cX9_renamed 154 = .ok (.iload 4, 2) := by decide +kernel
theorem dX9_renamed_156 : decode cX9_renamed 156 = .ok (.imul, 1) := by decide +kernel
theorem dX9_renamed_157 : decode cX9_renamed 157 = .ok (.iload 5, 2) := by decide +kernel
theorem dX9_renamed_159 : decode cX9_renamed 159 = .ok (.iadd, 1) := by decide +kernel
theorem dX9_renamed_160 : decode cX9_renamed 160 = .ok (.iaload, 1) := by decide +kernel
theorem dX9_renamed_161 : decode cX9_renamed 161 = .ok (.iaload, 1) := by decide +kernel
theorem dX9_renamed_162 : decode cX9_renamed 162 = .ok (.iadd, 1) := by decide +kernel
theorem dX9_renamed_163 : decode cX9_renamed 163 = .ok (.istore_n 2, 1) := by decide +kernel
theorem dX9_renamed_164 : decode cX9_renamed 164 = .ok (.iinc 3 1, 3) := by decide +kernel
theorem dX9_renamed_167 : decode cX9_renamed 167 = .ok (.goto (-68), 3) := by decide +kernel
theorem dX9_renamed_170 : decode cX9_renamed 170 = .ok (.iload_n 2, 1) := by decide +kernel
theorem dX9_renamed_171 : decode cX9_renamed 171 = .ok (.ireturn, 1) := by decide +kernel
theorem dX9_oldName_0 : decode cX9_oldName 0 = .ok (.aload_n 0, 1) := by decide +kernel
theorem dX9_oldName_1 : decode cX9_oldName 1 = .ok (.getfield 45, 3) := by decide +kernel
theorem dX9_oldName_4 : decode cX9_oldName 4 = .ok (.iconst 0, 1) := by decide +kernel
theorem dX9_oldName_5 : decode cX9_oldName 5 = .ok (.iaload, 1) := by decide +kernel
theorem dX9_oldName_6 : decode cX9_oldName 6 = .ok (.iload_n 1, 1) := by decide +kernel
theorem dX9_oldName_7 : decode cX9_oldName 7 = .ok (.if_icmp .ne 7, 3) := by decide +kernel
theorem dX9_oldName_10 : decode cX9_oldName 10 = .ok (.iconst 0, 1) := by decide +kernel
theorem dX9_oldName_11 : decode cX9_oldName 11 = .ok (.goto 18, 3) := by decide +kernel
theorem dX9_oldName_14 : decode cX9_oldName 14 = .ok (.aload_n 0, 1) := by decide +kernel
theorem dX9_oldName_15 : decode cX9_oldName 15 = .ok (.getfield 45, 3) := by decide +kernel
theorem dX9_oldName_18 : decode cX9_oldName 18 = .ok (.iconst 1, 1) := by decide +kernel
theorem dX9_oldName_19 : decode cX9_oldName 19 = .ok (.iaload, 1) := by decide +kernel
theorem dX9_oldName_20 : decode cX9_oldName 20 = .ok (.iload_n 1, 1) := by decide +kernel
theorem dX9_oldName_21 : decode cX9_oldName 21 = .ok (.if_icmp .ne 7, 3) := by decide +kernel
theorem dX9_oldName_24 : decode cX9_oldName 24 = .ok (.iconst 1, 1) := by decide +kernel
theorem dX9_oldName_25 : decode cX9_oldName 25 = .ok (.goto 4, 3) := by decide +kernel
theorem dX9_oldName_28 : decode cX9_oldName 28 = .ok (.iconst 2, 1) := by decide +kernel
theorem dX9_oldName_29 : decode cX9_oldName 29 = .ok (.ireturn, 1) := by decide +kernel
theorem dX9_leastName_0 : decode cX9_leastName 0 = .ok (.aload_n 0, 1) := by decide +kernel
theorem dX9_leastName_1 : decode cX9_leastName 1 = .ok (.getfield 124, 3) := by decide +kernel
theorem dX9_leastName_4 : decode cX9_leastName 4 = .ok (.iconst 1, 1) := by decide +kernel
theorem dX9_leastName_5 : decode cX9_leastName 5 = .ok (.if_icmp .ne 5, 3) := by decide +kernel
theorem dX9_leastName_8 : decode cX9_leastName 8 = .ok (.iconst 0, 1) := by decide +kernel
theorem dX9_leastName_9 : decode cX9_leastName 9 = .ok (.ireturn, 1) := by decide +kernel
theorem dX9_leastName_10 : decode cX9_leastName 10 = .ok (.ldc 149, 2) := by decide +kernel
theorem dX9_leastName_12 : decode cX9_leastName 12 = .ok (.istore_n 1, 1) := by decide +kernel
theorem dX9_leastName_13 : decode cX9_leastName 13 = .ok (.iconst 0, 1) := by decide +kernel
theorem dX9_leastName_14 : decode cX9_leastName 14 = .ok (.istore_n 2, 1) := by decide +kernel
theorem dX9_leastName_15 : decode cX9_leastName 15 = .ok (.iload_n 2, 1) := by decide +kernel
theorem dX9_leastName_16 : decode cX9_leastName 16 = .ok (.aload_n 0, 1) := by decide +kernel
theorem dX9_leastName_17 : decode cX9_leastName 17 = .ok (.getfield 124, 3) := by decide +kernel
theorem dX9_leastName_20 : decode cX9_leastName 20 = .ok (.iconst 2, 1) := by decide +kernel
theorem dX9_leastName_21 : decode cX9_leastName 21 = .ok (.if_icmp .ne 7, 3) := by decide +kernel
theorem dX9_leastName_24 : decode cX9_leastName 24 = .ok (.iconst 2, 1) := by decide +kernel
theorem dX9_leastName_25 : decode cX9_leastName 25 = .ok (.goto 5, 3) := by decide +kernel
theorem dX9_leastName_28 : decode cX9_leastName 28 = .ok (.bipush 6, 2) := by decide +kernel
theorem dX9_leastName_30 : decode cX9_leastName 30 = .ok (.if_icmp .ge 26, 3) := by decide +kernel
theorem dX9_leastName_33 : decode cX9_leastName 33 = .ok (.aload_n 0, 1) := by decide +kernel
theorem dX9_leastName_34 : decode cX9_leastName 34 = .ok (.iload_n 2, 1) := by decide +kernel
theorem dX9_leastName_35 : decode cX9_leastName 35 = .ok (.invokevirtual 150, 3) := by decide +kernel
theorem dX9_leastName_38 : decode cX9_leastName 38 = .ok (.istore_n 3, 1) := by decide +kernel
theorem dX9_leastName_39 : decode cX9_leastName 39 = .ok (.iload_n 3, 1) := by decide +kernel
theorem dX9_leastName_40 : decode cX9_leastName 40 = .ok (.iload_n 1, 1) := by decide +kernel
theorem dX9_leastName_41 : decode cX9_leastName 41 = .ok (.if_icmp .ge 7, 3) := by decide +kernel
theorem dX9_leastName_44 : decode cX9_leastName 44 = .ok (.iload_n 3, 1) := by decide +kernel
theorem dX9_leastName_45 : decode cX9_leastName 45 = .ok (.goto 4, 3) := by decide +kernel
theorem dX9_leastName_48 : decode cX9_leastName 48 = .ok (.iload_n 1, 1) := by decide +kernel
theorem dX9_leastName_49 : decode cX9_leastName 49 = .ok (.istore_n 1, 1) := by decide +kernel
theorem dX9_leastName_50 : decode cX9_leastName 50 = .ok (.iinc 2 1, 3) := by decide +kernel
theorem dX9_leastName_53 : decode cX9_leastName 53 = .ok (.goto (-38), 3) := by decide +kernel
theorem dX9_leastName_56 : decode cX9_leastName 56 = .ok (.iload_n 1, 1) := by decide +kernel
theorem dX9_leastName_57 : decode cX9_leastName 57 = .ok (.ireturn, 1) := by decide +kernel
theorem dX9_layAll_0 : decode cX9_layAll 0 = .ok (.aload_n 0, 1) := by decide +kernel
theorem dX9_layAll_1 : decode cX9_layAll 1 = .ok (.getfield 116, 3) := by decide +kernel
theorem dX9_layAll_4 : decode cX9_layAll 4 = .ok (.ifCond .eq 4, 3) := by decide +kernel
theorem dX9_layAll_7 : decode cX9_layAll 7 = .ok (.return_, 1) := by decide +kernel
theorem dX9_layAll_8 : decode cX9_layAll 8 = .ok (.aload_n 0, 1) := by decide +kernel
theorem dX9_layAll_9 : decode cX9_layAll 9 = .ok (.aload_n 0, 1) := by decide +kernel
theorem dX9_layAll_10 : decode cX9_layAll 10 = .ok (.getfield 39, 3) := by decide +kernel
theorem dX9_layAll_13 : decode cX9_layAll 13 = .ok (.aload_n 0, 1) := by decide +kernel
theorem dX9_layAll_14 : decode cX9_layAll 14 = .ok (.getfield 23, 3) := by decide +kernel
theorem dX9_layAll_17 : decode cX9_layAll 17 = .ok (.aload_n 0, 1) := by decide +kernel
theorem dX9_layAll_18 : decode cX9_layAll 18 = .ok (.getfield 26, 3) := by decide +kernel
theorem dX9_layAll_21 : decode cX9_layAll 21 = .ok (.aload_n 0, 1) := by decide +kernel
theorem dX9_layAll_22 : decode cX9_layAll 22 = .ok (.getfield 113, 3) := by decide +kernel
theorem dX9_layAll_25 : decode cX9_layAll 25 = .ok (.invokevirtual 153, 3) := by decide +kernel
theorem dX9_layAll_28 : decode cX9_layAll 28 = .ok (.aload_n 0, 1) := by decide +kernel
theorem dX9_layAll_29 : decode cX9_layAll 29 = .ok (.iconst 0, 1) := by decide +kernel
theorem dX9_layAll_30 : decode cX9_layAll 30 = .ok (.putfield 157, 3) := by decide +kernel
theorem dX9_layAll_33 : decode cX9_layAll 33 = .ok (.iconst 0, 1) := by decide +kernel
theorem dX9_layAll_34 : decode cX9_layAll 34 = .ok (.istore_n 1, 1) := by decide +kernel
theorem dX9_layAll_35 : decode cX9_layAll 35 = .ok (.iload_n 1, 1) := by decide +kernel
theorem dX9_layAll_36 : decode cX9_layAll 36 = .ok (.sipush 19700, 3) := by decide +kernel
theorem dX9_layAll_39 : decode cX9_layAll 39 = .ok (.if_icmp .ge 59, 3) := by decide +kernel
theorem dX9_layAll_42 : decode cX9_layAll 42 = .ok (.aload_n 0, 1) := by decide +kernel
theorem dX9_layAll_43 : decode cX9_layAll 43 = .ok (.getfield 39, 3) := by decide +kernel
theorem dX9_layAll_46 : decode cX9_layAll 46 = .ok (.iload_n 1, 1) := by decide +kernel
theorem dX9_layAll_47 : decode cX9_layAll 47 = .ok (.iaload, 1) := by decide +kernel
theorem dX9_layAll_48 : decode cX9_layAll 48 = .ok (.ifCond .ne 44, 3) := by decide +kernel
theorem dX9_layAll_51 : decode cX9_layAll 51 = .ok (.aload_n 0, 1) := by decide +kernel
theorem dX9_layAll_52 : decode cX9_layAll 52 = .ok (.iload_n 1, 1) := by decide +kernel
theorem dX9_layAll_53 : decode cX9_layAll 53 = .ok (.invokevirtual 138, 3) := by decide +kernel
theorem dX9_layAll_56 : decode cX9_layAll 56 = .ok (.aload_n 0, 1) := by decide +kernel
theorem dX9_layAll_57 : decode cX9_layAll 57 = .ok (.invokevirtual 160, 3) := by decide +kernel
theorem dX9_layAll_60 : decode cX9_layAll 60 = .ok (.iload_n 1, 1) := by decide +kernel
theorem dX9_layAll_61 : decode cX9_layAll 61 = .ok (.aload_n 0, 1) := by decide +kernel
theorem dX9_layAll_62 : decode cX9_layAll 62 = .ok (.getfield 124, 3) := by decide +kernel
theorem dX9_layAll_65 : decode cX9_layAll 65 = .ok (.invokestatic 127, 3) := by decide +kernel
theorem dX9_layAll_68 : decode cX9_layAll 68 = .ok (.isub, 1) := by decide +kernel
theorem dX9_layAll_69 : decode cX9_layAll 69 = .ok (.if_icmp .ne 23, 3) := by decide +kernel
theorem dX9_layAll_72 : decode cX9_layAll 72 = .ok (.aload_n 0, 1) := by decide +kernel
theorem dX9_layAll_73 : decode cX9_layAll 73 = .ok (.getfield 48, 3) := by decide +kernel
theorem dX9_layAll_76 : decode cX9_layAll 76 = .ok (.aload_n 0, 1) := by decide +kernel
theorem dX9_layAll_77 : decode cX9_layAll 77 = .ok (.getfield 157, 3) := by decide +kernel
theorem dX9_layAll_80 : decode cX9_layAll 80 = .ok (.iload_n 1, 1) := by decide +kernel
theorem dX9_layAll_81 : decode cX9_layAll 81 = .ok (.iastore, 1) := by decide +kernel
theorem dX9_layAll_82 : decode cX9_layAll 82 = .ok (.aload_n 0, 1) := by decide +kernel
theorem dX9_layAll_83 : decode cX9_layAll 83 = .ok (.dup, 1) := by decide +kernel
theorem dX9_layAll_84 : decode cX9_layAll 84 = .ok (.getfield 157, 3) := by decide +kernel
theorem dX9_layAll_87 : decode cX9_layAll 87 = .ok (.iconst 1, 1) := by decide +kernel
theorem dX9_layAll_88 : decode cX9_layAll 88 = .ok (.iadd, 1) := by decide +kernel
theorem dX9_layAll_89 : decode cX9_layAll 89 = .ok (.putfield 157, 3) := by decide +kernel
theorem dX9_layAll_92 : decode cX9_layAll 92 = .ok (.iinc 1 1, 3) := by decide +kernel
theorem dX9_layAll_95 : decode cX9_layAll 95 = .ok (.goto (-60), 3) := by decide +kernel
theorem dX9_layAll_98 : decode cX9_layAll 98 = .ok (.aload_n 0, 1) := by decide +kernel
theorem dX9_layAll_99 : decode cX9_layAll 99 = .ok (.iconst 1, 1) := by decide +kernel
theorem dX9_layAll_100 : decode cX9_layAll 100 = .ok (.putfield 116, 3) := by decide +kernel
theorem dX9_layAll_103 : decode cX9_layAll 103 = .ok (.aload_n 0, 1) := by decide +kernel
theorem dX9_layAll_104 : decode cX9_layAll 104 = .ok (.iconst 0, 1) := by decide +kernel
theorem dX9_layAll_105 : decode cX9_layAll 105 = .ok (.putfield 164, 3) := by decide +kernel
theorem dX9_layAll_108 : decode cX9_layAll 108 = .ok (.return_, 1) := by decide +kernel
theorem dX9_isSize_0 : decode cX9_isSize 0 = .ok (.iload_n 0, 1) := by decide +kernel
theorem dX9_isSize_1 : decode cX9_isSize 1 = .ok (.i2l, 1) := by decide +kernel
theorem dX9_isSize_2 : decode cX9_isSize 2 = .ok (.lconst 1, 1) := by decide +kernel
theorem dX9_isSize_3 : decode cX9_isSize 3 = .ok (.ldc2_w 167, 3) := by decide +kernel
theorem dX9_isSize_6 : decode cX9_isSize 6 = .ok (.invokestatic 105, 3) := by decide +kernel
theorem dX9_isSize_9 : decode cX9_isSize 9 = .ok (.ireturn, 1) := by decide +kernel
theorem dX9_isWorldOf_0 : decode cX9_isWorldOf 0 = .ok (.iload_n 0, 1) := by decide +kernel
theorem dX9_isWorldOf_1 : decode cX9_isWorldOf 1 = .ok (.invokestatic 169, 3) := by decide +kernel
theorem dX9_isWorldOf_4 : decode cX9_isWorldOf 4 = .ok (.ifCond .eq 23, 3) := by decide +kernel
theorem dX9_isWorldOf_7 : decode cX9_isWorldOf 7 = .ok (.iload_n 1, 1) := by decide +kernel
theorem dX9_isWorldOf_8 : decode cX9_isWorldOf 8 = .ok (.i2l, 1) := by decide +kernel
theorem dX9_isWorldOf_9 : decode cX9_isWorldOf 9 = .ok (.lconst 0, 1) := by decide +kernel
theorem dX9_isWorldOf_10 : decode cX9_isWorldOf 10 = .ok (.iload_n 0, 1) := by decide +kernel
theorem dX9_isWorldOf_11 : decode cX9_isWorldOf 11 = .ok (.invokestatic 172, 3) := by decide +kernel
theorem dX9_isWorldOf_14 : decode cX9_isWorldOf 14 = .ok (.iconst 1, 1) := by decide +kernel
theorem dX9_isWorldOf_15 : decode cX9_isWorldOf 15 = .ok (.isub, 1) := by decide +kernel
theorem dX9_isWorldOf_16 : decode cX9_isWorldOf 16 = .ok (.i2l, 1) := by decide +kernel
theorem dX9_isWorldOf_17 : decode cX9_isWorldOf 17 = .ok (.invokestatic 105, 3) := by decide +kernel
theorem dX9_isWorldOf_20 : decode cX9_isWorldOf 20 = .ok (.ifCond .eq 7, 3) := by decide +kernel
theorem dX9_isWorldOf_23 : decode cX9_isWorldOf 23 = .ok (.iconst 1, 1) := by decide +kernel
theorem dX9_isWorldOf_24 : decode cX9_isWorldOf 24 = .ok (.goto 4, 3) := by decide +kernel
theorem dX9_isWorldOf_27 : decode cX9_isWorldOf 27 = .ok (.iconst 0, 1) := by decide +kernel
theorem dX9_isWorldOf_28 : decode cX9_isWorldOf 28 = .ok (.ireturn, 1) := by decide +kernel
theorem dX9_worlds_0 : decode cX9_worlds 0 = .ok (.iload_n 1, 1) := by decide +kernel
theorem dX9_worlds_1 : decode cX9_worlds 1 = .ok (.invokestatic 169, 3) := by decide +kernel
theorem dX9_worlds_4 : decode cX9_worlds 4 = .ok (.ifCond .ne 6, 3) := by decide +kernel
theorem dX9_worlds_7 : decode cX9_worlds 7 = .ok (.bipush (-2), 2) := by decide +kernel
theorem dX9_worlds_9 : decode cX9_worlds 9 = .ok (.ireturn, 1) := by decide +kernel
theorem dX9_worlds_10 : decode cX9_worlds 10 = .ok (.aload_n 0, 1) := by decide +kernel
theorem dX9_worlds_11 : decode cX9_worlds 11 = .ok (.invokevirtual 175, 3) := by decide +kernel
theorem dX9_worlds_14 : decode cX9_worlds 14 = .ok (.iconst 0, 1) := by decide +kernel
theorem dX9_worlds_15 : decode cX9_worlds 15 = .ok (.istore_n 3, 1) := by decide +kernel
theorem dX9_worlds_16 : decode cX9_worlds 16 = .ok (.iload_n 1, 1) := by decide +kernel
theorem dX9_worlds_17 : decode cX9_worlds 17 = .ok (.invokestatic 127, 3) := by decide +kernel
theorem dX9_worlds_20 : decode cX9_worlds 20 = .ok (.istore 4, 2) := by decide +kernel
theorem dX9_worlds_22 : decode cX9_worlds 22 = .ok (.iload 4, 2) := by decide +kernel
theorem dX9_worlds_24 : decode cX9_worlds 24 = .ok (.iload_n 1, 1) := by decide +kernel
theorem dX9_worlds_25 : decode cX9_worlds 25 = .ok (.invokestatic 127, 3) := by decide +kernel
theorem dX9_worlds_28 : decode cX9_worlds 28 = .ok (.iload_n 1, 1) := by decide +kernel
theorem dX9_worlds_29 : decode cX9_worlds 29 = .ok (.invokestatic 172, 3) := by decide +kernel
theorem dX9_worlds_32 : decode cX9_worlds 32 = .ok (.iadd, 1) := by decide +kernel
theorem dX9_worlds_33 : decode cX9_worlds 33 = .ok (.if_icmp .ge 31, 3) := by decide +kernel
theorem dX9_worlds_36 : decode cX9_worlds 36 = .ok (.iload_n 2, 1) := by decide +kernel
theorem dX9_worlds_37 : decode cX9_worlds 37 = .ok (.ifCond .ne 27, 3) := by decide +kernel
theorem dX9_worlds_40 : decode cX9_worlds 40 = .ok (.iload_n 3, 1) := by decide +kernel
theorem dX9_worlds_41 : decode cX9_worlds 41 = .ok (.aload_n 0, 1) := by decide +kernel
theorem dX9_worlds_42 : decode cX9_worlds 42 = .ok (.getfield 39, 3) := by decide +kernel
theorem dX9_worlds_45 : decode cX9_worlds 45 = .ok (.iload 4, 2) := by decide +kernel
theorem dX9_worlds_47 : decode cX9_worlds 47 = .ok (.iaload, 1) := by decide +kernel
theorem dX9_worlds_48 : decode cX9_worlds 48 = .ok (.ifCond .ne 7, 3) := by decide +kernel
theorem dX9_worlds_51 : decode cX9_worlds 51 = .ok (.iconst 1, 1) := by decide +kernel
theorem dX9_worlds_52 : decode cX9_worlds 52 = .ok (.goto 4, 3) := by decide +kernel
theorem dX9_worlds_55 : decode cX9_worlds 55 = .ok (.iconst 0, 1) := by decide +kernel
theorem dX9_worlds_56 : decode cX9_worlds 56 = .ok (.iadd, 1) := by decide +kernel
theorem dX9_worlds_57 : decode cX9_worlds 57 = .ok (.istore_n 3, 1) := by decide +kernel
theorem dX9_worlds_58 : decode cX9_worlds 58 = .ok (.iinc 4 1, 3) := by decide +kernel
theorem dX9_worlds_61 : decode cX9_worlds 61 = .ok (.goto (-39), 3) := by decide +kernel
theorem dX9_worlds_64 : decode cX9_worlds 64 = .ok (.iconst 0, 1) := by decide +kernel
theorem dX9_worlds_65 : decode cX9_worlds 65 = .ok (.istore 4, 2) := by decide +kernel
theorem dX9_worlds_67 : decode cX9_worlds 67 = .ok (.iload 4, 2) := by decide +kernel
theorem dX9_worlds_69 : decode cX9_worlds 69 = .ok (.aload_n 0, 1) := by decide +kernel
theorem dX9_worlds_70 : decode cX9_worlds 70 = .ok (.getfield 157, 3) := by decide +kernel
theorem dX9_worlds_73 : decode cX9_worlds 73 = .ok (.if_icmp .ge 35, 3) := by decide +kernel
theorem dX9_worlds_76 : decode cX9_worlds 76 = .ok (.iload_n 2, 1) := by decide +kernel
theorem dX9_worlds_77 : decode cX9_worlds 77 = .ok (.ifCond .eq 31, 3) := by decide +kernel
theorem dX9_worlds_80 : decode cX9_worlds 80 = .ok (.iload_n 3, 1) := by decide +kernel
theorem dX9_worlds_81 : decode cX9_worlds 81 = .ok (.aload_n 0, 1) := by decide +kernel
theorem dX9_worlds_82 : decode cX9_worlds 82 = .ok (.getfield 48, 3) := by decide +kernel
theorem dX9_worlds_85 : decode cX9_worlds 85 = .ok (.iload 4, 2) := by decide +kernel
theorem dX9_worlds_87 : decode cX9_worlds 87 = .ok (.iaload, 1) := by decide +kernel
theorem dX9_worlds_88 : decode cX9_worlds 88 = .ok (.invokestatic 120, 3) := by decide +kernel
theorem dX9_worlds_91 : decode cX9_worlds 91 = .ok (.iload_n 1, 1) := by decide +kernel
theorem dX9_worlds_92 : decode cX9_worlds 92 = .ok (.if_icmp .ne 7, 3) := by decide +kernel
theorem dX9_worlds_95 : decode cX9_worlds 95 = .ok (.iconst 1, 1) := by decide +kernel
theorem dX9_worlds_96 : decode cX9_worlds 96 = .ok (.goto 4, 3) := by decide +kernel
theorem dX9_worlds_99 : decode cX9_worlds 99 = .ok (.iconst 0, 1) := by decide +kernel
theorem dX9_worlds_100 : decode cX9_worlds 100 = .ok (.iadd, 1) := by decide +kernel
theorem dX9_worlds_101 : decode cX9_worlds 101 = .ok (.istore_n 3, 1) := by decide +kernel
theorem dX9_worlds_102 : decode cX9_worlds 102 = .ok (.iinc 4 1, 3) := by decide +kernel
theorem dX9_worlds_105 : decode cX9_worlds 105 = .ok (.goto (-38), 3) := by decide +kernel
theorem dX9_worlds_108 : decode cX9_worlds 108 = .ok (.iload_n 3, 1) := by decide +kernel
theorem dX9_worlds_109 : decode cX9_worlds 109 = .ok (.ireturn, 1) := by decide +kernel
theorem dX9_number_0 : decode cX9_number 0 = .ok (.iload_n 1, 1) := by decide +kernel
theorem dX9_number_1 : decode cX9_number 1 = .ok (.invokestatic 169, 3) := by decide +kernel
theorem dX9_number_4 : decode cX9_number 4 = .ok (.ifCond .ne 6, 3) := by decide +kernel
theorem dX9_number_7 : decode cX9_number 7 = .ok (.bipush (-2), 2) := by decide +kernel
theorem dX9_number_9 : decode cX9_number 9 = .ok (.ireturn, 1) := by decide +kernel
theorem dX9_number_10 : decode cX9_number 10 = .ok (.aload_n 0, 1) := by decide +kernel
theorem dX9_number_11 : decode cX9_number 11 = .ok (.invokevirtual 175, 3) := by decide +kernel
theorem dX9_number_14 : decode cX9_number 14 = .ok (.iconst 0, 1) := by decide +kernel
theorem dX9_number_15 : decode cX9_number 15 = .ok (.istore_n 3, 1) := by decide +kernel
theorem dX9_number_16 : decode cX9_number 16 = .ok (.iconst 0, 1) := by decide +kernel
theorem dX9_number_17 : decode cX9_number 17 = .ok (.istore 4, 2) := by decide +kernel
theorem dX9_number_19 : decode cX9_number 19 = .ok (.iload 4, 2) := by decide +kernel
theorem dX9_number_21 : decode cX9_number 21 = .ok (.aload_n 0, 1) := by decide +kernel
theorem dX9_number_22 : decode cX9_number 22 = .ok (.getfield 157, 3) := by decide +kernel
theorem dX9_number_25 : decode cX9_number 25 = .ok (.if_icmp .ge 44, 3) := by decide +kernel
theorem dX9_number_28 : decode cX9_number 28 = .ok (.aload_n 0, 1) := by decide +kernel
theorem dX9_number_29 : decode cX9_number 29 = .ok (.getfield 48, 3) := by decide +kernel
theorem dX9_number_32 : decode cX9_number 32 = .ok (.iload 4, 2) := by decide +kernel
theorem dX9_number_34 : decode cX9_number 34 = .ok (.iaload, 1) := by decide +kernel
theorem dX9_number_35 : decode cX9_number 35 = .ok (.invokestatic 120, 3) := by decide +kernel
theorem dX9_number_38 : decode cX9_number 38 = .ok (.iload_n 1, 1) := by decide +kernel
theorem dX9_number_39 : decode cX9_number 39 = .ok (.if_icmp .ne 24, 3) := by decide +kernel
theorem dX9_number_42 : decode cX9_number 42 = .ok (.iload_n 3, 1) := by decide +kernel
theorem dX9_number_43 : decode cX9_number 43 = .ok (.iload_n 2, 1) := by decide +kernel
theorem dX9_number_44 : decode cX9_number 44 = .ok (.if_icmp .ne 16, 3) := by decide +kernel
theorem dX9_number_47 : decode cX9_number 47 = .ok (.aload_n 0, 1) := by decide +kernel
theorem dX9_number_48 : decode cX9_number 48 = .ok (.getfield 48, 3) := by decide +kernel
theorem dX9_number_51 : decode cX9_number 51 = .ok (.iload 4, 2) := by decide +kernel
theorem dX9_number_53 : decode cX9_number 53 = .ok (.iaload, 1) := by decide +kernel
theorem dX9_number_54 : decode cX9_number 54 = .ok (.iload_n 1, 1) := by decide +kernel
theorem dX9_number_55 : decode cX9_number 55 = .ok (.invokestatic 127, 3) := by decide +kernel
theorem dX9_number_58 : decode cX9_number 58 = .ok (.isub, 1) := by decide +kernel
theorem dX9_number_59 : decode cX9_number 59 = .ok (.ireturn, 1) := by decide +kernel
theorem dX9_number_60 : decode cX9_number 60 = .ok (.iinc 3 1, 3) := by decide +kernel
theorem dX9_number_63 : decode cX9_number 63 = .ok (.iinc 4 1, 3) := by decide +kernel
theorem dX9_number_66 : decode cX9_number 66 = .ok (.goto (-47), 3) := by decide +kernel
theorem dX9_number_69 : decode cX9_number 69 = .ok (.bipush (-9), 2) := by decide +kernel
theorem dX9_number_71 : decode cX9_number 71 = .ok (.ireturn, 1) := by decide +kernel
theorem dX9_keeps_0 : decode cX9_keeps 0 = .ok (.iload_n 1, 1) := by decide +kernel
theorem dX9_keeps_1 : decode cX9_keeps 1 = .ok (.iload_n 2, 1) := by decide +kernel
theorem dX9_keeps_2 : decode cX9_keeps 2 = .ok (.invokestatic 178, 3) := by decide +kernel
theorem dX9_keeps_5 : decode cX9_keeps 5 = .ok (.ifCond .ne 6, 3) := by decide +kernel
theorem dX9_keeps_8 : decode cX9_keeps 8 = .ok (.bipush (-2), 2) := by decide +kernel
theorem dX9_keeps_10 : decode cX9_keeps 10 = .ok (.ireturn, 1) := by decide +kernel
theorem dX9_keeps_11 : decode cX9_keeps 11 = .ok (.aload_n 0, 1) := by decide +kernel
theorem dX9_keeps_12 : decode cX9_keeps 12 = .ok (.invokevirtual 175, 3) := by decide +kernel
theorem dX9_keeps_15 : decode cX9_keeps 15 = .ok (.aload_n 0, 1) := by decide +kernel
theorem dX9_keeps_16 : decode cX9_keeps 16 = .ok (.getfield 39, 3) := by decide +kernel
theorem dX9_keeps_19 : decode cX9_keeps 19 = .ok (.iload_n 1, 1) := by decide +kernel
theorem dX9_keeps_20 : decode cX9_keeps 20 = .ok (.invokestatic 127, 3) := by decide +kernel
theorem dX9_keeps_23 : decode cX9_keeps 23 = .ok (.iload_n 2, 1) := by decide +kernel
theorem dX9_keeps_24 : decode cX9_keeps 24 = .ok (.iadd, 1) := by decide +kernel
theorem dX9_keeps_25 : decode cX9_keeps 25 = .ok (.iaload, 1) := by decide +kernel
theorem dX9_keeps_26 : decode cX9_keeps 26 = .ok (.ifCond .ne 7, 3) := by decide +kernel
theorem dX9_keeps_29 : decode cX9_keeps 29 = .ok (.iconst 1, 1) := by decide +kernel
theorem dX9_keeps_30 : decode cX9_keeps 30 = .ok (.goto 4, 3) := by decide +kernel
theorem dX9_keeps_33 : decode cX9_keeps 33 = .ok (.iconst 0, 1) := by decide +kernel
theorem dX9_keeps_34 : decode cX9_keeps 34 = .ok (.ireturn, 1) := by decide +kernel
theorem dX9_breaks_0 : decode cX9_breaks 0 = .ok (.iload_n 1, 1) := by decide +kernel
theorem dX9_breaks_1 : decode cX9_breaks 1 = .ok (.iload_n 2, 1) := by decide +kernel
theorem dX9_breaks_2 : decode cX9_breaks 2 = .ok (.invokestatic 178, 3) := by decide +kernel
theorem dX9_breaks_5 : decode cX9_breaks 5 = .ok (.ifCond .ne 6, 3) := by decide +kernel
theorem dX9_breaks_8 : decode cX9_breaks 8 = .ok (.bipush (-2), 2) := by decide +kernel
theorem dX9_breaks_10 : decode cX9_breaks 10 = .ok (.ireturn, 1) := by decide +kernel
theorem dX9_breaks_11 : decode cX9_breaks 11 = .ok (.aload_n 0, 1) := by decide +kernel
theorem dX9_breaks_12 : decode cX9_breaks 12 = .ok (.invokevirtual 175, 3) := by decide +kernel
theorem dX9_breaks_15 : decode cX9_breaks 15 = .ok (.iconst 0, 1) := by decide +kernel
theorem dX9_breaks_16 : decode cX9_breaks 16 = .ok (.istore_n 3, 1) := by decide +kernel
theorem dX9_breaks_17 : decode cX9_breaks 17 = .ok (.iload_n 3, 1) := by decide +kernel
theorem dX9_breaks_18 : decode cX9_breaks 18 = .ok (.aload_n 0, 1) := by decide +kernel
theorem dX9_breaks_19 : decode cX9_breaks 19 = .ok (.getfield 113, 3) := by decide +kernel
theorem dX9_breaks_22 : decode cX9_breaks 22 = .ok (.if_icmp .ge 30, 3) := by decide +kernel
theorem dX9_breaks_25 : decode cX9_breaks 25 = .ok (.aload_n 0, 1) := by decide +kernel
theorem dX9_breaks_26 : decode cX9_breaks 26 = .ok (.getfield 39, 3) := by decide +kernel
theorem dX9_breaks_29 : decode cX9_breaks 29 = .ok (.iload_n 1, 1) := by decide +kernel
theorem dX9_breaks_30 : decode cX9_breaks 30 = .ok (.invokestatic 127, 3) := by decide +kernel
theorem dX9_breaks_33 : decode cX9_breaks 33 = .ok (.iload_n 2, 1) := by decide +kernel
theorem dX9_breaks_34 : decode cX9_breaks 34 = .ok (.iadd, 1) := by decide +kernel
theorem dX9_breaks_35 : decode cX9_breaks 35 = .ok (.iaload, 1) := by decide +kernel
theorem dX9_breaks_36 : decode cX9_breaks 36 = .ok (.iload_n 3, 1) := by decide +kernel
theorem dX9_breaks_37 : decode cX9_breaks 37 = .ok (.ishr, 1) := by decide +kernel
theorem dX9_breaks_38 : decode cX9_breaks 38 = .ok (.iconst 1, 1) := by decide +kernel
theorem dX9_breaks_39 : decode cX9_breaks 39 = .ok (.iand, 1) := by decide +kernel
theorem dX9_breaks_40 : decode cX9_breaks 40 = .ok (.iconst 1, 1) := by decide +kernel
theorem dX9_breaks_41 : decode cX9_breaks 41 = .ok (.if_icmp .ne 5, 3) := by decide +kernel
theorem dX9_breaks_44 : decode cX9_breaks 44 = .ok (.iload_n 3, 1) := by decide +kernel
theorem dX9_breaks_45 : decode cX9_breaks 45 = .ok (.ireturn, 1) := by decide +kernel
theorem dX9_breaks_46 : decode cX9_breaks 46 = .ok (.iinc 3 1, 3) := by decide +kernel
theorem dX9_breaks_49 : decode cX9_breaks 49 = .ok (.goto (-32), 3) := by decide +kernel
theorem dX9_breaks_52 : decode cX9_breaks 52 = .ok (.bipush (-9), 2) := by decide +kernel
theorem dX9_breaks_54 : decode cX9_breaks 54 = .ok (.ireturn, 1) := by decide +kernel
theorem dX9_plain_0 : decode cX9_plain 0 = .ok (.iload_n 1, 1) := by decide +kernel
theorem dX9_plain_1 : decode cX9_plain 1 = .ok (.iload_n 2, 1) := by decide +kernel
theorem dX9_plain_2 : decode cX9_plain 2 = .ok (.invokestatic 178, 3) := by decide +kernel
theorem dX9_plain_5 : decode cX9_plain 5 = .ok (.ifCond .ne 6, 3) := by decide +kernel
theorem dX9_plain_8 : decode cX9_plain 8 = .ok (.bipush (-2), 2) := by decide +kernel
theorem dX9_plain_10 : decode cX9_plain 10 = .ok (.ireturn, 1) := by decide +kernel
theorem dX9_plain_11 : decode cX9_plain 11 = .ok (.aload_n 0, 1) := by decide +kernel
theorem dX9_plain_12 : decode cX9_plain 12 = .ok (.iload_n 1, 1) := by decide +kernel
theorem dX9_plain_13 : decode cX9_plain 13 = .ok (.invokestatic 127, 3) := by decide +kernel
theorem dX9_plain_16 : decode cX9_plain 16 = .ok (.iload_n 2, 1) := by decide +kernel
theorem dX9_plain_17 : decode cX9_plain 17 = .ok (.iadd, 1) := by decide +kernel
theorem dX9_plain_18 : decode cX9_plain 18 = .ok (.invokevirtual 138, 3) := by decide +kernel
theorem dX9_plain_21 : decode cX9_plain 21 = .ok (.aload_n 0, 1) := by decide +kernel
theorem dX9_plain_22 : decode cX9_plain 22 = .ok (.invokevirtual 160, 3) := by decide +kernel
theorem dX9_plain_25 : decode cX9_plain 25 = .ok (.ireturn, 1) := by decide +kernel
theorem dX9_onList_0 : decode cX9_onList 0 = .ok (.aload_n 0, 1) := by decide +kernel
theorem dX9_onList_1 : decode cX9_onList 1 = .ok (.getfield 157, 3) := by decide +kernel
theorem dX9_onList_4 : decode cX9_onList 4 = .ok (.bipush 40, 2) := by decide +kernel
theorem dX9_onList_6 : decode cX9_onList 6 = .ok (.if_icmp .ge 10, 3) := by decide +kernel
theorem dX9_onList_9 : decode cX9_onList 9 = .ok (.aload_n 0, 1) := by decide +kernel
theorem dX9_onList_10 : decode cX9_onList 10 = .ok (.getfield 157, 3) := by decide +kernel
theorem dX9_onList_13 : decode cX9_onList 13 = .ok (.goto 5, 3) := by decide +kernel
theorem dX9_onList_16 : decode cX9_onList 16 = .ok (.bipush 40, 2) := by decide +kernel
theorem dX9_onList_18 : decode cX9_onList 18 = .ok (.ireturn, 1) := by decide +kernel
theorem dX9_pairs_0 : decode cX9_pairs 0 = .ok (.iconst 0, 1) := by decide +kernel
theorem dX9_pairs_1 : decode cX9_pairs 1 = .ok (.istore_n 1, 1) := by decide +kernel
theorem dX9_pairs_2 : decode cX9_pairs 2 = .ok (.iconst 0, 1) := by decide +kernel
theorem dX9_pairs_3 : decode cX9_pairs 3 = .ok (.istore_n 2, 1) := by decide +kernel
theorem dX9_pairs_4 : decode cX9_pairs 4 = .ok (.iload_n 2, 1) := by decide +kernel
theorem dX9_pairs_5 : decode cX9_pairs 5 = .ok (.aload_n 0, 1) := by decide +kernel
theorem dX9_pairs_6 : decode cX9_pairs 6 = .ok (.invokevirtual 181, 3) := by decide +kernel
theorem dX9_pairs_9 : decode cX9_pairs 9 = .ok (.if_icmp .ge 32, 3) := by decide +kernel
theorem dX9_pairs_12 : decode cX9_pairs 12 = .ok (.aload_n 0, 1) := by decide +kernel
theorem dX9_pairs_13 : decode cX9_pairs 13 = .ok (.getfield 48, 3) := by decide +kernel
theorem dX9_pairs_16 : decode cX9_pairs 16 = .ok (.iload_n 2, 1) := by decide +kernel
theorem dX9_pairs_17 : decode cX9_pairs 17 = .ok (.iaload, 1) := by decide +kernel
theorem dX9_pairs_18 : decode cX9_pairs 18 = .ok (.invokestatic 120, 3) := by decide +kernel
theorem dX9_pairs_21 : decode cX9_pairs 21 = .ok (.istore_n 3, 1) := by decide +kernel
theorem dX9_pairs_22 : decode cX9_pairs 22 = .ok (.aload_n 0, 1) := by decide +kernel
theorem dX9_pairs_23 : decode cX9_pairs 23 = .ok (.getfield 51, 3) := by decide +kernel
theorem dX9_pairs_26 : decode cX9_pairs 26 = .ok (.iload_n 2, 1) := by decide +kernel
theorem dX9_pairs_27 : decode cX9_pairs 27 = .ok (.iload_n 1, 1) := by decide +kernel
theorem dX9_pairs_28 : decode cX9_pairs 28 = .ok (.iastore, 1) := by decide +kernel
theorem dX9_pairs_29 : decode cX9_pairs 29 = .ok (.iload_n 1, 1) := by decide +kernel
theorem dX9_pairs_30 : decode cX9_pairs 30 = .ok (.iload_n 3, 1) := by decide +kernel
theorem dX9_pairs_31 : decode cX9_pairs 31 = .ok (.iload_n 3, 1) := by decide +kernel
theorem dX9_pairs_32 : decode cX9_pairs 32 = .ok (.imul, 1) := by decide +kernel
theorem dX9_pairs_33 : decode cX9_pairs 33 = .ok (.iadd, 1) := by decide +kernel
theorem dX9_pairs_34 : decode cX9_pairs 34 = .ok (.istore_n 1, 1) := by decide +kernel
theorem dX9_pairs_35 : decode cX9_pairs 35 = .ok (.iinc 2 1, 3) := by decide +kernel
theorem dX9_pairs_38 : decode cX9_pairs 38 = .ok (.goto (-34), 3) := by decide +kernel
theorem dX9_pairs_41 : decode cX9_pairs 41 = .ok (.aload_n 0, 1) := by decide +kernel
theorem dX9_pairs_42 : decode cX9_pairs 42 = .ok (.getfield 51, 3) := by decide +kernel
theorem dX9_pairs_45 : decode cX9_pairs 45 = .ok (.aload_n 0, 1) := by decide +kernel
theorem dX9_pairs_46 : decode cX9_pairs 46 = .ok (.invokevirtual 181, 3) := by decide +kernel
theorem dX9_pairs_49 : decode cX9_pairs 49 = .ok (.iload_n 1, 1) := by decide +kernel
theorem dX9_pairs_50 : decode cX9_pairs 50 = .ok (.iastore, 1) := by decide +kernel
theorem dX9_pairs_51 : decode cX9_pairs 51 = .ok (.iload_n 1, 1) := by decide +kernel
theorem dX9_pairs_52 : decode cX9_pairs 52 = .ok (.ireturn, 1) := by decide +kernel
theorem dX9_list_0 : decode cX9_list 0 = .ok (.iload_n 1, 1) := by decide +kernel
theorem dX9_list_1 : decode cX9_list 1 = .ok (.i2l, 1) := by decide +kernel
theorem dX9_list_2 : decode cX9_list 2 = .ok (.lconst 0, 1) := by decide +kernel
theorem dX9_list_3 : decode cX9_list 3 = .ok (.lconst 1, 1) := by decide +kernel
theorem dX9_list_4 : decode cX9_list 4 = .ok (.invokestatic 105, 3) := by decide +kernel
theorem dX9_list_7 : decode cX9_list 7 = .ok (.ifCond .ne 6, 3) := by decide +kernel
theorem dX9_list_10 : decode cX9_list 10 = .ok (.bipush (-2), 2) := by decide +kernel
theorem dX9_list_12 : decode cX9_list 12 = .ok (.ireturn, 1) := by decide +kernel
theorem dX9_list_13 : decode cX9_list 13 = .ok (.aload_n 0, 1) := by decide +kernel
theorem dX9_list_14 : decode cX9_list 14 = .ok (.invokevirtual 175, 3) := by decide +kernel
theorem dX9_list_17 : decode cX9_list 17 = .ok (.iload_n 1, 1) := by decide +kernel
theorem dX9_list_18 : decode cX9_list 18 = .ok (.ifCond .ne 10, 3) := by decide +kernel
theorem dX9_list_21 : decode cX9_list 21 = .ok (.aload_n 0, 1) := by decide +kernel
theorem dX9_list_22 : decode cX9_list 22 = .ok (.invokevirtual 181, 3) := by decide +kernel
theorem dX9_list_25 : decode cX9_list 25 = .ok (.goto 7, 3) := by decide +kernel
theorem dX9_list_28 : decode cX9_list 28 = .ok (.aload_n 0, 1) := by decide +kernel
theorem dX9_list_29 : decode cX9_list 29 = .ok (.invokevirtual 184, 3) := by decide +kernel
theorem dX9_list_32 : decode cX9_list 32 = .ok (.ireturn, 1) := by decide +kernel
theorem dX9_world_0 : decode cX9_world 0 = .ok (.aload_n 0, 1) := by decide +kernel
theorem dX9_world_1 : decode cX9_world 1 = .ok (.invokevirtual 175, 3) := by decide +kernel
theorem dX9_world_4 : decode cX9_world 4 = .ok (.iload_n 1, 1) := by decide +kernel
theorem dX9_world_5 : decode cX9_world 5 = .ok (.i2l, 1) := by decide +kernel
theorem dX9_world_6 : decode cX9_world 6 = .ok (.lconst 0, 1) := by decide +kernel
theorem dX9_world_7 : decode cX9_world 7 = .ok (.aload_n 0, 1) := by decide +kernel
theorem dX9_world_8 : decode cX9_world 8 = .ok (.invokevirtual 181, 3) := by decide +kernel
theorem dX9_world_11 : decode cX9_world 11 = .ok (.iconst 1, 1) := by decide +kernel
theorem dX9_world_12 : decode cX9_world 12 = .ok (.isub, 1) := by decide +kernel
theorem dX9_world_13 : decode cX9_world 13 = .ok (.i2l, 1) := by decide +kernel
theorem dX9_world_14 : decode cX9_world 14 = .ok (.invokestatic 105, 3) := by decide +kernel
theorem dX9_world_17 : decode cX9_world 17 = .ok (.ifCond .ne 5, 3) := by decide +kernel
theorem dX9_world_20 : decode cX9_world 20 = .ok (.iconst (-1), 1) := by decide +kernel
theorem dX9_world_21 : decode cX9_world 21 = .ok (.ireturn, 1) := by decide +kernel
theorem dX9_world_22 : decode cX9_world 22 = .ok (.aload_n 0, 1) := by decide +kernel
theorem dX9_world_23 : decode cX9_world 23 = .ok (.getfield 48, 3) := by decide +kernel
theorem dX9_world_26 : decode cX9_world 26 = .ok (.iload_n 1, 1) := by decide +kernel
theorem dX9_world_27 : decode cX9_world 27 = .ok (.iaload, 1) := by decide +kernel
theorem dX9_world_28 : decode cX9_world 28 = .ok (.invokestatic 120, 3) := by decide +kernel
theorem dX9_world_31 : decode cX9_world 31 = .ok (.istore_n 3, 1) := by decide +kernel
theorem dX9_world_32 : decode cX9_world 32 = .ok (.iload_n 2, 1) := by decide +kernel
theorem dX9_world_33 : decode cX9_world 33 = .ok (.ifCond .ne 7, 3) := by decide +kernel
theorem dX9_world_36 : decode cX9_world 36 = .ok (.iload_n 3, 1) := by decide +kernel
theorem dX9_world_37 : decode cX9_world 37 = .ok (.goto 24, 3) := by decide +kernel
theorem dX9_world_40 : decode cX9_world 40 = .ok (.iload_n 2, 1) := by decide +kernel
theorem dX9_world_41 : decode cX9_world 41 = .ok (.iconst 1, 1) := by decide +kernel
theorem dX9_world_42 : decode cX9_world 42 = .ok (.if_icmp .ne 17, 3) := by decide +kernel
theorem dX9_world_45 : decode cX9_world 45 = .ok (.aload_n 0, 1) := by decide +kernel
theorem dX9_world_46 : decode cX9_world 46 = .ok (.getfield 48, 3) := by decide +kernel
theorem dX9_world_49 : decode cX9_world 49 = .ok (.iload_n 1, 1) := by decide +kernel
theorem dX9_world_50 : decode cX9_world 50 = .ok (.iaload, 1) := by decide +kernel
theorem dX9_world_51 : decode cX9_world 51 = .ok (.iload_n 3, 1) := by decide +kernel
theorem dX9_world_52 : decode cX9_world 52 = .ok (.invokestatic 127, 3) := by decide +kernel
theorem dX9_world_55 : decode cX9_world 55 = .ok (.isub, 1) := by decide +kernel
theorem dX9_world_56 : decode cX9_world 56 = .ok (.goto 5, 3) := by decide +kernel
theorem dX9_world_59 : decode cX9_world 59 = .ok (.bipush (-2), 2) := by decide +kernel
theorem dX9_world_61 : decode cX9_world 61 = .ok (.ireturn, 1) := by decide +kernel
theorem dX9_isNotion_0 : decode cX9_isNotion 0 = .ok (.iload_n 1, 1) := by decide +kernel
theorem dX9_isNotion_1 : decode cX9_isNotion 1 = .ok (.i2l, 1) := by decide +kernel
theorem dX9_isNotion_2 : decode cX9_isNotion 2 = .ok (.lconst 0, 1) := by decide +kernel
theorem dX9_isNotion_3 : decode cX9_isNotion 3 = .ok (.aload_n 0, 1) := by decide +kernel
theorem dX9_isNotion_4 : decode cX9_isNotion 4 = .ok (.getfield 187, 3) := by decide +kernel
theorem dX9_isNotion_7 : decode cX9_isNotion 7 = .ok (.iconst 1, 1) := by decide +kernel
theorem dX9_isNotion_8 : decode cX9_isNotion 8 = .ok (.isub, 1) := by decide +kernel
theorem dX9_isNotion_9 : decode cX9_isNotion 9 = .ok (.i2l, 1) := by decide +kernel
theorem dX9_isNotion_10 : decode cX9_isNotion 10 = .ok (.invokestatic 105, 3) := by decide +kernel
theorem dX9_isNotion_13 : decode cX9_isNotion 13 = .ok (.ireturn, 1) := by decide +kernel
theorem dX9_make_0 : decode cX9_make 0 = .ok (.iload_n 1, 1) := by decide +kernel
theorem dX9_make_1 : decode cX9_make 1 = .ok (.i2l, 1) := by decide +kernel
theorem dX9_make_2 : decode cX9_make 2 = .ok (.lconst 0, 1) := by decide +kernel
theorem dX9_make_3 : decode cX9_make 3 = .ok (.ldc2_w 190, 3) := by decide +kernel
theorem dX9_make_6 : decode cX9_make 6 = .ok (.invokestatic 105, 3) := by decide +kernel
theorem dX9_make_9 : decode cX9_make 9 = .ok (.ifCond .ne 6, 3) := by decide +kernel
theorem dX9_make_12 : decode cX9_make 12 = .ok (.bipush (-2), 2) := by decide +kernel
theorem dX9_make_14 : decode cX9_make 14 = .ok (.ireturn, 1) := by decide +kernel
theorem dX9_make_15 : decode cX9_make 15 = .ok (.iload_n 1, 1) := by decide +kernel
theorem dX9_make_16 : decode cX9_make 16 = .ok (.ifCond .ne 27, 3) := by decide +kernel
theorem dX9_make_19 : decode cX9_make 19 = .ok (.aload_n 0, 1) := by decide +kernel
theorem dX9_make_20 : decode cX9_make 20 = .ok (.iload_n 2, 1) := by decide +kernel
theorem dX9_make_21 : decode cX9_make 21 = .ok (.invokevirtual 109, 3) := by decide +kernel
theorem dX9_make_24 : decode cX9_make 24 = .ok (.ifCond .eq 15, 3) := by decide +kernel
theorem dX9_make_27 : decode cX9_make 27 = .ok (.aload_n 0, 1) := by decide +kernel
theorem dX9_make_28 : decode cX9_make 28 = .ok (.iload_n 3, 1) := by decide +kernel
theorem dX9_make_29 : decode cX9_make 29 = .ok (.invokevirtual 109, 3) := by decide +kernel
theorem dX9_make_32 : decode cX9_make 32 = .ok (.ifCond .eq 7, 3) := by decide +kernel
theorem dX9_make_35 : decode cX9_make 35 = .ok (.iconst 1, 1) := by decide +kernel
theorem dX9_make_36 : decode cX9_make 36 = .ok (.goto 33, 3) := by decide +kernel
theorem dX9_make_39 : decode cX9_make 39 = .ok (.iconst 0, 1) := by decide +kernel
theorem dX9_make_40 : decode cX9_make 40 = .ok (.goto 29, 3) := by decide +kernel
theorem dX9_make_43 : decode cX9_make 43 = .ok (.aload_n 0, 1) := by decide +kernel
theorem dX9_make_44 : decode cX9_make 44 = .ok (.iload_n 2, 1) := by decide +kernel
theorem dX9_make_45 : decode cX9_make 45 = .ok (.invokevirtual 192, 3) := by decide +kernel
theorem dX9_make_48 : decode cX9_make 48 = .ok (.ifCond .eq 20, 3) := by decide +kernel
theorem dX9_make_51 : decode cX9_make 51 = .ok (.iload_n 1, 1) := by decide +kernel
theorem dX9_make_52 : decode cX9_make 52 = .ok (.iconst 2, 1) := by decide +kernel
theorem dX9_make_53 : decode cX9_make 53 = .ok (.if_icmp .ne 11, 3) := by decide +kernel
theorem dX9_make_56 : decode cX9_make 56 = .ok (.aload_n 0, 1) := by decide +kernel
theorem dX9_make_57 : decode cX9_make 57 = .ok (.iload_n 3, 1) := by decide +kernel
theorem dX9_make_58 : decode cX9_make 58 = .ok (.invokevirtual 192, 3) := by decide +kernel
theorem dX9_make_61 : decode cX9_make 61 = .ok (.ifCond .eq 7, 3) := by decide +kernel
theorem dX9_make_64 : decode cX9_make 64 = .ok (.iconst 1, 1) := by decide +kernel
theorem dX9_make_65 : decode cX9_make 65 = .ok (.goto 4, 3) := by decide +kernel
theorem dX9_make_68 : decode cX9_make 68 = .ok (.iconst 0, 1) := by decide +kernel
theorem dX9_make_69 : decode cX9_make 69 = .ok (.istore 4, 2) := by decide +kernel
theorem dX9_make_71 : decode cX9_make 71 = .ok (.iload 4, 2) := by decide +kernel
theorem dX9_make_73 : decode cX9_make 73 = .ok (.ifCond .ne 5, 3) := by decide +kernel
theorem dX9_make_76 : decode cX9_make 76 = .ok (.iconst (-1), 1) := by decide +kernel
theorem dX9_make_77 : decode cX9_make 77 = .ok (.ireturn, 1) := by decide +kernel
theorem dX9_make_78 : decode cX9_make 78 = .ok (.aload_n 0, 1) := by decide +kernel
theorem dX9_make_79 : decode cX9_make 79 = .ok (.getfield 187, 3) := by decide +kernel
theorem dX9_make_82 : decode cX9_make 82 = .ok (.bipush 12, 2) := by decide +kernel
theorem dX9_make_84 : decode cX9_make 84 = .ok (.if_icmp .ne 6, 3) := by decide +kernel
theorem dX9_make_87 : decode cX9_make 87 = .ok (.bipush (-4), 2) := by decide +kernel
theorem dX9_make_89 : decode cX9_make 89 = .ok (.ireturn, 1) := by decide +kernel
theorem dX9_make_90 : decode cX9_make 90 = .ok (.aload_n 0, 1) := by decide +kernel
theorem dX9_make_91 : decode cX9_make 91 = .ok (.aload_n 0, 1) := by decide +kernel
theorem dX9_make_92 : decode cX9_make 92 = .ok (.getfield 187, 3) := by decide +kernel
theorem dX9_make_95 : decode cX9_make 95 = .ok (.iload_n 1, 1) := by decide +kernel
theorem dX9_make_96 : decode cX9_make 96 = .ok (.iload_n 2, 1) := by decide +kernel
theorem dX9_make_97 : decode cX9_make 97 = .ok (.iload_n 3, 1) := by decide +kernel
theorem dX9_make_98 : decode cX9_make 98 = .ok (.invokevirtual 195, 3) := by decide +kernel
theorem dX9_make_101 : decode cX9_make 101 = .ok (.aload_n 0, 1) := by decide +kernel
theorem dX9_make_102 : decode cX9_make 102 = .ok (.getfield 63, 3) := by decide +kernel
theorem dX9_make_105 : decode cX9_make 105 = .ok (.aload_n 0, 1) := by decide +kernel
theorem dX9_make_106 : decode cX9_make 106 = .ok (.getfield 187, 3) := by decide +kernel
theorem dX9_make_109 : decode cX9_make 109 = .ok (.iconst 0, 1) := by decide +kernel
theorem dX9_make_110 : decode cX9_make 110 = .ok (.bastore, 1) := by decide +kernel
theorem dX9_make_111 : decode cX9_make 111 = .ok (.aload_n 0, 1) := by decide +kernel
theorem dX9_make_112 : decode cX9_make 112 = .ok (.dup, 1) := by decide +kernel
theorem dX9_make_113 : decode cX9_make 113 = .ok (.getfield 187, 3) := by decide +kernel
theorem dX9_make_116 : decode cX9_make 116 = .ok (.iconst 1, 1) := by decide +kernel
theorem dX9_make_117 : decode cX9_make 117 = .ok (.iadd, 1) := by decide +kernel
theorem dX9_make_118 : decode cX9_make 118 = .ok (.putfield 187, 3) := by decide +kernel
theorem dX9_make_121 : decode cX9_make 121 = .ok (.aload_n 0, 1) := by decide +kernel
theorem dX9_make_122 : decode cX9_make 122 = .ok (.getfield 187, 3) := by decide +kernel
theorem dX9_make_125 : decode cX9_make 125 = .ok (.iconst 1, 1) := by decide +kernel
theorem dX9_make_126 : decode cX9_make 126 = .ok (.isub, 1) := by decide +kernel
theorem dX9_make_127 : decode cX9_make 127 = .ok (.ireturn, 1) := by decide +kernel
theorem dX9_set_0 : decode cX9_set 0 = .ok (.aload_n 0, 1) := by decide +kernel
theorem dX9_set_1 : decode cX9_set 1 = .ok (.getfield 54, 3) := by decide +kernel
theorem dX9_set_4 : decode cX9_set 4 = .ok (.iload_n 1, 1) := by decide +kernel
theorem dX9_set_5 : decode cX9_set 5 = .ok (.iload_n 2, 1) := by decide +kernel
theorem dX9_set_6 : decode cX9_set 6 = .ok (.iastore, 1) := by decide +kernel
theorem dX9_set_7 : decode cX9_set 7 = .ok (.aload_n 0, 1) := by decide +kernel
theorem dX9_set_8 : decode cX9_set 8 = .ok (.getfield 57, 3) := by decide +kernel
theorem dX9_set_11 : decode cX9_set 11 = .ok (.iload_n 1, 1) := by decide +kernel
theorem dX9_set_12 : decode cX9_set 12 = .ok (.iload_n 3, 1) := by decide +kernel
theorem dX9_set_13 : decode cX9_set 13 = .ok (.iastore, 1) := by decide +kernel
theorem dX9_set_14 : decode cX9_set 14 = .ok (.aload_n 0, 1) := by decide +kernel
theorem dX9_set_15 : decode cX9_set 15 = .ok (.getfield 60, 3) := by decide +kernel
theorem dX9_set_18 : decode cX9_set 18 = .ok (.iload_n 1, 1) := by decide +kernel
theorem dX9_set_19 : decode cX9_set 19 = .ok (.iload 4, 2) := by decide +kernel
theorem dX9_set_21 : decode cX9_set 21 = .ok (.iastore, 1) := by decide +kernel
theorem dX9_set_22 : decode cX9_set 22 = .ok (.return_, 1) := by decide +kernel
theorem dX9_isSo_0 : decode cX9_isSo 0 = .ok (.bipush 9, 2) := by decide +kernel
theorem dX9_isSo_2 : decode cX9_isSo 2 = .ok (.aload_n 0, 1) := by decide +kernel
theorem dX9_isSo_3 : decode cX9_isSo 3 = .ok (.getfield 57, 3) := by decide +kernel
theorem dX9_isSo_6 : decode cX9_isSo 6 = .ok (.iload_n 1, 1) := by decide +kernel
theorem dX9_isSo_7 : decode cX9_isSo 7 = .ok (.iaload, 1) := by decide +kernel
theorem dX9_isSo_8 : decode cX9_isSo 8 = .ok (.imul, 1) := by decide +kernel
theorem dX9_isSo_9 : decode cX9_isSo 9 = .ok (.istore 4, 2) := by decide +kernel
theorem dX9_isSo_11 : decode cX9_isSo 11 = .ok (.iconst 0, 1) := by decide +kernel
theorem dX9_isSo_12 : decode cX9_isSo 12 = .ok (.istore 5, 2) := by decide +kernel
theorem dX9_isSo_14 : decode cX9_isSo 14 = .ok (.iconst 1, 1) := by decide +kernel
theorem dX9_isSo_15 : decode cX9_isSo 15 = .ok (.istore 6, 2) := by decide +kernel
theorem dX9_isSo_17 : decode cX9_isSo 17 = .ok (.iconst 0, 1) := by decide +kernel
theorem dX9_isSo_18 : decode cX9_isSo 18 = .ok (.istore 7, 2) := by decide +kernel
theorem dX9_isSo_20 : decode cX9_isSo 20 = .ok (.iload 7, 2) := by decide +kernel
theorem dX9_isSo_22 : decode cX9_isSo 22 = .ok (.aload_n 0, 1) := by decide +kernel
theorem dX9_isSo_23 : decode cX9_isSo 23 = .ok (.getfield 124, 3) := by decide +kernel
theorem dX9_isSo_26 : decode cX9_isSo 26 = .ok (.if_icmp .ge 94, 3) := by decide +kernel
theorem dX9_isSo_29 : decode cX9_isSo 29 = .ok (.aload_n 0, 1) := by decide +kernel
theorem dX9_isSo_30 : decode cX9_isSo 30 = .ok (.getfield 54, 3) := by decide +kernel
theorem dX9_isSo_33 : decode cX9_isSo 33 = .ok (.iload_n 1, 1) := by decide +kernel
theorem dX9_isSo_34 : decode cX9_isSo 34 = .ok (.iaload, 1) := by decide +kernel
theorem dX9_isSo_35 : decode cX9_isSo 35 = .ok (.ifCond .ne 26, 3) := by decide +kernel
theorem dX9_isSo_38 : decode cX9_isSo 38 = .ok (.aload_n 0, 1) := by decide +kernel
theorem dX9_isSo_39 : decode cX9_isSo 39 = .ok (.aload_n 0, 1) := by decide +kernel
theorem dX9_isSo_40 : decode cX9_isSo 40 = .ok (.getfield 57, 3) := by decide +kernel
theorem dX9_isSo_43 : decode cX9_isSo 43 = .ok (.iload_n 1, 1) := by decide +kernel
theorem dX9_isSo_44 : decode cX9_isSo 44 = .ok (.iaload, 1) := by decide +kernel
theorem dX9_isSo_45 : decode cX9_isSo 45 = .ok (.aload_n 0, 1) := by decide +kernel
theorem dX9_isSo_46 : decode cX9_isSo 46 = .ok (.getfield 60, 3) := by decide +kernel
theorem dX9_isSo_49 : decode cX9_isSo 49 = .ok (.iload_n 1, 1) := by decide +kernel
theorem dX9_isSo_50 : decode cX9_isSo 50 = .ok (.iaload, 1) := by decide +kernel
theorem dX9_isSo_51 : decode cX9_isSo 51 = .ok (.iload_n 2, 1) := by decide +kernel
theorem dX9_isSo_52 : decode cX9_isSo 52 = .ok (.iload_n 3, 1) := by decide +kernel
theorem dX9_isSo_53 : decode cX9_isSo 53 = .ok (.iload 7, 2) := by decide +kernel
theorem dX9_isSo_55 : decode cX9_isSo 55 = .ok (.invokevirtual 130, 3) := by decide +kernel
theorem dX9_isSo_58 : decode cX9_isSo 58 = .ok (.goto 20, 3) := by decide +kernel
theorem dX9_isSo_61 : decode cX9_isSo 61 = .ok (.aload_n 0, 1) := by decide +kernel
theorem dX9_isSo_62 : decode cX9_isSo 62 = .ok (.getfield 66, 3) := by decide +kernel
theorem dX9_isSo_65 : decode cX9_isSo 65 = .ok (.iload 4, 2) := by decide +kernel
theorem dX9_isSo_67 : decode cX9_isSo 67 = .ok (.aload_n 0, 1) := by decide +kernel
theorem dX9_isSo_68 : decode cX9_isSo 68 = .ok (.getfield 124, 3) := by decide +kernel
theorem dX9_isSo_71 : decode cX9_isSo 71 = .ok (.iload_n 2, 1) := by decide +kernel
theorem dX9_isSo_72 : decode cX9_isSo 72 = .ok (.imul, 1) := by decide +kernel
theorem dX9_isSo_73 : decode cX9_isSo 73 = .ok (.iadd, 1) := by decide +kernel
theorem dX9_isSo_74 : decode cX9_isSo 74 = .ok (.iload 7, 2) := by decide +kernel
theorem dX9_isSo_76 : decode cX9_isSo 76 = .ok (.iadd, 1) := by decide +kernel
theorem dX9_isSo_77 : decode cX9_isSo 77 = .ok (.baload, 1) := by decide +kernel
theorem dX9_isSo_78 : decode cX9_isSo 78 = .ok (.istore 8, 2) := by decide +kernel
theorem dX9_isSo_80 : decode cX9_isSo 80 = .ok (.iload 5, 2) := by decide +kernel
theorem dX9_isSo_82 : decode cX9_isSo 82 = .ok (.ifCond .ne 8, 3) := by decide +kernel
theorem dX9_isSo_85 : decode cX9_isSo 85 = .ok (.iload 8, 2) := by decide +kernel
theorem dX9_isSo_87 : decode cX9_isSo 87 = .ok (.ifCond .eq 7, 3) := by decide +kernel
theorem dX9_isSo_90 : decode cX9_isSo 90 = .ok (.iconst 1, 1) := by decide +kernel
theorem dX9_isSo_91 : decode cX9_isSo 91 = .ok (.goto 4, 3) := by decide +kernel
theorem dX9_isSo_94 : decode cX9_isSo 94 = .ok (.iconst 0, 1) := by decide +kernel
theorem dX9_isSo_95 : decode cX9_isSo 95 = .ok (.istore 5, 2) := by decide +kernel
theorem dX9_isSo_97 : decode cX9_isSo 97 = .ok (.iload 6, 2) := by decide +kernel
theorem dX9_isSo_99 : decode cX9_isSo 99 = .ok (.ifCond .eq 12, 3) := by decide +kernel
theorem dX9_isSo_102 : decode cX9_isSo 102 = .ok (.iload 8, 2) := by decide +kernel
theorem dX9_isSo_104 : decode cX9_isSo 104 = .ok (.ifCond .eq 7, 3) := by decide +kernel
theorem dX9_isSo_107 : decode cX9_isSo 107 = .ok (.iconst 1, 1) := by decide +kernel
theorem dX9_isSo_108 : decode cX9_isSo 108 = .ok (.goto 4, 3) := by decide +kernel
theorem dX9_isSo_111 : decode cX9_isSo 111 = .ok (.iconst 0, 1) := by decide +kernel
theorem dX9_isSo_112 : decode cX9_isSo 112 = .ok (.istore 6, 2) := by decide +kernel
theorem dX9_isSo_114 : decode cX9_isSo 114 = .ok (.iinc 7 1, 3) := by decide +kernel
theorem dX9_isSo_117 : decode cX9_isSo 117 = .ok (.goto (-97), 3) := by decide +kernel
theorem dX9_isSo_120 : decode cX9_isSo 120 = .ok (.aload_n 0, 1) := by decide +kernel
theorem dX9_isSo_121 : decode cX9_isSo 121 = .ok (.getfield 54, 3) := by decide +kernel
theorem dX9_isSo_124 : decode cX9_isSo 124 = .ok (.iload_n 1, 1) := by decide +kernel
theorem dX9_isSo_125 : decode cX9_isSo 125 = .ok (.iaload, 1) := by decide +kernel
theorem dX9_isSo_126 : decode cX9_isSo 126 = .ok (.tableswitch 151 1 6 #[38, 63, 151, 114, 117, 134], 38) := by decide +kernel
theorem dX9_isSo_164 : decode cX9_isSo 164 = .ok (.aload_n 0, 1) := by decide +kernel
theorem dX9_isSo_165 : decode cX9_isSo 165 = .ok (.getfield 66, 3) := by decide +kernel
theorem dX9_isSo_168 : decode cX9_isSo 168 = .ok (.iload 4, 2) := by decide +kernel
theorem dX9_isSo_170 : decode cX9_isSo 170 = .ok (.aload_n 0, 1) := by decide +kernel
theorem dX9_isSo_171 : decode cX9_isSo 171 = .ok (.getfield 124, 3) := by decide +kernel
theorem dX9_isSo_174 : decode cX9_isSo 174 = .ok (.iload_n 2, 1) := by decide +kernel
theorem dX9_isSo_175 : decode cX9_isSo 175 = .ok (.imul, 1) := by decide +kernel
theorem dX9_isSo_176 : decode cX9_isSo 176 = .ok (.iadd, 1) := by decide +kernel
theorem dX9_isSo_177 : decode cX9_isSo 177 = .ok (.iload_n 3, 1) := by decide +kernel
theorem dX9_isSo_178 : decode cX9_isSo 178 = .ok (.iadd, 1) := by decide +kernel
theorem dX9_isSo_179 : decode cX9_isSo 179 = .ok (.baload, 1) := by decide +kernel
theorem dX9_isSo_180 : decode cX9_isSo 180 = .ok (.ifCond .ne 7, 3) := by decide +kernel
theorem dX9_isSo_183 : decode cX9_isSo 183 = .ok (.iconst 1, 1) := by decide +kernel
theorem dX9_isSo_184 : decode cX9_isSo 184 = .ok (.goto 4, 3) := by decide +kernel
theorem dX9_isSo_187 : decode cX9_isSo 187 = .ok (.iconst 0, 1) := by decide +kernel
theorem dX9_isSo_188 : decode cX9_isSo 188 = .ok (.ireturn, 1) := by decide +kernel
theorem dX9_isSo_189 : decode cX9_isSo 189 = .ok (.aload_n 0, 1) := by decide +kernel
theorem dX9_isSo_190 : decode cX9_isSo 190 = .ok (.getfield 66, 3) := by decide +kernel
theorem dX9_isSo_193 : decode cX9_isSo 193 = .ok (.iload 4, 2) := by decide +kernel
theorem dX9_isSo_195 : decode cX9_isSo 195 = .ok (.aload_n 0, 1) := by decide +kernel
theorem dX9_isSo_196 : decode cX9_isSo 196 = .ok (.getfield 124, 3) := by decide +kernel
theorem dX9_isSo_199 : decode cX9_isSo 199 = .ok (.iload_n 2, 1) := by decide +kernel
theorem dX9_isSo_200 : decode cX9_isSo 200 = .ok (.imul, 1) := by decide +kernel
theorem dX9_isSo_201 : decode cX9_isSo 201 = .ok (.iadd, 1) := by decide +kernel
theorem dX9_isSo_202 : decode cX9_isSo 202 = .ok (.iload_n 3, 1) := by decide +kernel
theorem dX9_isSo_203 : decode cX9_isSo 203 = .ok (.iadd, 1) := by decide +kernel
theorem dX9_isSo_204 : decode cX9_isSo 204 = .ok (.baload, 1) := by decide +kernel
theorem dX9_isSo_205 : decode cX9_isSo 205 = .ok (.ifCond .eq 33, 3) := by decide +kernel
theorem dX9_isSo_208 : decode cX9_isSo 208 = .ok (.aload_n 0, 1) := by decide +kernel
theorem dX9_isSo_209 : decode cX9_isSo 209 = .ok (.getfield 66, 3) := by decide +kernel
theorem dX9_isSo_212 : decode cX9_isSo 212 = .ok (.bipush 9, 2) := by decide +kernel
theorem dX9_isSo_214 : decode cX9_isSo 214 = .ok (.aload_n 0, 1) := by decide +kernel
theorem dX9_isSo_215 : decode cX9_isSo 215 = .ok (.getfield 60, 3) := by decide +kernel
theorem dX9_isSo_218 : decode cX9_isSo 218 = .ok (.iload_n 1, 1) := by decide +kernel
theorem dX9_isSo_219 : decode cX9_isSo 219 = .ok (.iaload, 1) := by decide +kernel
theorem dX9_isSo_220 : decode cX9_isSo 220 = .ok (.imul, 1) := by decide +kernel
theorem dX9_isSo_221 : decode cX9_isSo 221 = .ok (.aload_n 0, 1) := by decide +kernel
theorem dX9_isSo_222 : decode cX9_isSo 222 = .ok (.getfield 124, 3) := by decide +kernel
theorem dX9_isSo_225 : decode cX9_isSo 225 = .ok (.iload_n 2, 1) := by decide +kernel
theorem dX9_isSo_226 : decode cX9_isSo 226 = .ok (.imul, 1) := by decide +kernel
theorem dX9_isSo_227 : decode cX9_isSo 227 = .ok (.iadd, 1) := by decide +kernel
theorem dX9_isSo_228 : decode cX9_isSo 228 = .ok (.iload_n 3, 1) := by decide +kernel
theorem dX9_isSo_229 : decode cX9_isSo 229 = .ok (.iadd, 1) := by decide +kernel
theorem dX9_isSo_230 : decode cX9_isSo 230 = .ok (.baload, 1) := by decide +kernel
theorem dX9_isSo_231 : decode cX9_isSo 231 = .ok (.ifCond .eq 7, 3) := by decide +kernel
theorem dX9_isSo_234 : decode cX9_isSo 234 = .ok (.iconst 1, 1) := by decide +kernel
theorem dX9_isSo_235 : decode cX9_isSo 235 = .ok (.goto 4, 3) := by decide +kernel
theorem dX9_isSo_238 : decode cX9_isSo 238 = .ok (.iconst 0, 1) := by decide +kernel
theorem dX9_isSo_239 : decode cX9_isSo 239 = .ok (.ireturn, 1) := by decide +kernel
theorem dX9_isSo_240 : decode cX9_isSo 240 = .ok (.iload 5, 2) := by decide +kernel
theorem dX9_isSo_242 : decode cX9_isSo 242 = .ok (.ireturn, 1) := by decide +kernel
theorem dX9_isSo_243 : decode cX9_isSo 243 = .ok (.aload_n 0, 1) := by decide +kernel
theorem dX9_isSo_244 : decode cX9_isSo 244 = .ok (.getfield 66, 3) := by decide +kernel
theorem dX9_isSo_247 : decode cX9_isSo 247 = .ok (.iload 4, 2) := by decide +kernel
theorem dX9_isSo_249 : decode cX9_isSo 249 = .ok (.aload_n 0, 1) := by decide +kernel
theorem dX9_isSo_250 : decode cX9_isSo 250 = .ok (.getfield 124, 3) := by decide +kernel
theorem dX9_isSo_253 : decode cX9_isSo 253 = .ok (.iload_n 3, 1) := by decide +kernel
theorem dX9_isSo_254 : decode cX9_isSo 254 = .ok (.imul, 1) := by decide +kernel
theorem dX9_isSo_255 : decode cX9_isSo 255 = .ok (.iadd, 1) := by decide +kernel
theorem dX9_isSo_256 : decode cX9_isSo 256 = .ok (.iload_n 2, 1) := by decide +kernel
theorem dX9_isSo_257 : decode cX9_isSo 257 = .ok (.iadd, 1) := by decide +kernel
theorem dX9_isSo_258 : decode cX9_isSo 258 = .ok (.baload, 1) := by decide +kernel
theorem dX9_isSo_259 : decode cX9_isSo 259 = .ok (.ireturn, 1) := by decide +kernel
theorem dX9_isSo_260 : decode cX9_isSo 260 = .ok (.aload_n 0, 1) := by decide +kernel
theorem dX9_isSo_261 : decode cX9_isSo 261 = .ok (.getfield 66, 3) := by decide +kernel
theorem dX9_isSo_264 : decode cX9_isSo 264 = .ok (.iload 4, 2) := by decide +kernel
theorem dX9_isSo_266 : decode cX9_isSo 266 = .ok (.aload_n 0, 1) := by decide +kernel
theorem dX9_isSo_267 : decode cX9_isSo 267 = .ok (.getfield 124, 3) := by decide +kernel
theorem dX9_isSo_270 : decode cX9_isSo 270 = .ok (.iload_n 2, 1) := by decide +kernel
theorem dX9_isSo_271 : decode cX9_isSo 271 = .ok (.imul, 1) := by decide +kernel
theorem dX9_isSo_272 : decode cX9_isSo 272 = .ok (.iadd, 1) := by decide +kernel
theorem dX9_isSo_273 : decode cX9_isSo 273 = .ok (.iload_n 2, 1) := by decide +kernel
theorem dX9_isSo_274 : decode cX9_isSo 274 = .ok (.iadd, 1) := by decide +kernel
theorem dX9_isSo_275 : decode cX9_isSo 275 = .ok (.baload, 1) := by decide +kernel
theorem dX9_isSo_276 : decode cX9_isSo 276 = .ok (.ireturn, 1) := by decide +kernel
theorem dX9_isSo_277 : decode cX9_isSo 277 = .ok (.iload 6, 2) := by decide +kernel
theorem dX9_isSo_279 : decode cX9_isSo 279 = .ok (.ireturn, 1) := by decide +kernel
theorem dX9_layHere_0 : decode cX9_layHere 0 = .ok (.aload_n 0, 1) := by decide +kernel
theorem dX9_layHere_1 : decode cX9_layHere 1 = .ok (.getfield 54, 3) := by decide +kernel
theorem dX9_layHere_4 : decode cX9_layHere 4 = .ok (.iload_n 1, 1) := by decide +kernel
theorem dX9_layHere_5 : decode cX9_layHere 5 = .ok (.iaload, 1) := by decide +kernel
theorem dX9_layHere_6 : decode cX9_layHere 6 = .ok (.ifCond .ne 19, 3) := by decide +kernel
theorem dX9_layHere_9 : decode cX9_layHere 9 = .ok (.aload_n 0, 1) := by decide +kernel
theorem dX9_layHere_10 : decode cX9_layHere 10 = .ok (.aload_n 0, 1) := by decide +kernel
theorem dX9_layHere_11 : decode cX9_layHere 11 = .ok (.getfield 57, 3) := by decide +kernel
theorem dX9_layHere_14 : decode cX9_layHere 14 = .ok (.iload_n 1, 1) := by decide +kernel
theorem dX9_layHere_15 : decode cX9_layHere 15 = .ok (.iaload, 1) := by decide +kernel
theorem dX9_layHere_16 : decode cX9_layHere 16 = .ok (.aload_n 0, 1) := by decide +kernel
theorem dX9_layHere_17 : decode cX9_layHere 17 = .ok (.getfield 60, 3) := by decide +kernel
theorem dX9_layHere_20 : decode cX9_layHere 20 = .ok (.iload_n 1, 1) := by decide +kernel
theorem dX9_layHere_21 : decode cX9_layHere 21 = .ok (.iaload, 1) := by decide +kernel
theorem dX9_layHere_22 : decode cX9_layHere 22 = .ok (.invokevirtual 134, 3) := by decide +kernel
theorem dX9_layHere_25 : decode cX9_layHere 25 = .ok (.iconst 0, 1) := by decide +kernel
theorem dX9_layHere_26 : decode cX9_layHere 26 = .ok (.istore_n 2, 1) := by decide +kernel
theorem dX9_layHere_27 : decode cX9_layHere 27 = .ok (.iload_n 2, 1) := by decide +kernel
theorem dX9_layHere_28 : decode cX9_layHere 28 = .ok (.aload_n 0, 1) := by decide +kernel
theorem dX9_layHere_29 : decode cX9_layHere 29 = .ok (.getfield 124, 3) := by decide +kernel
theorem dX9_layHere_32 : decode cX9_layHere 32 = .ok (.aload_n 0, 1) := by decide +kernel
theorem dX9_layHere_33 : decode cX9_layHere 33 = .ok (.getfield 124, 3) := by decide +kernel
theorem dX9_layHere_36 : decode cX9_layHere 36 = .ok (.imul, 1) := by decide +kernel
theorem dX9_layHere_37 : decode cX9_layHere 37 = .ok (.if_icmp .ge 37, 3) := by decide +kernel
theorem dX9_layHere_40 : decode cX9_layHere 40 = .ok (.aload_n 0, 1) := by decide +kernel
theorem dX9_layHere_41 : decode cX9_layHere 41 = .ok (.getfield 66, 3) := by decide +kernel
theorem dX9_layHere_44 : decode cX9_layHere 44 = .ok (.bipush 9, 2) := by decide +kernel
theorem dX9_layHere_46 : decode cX9_layHere 46 = .ok (.iload_n 1, 1) := by decide +kernel
theorem dX9_layHere_47 : decode cX9_layHere 47 = .ok (.imul, 1) := by decide +kernel
end
section
theorem dX9_layHere_48 : decode cX9_layHere 48 = .ok (.iload_n 2, 1) := by decide +kernel
theorem dX9_layHere_49 : decode cX9_layHere 49 = .ok (.iadd, 1) := by decide +kernel
theorem dX9_layHere_50 : decode cX9_layHere 50 = .ok (.aload_n 0, 1) := by decide +kernel
theorem dX9_layHere_51 : decode cX9_layHere 51 = .ok (.iload_n 1, 1) := by decide +kernel
theorem dX9_layHere_52 : decode cX9_layHere 52 = .ok (.iload_n 2, 1) := by decide +kernel
theorem dX9_layHere_53 : decode cX9_layHere 53 = .ok (.aload_n 0, 1) := by decide +kernel
theorem dX9_layHere_54 : decode cX9_layHere 54 = .ok (.getfield 124, 3) := by decide +kernel
theorem dX9_layHere_57 : decode cX9_layHere 57 = .ok (.idiv, 1) := by decide +kernel
theorem dX9_layHere_58 : decode cX9_layHere 58 = .ok (.iload_n 2, 1) := by decide +kernel
theorem dX9_layHere_59 : decode cX9_layHere 59 = .ok (.aload_n 0, 1) := by decide +kernel
theorem dX9_layHere_60 : decode cX9_layHere 60 = .ok (.getfield 124, 3) := by decide +kernel
theorem dX9_layHere_63 : decode cX9_layHere 63 = .ok (.irem, 1) := by decide +kernel
theorem dX9_layHere_64 : decode cX9_layHere 64 = .ok (.invokevirtual 199, 3) := by decide +kernel
theorem dX9_layHere_67 : decode cX9_layHere 67 = .ok (.bastore, 1) := by decide +kernel
theorem dX9_layHere_68 : decode cX9_layHere 68 = .ok (.iinc 2 1, 3) := by decide +kernel
theorem dX9_layHere_71 : decode cX9_layHere 71 = .ok (.goto (-44), 3) := by decide +kernel
theorem dX9_layHere_74 : decode cX9_layHere 74 = .ok (.return_, 1) := by decide +kernel
theorem dX9_layRows_0 : decode cX9_layRows 0 = .ok (.aload_n 0, 1) := by decide +kernel
theorem dX9_layRows_1 : decode cX9_layRows 1 = .ok (.invokevirtual 175, 3) := by decide +kernel
theorem dX9_layRows_4 : decode cX9_layRows 4 = .ok (.aload_n 0, 1) := by decide +kernel
theorem dX9_layRows_5 : decode cX9_layRows 5 = .ok (.invokevirtual 184, 3) := by decide +kernel
theorem dX9_layRows_8 : decode cX9_layRows 8 = .ok (.istore_n 1, 1) := by decide +kernel
theorem dX9_layRows_9 : decode cX9_layRows 9 = .ok (.aload_n 0, 1) := by decide +kernel
theorem dX9_layRows_10 : decode cX9_layRows 10 = .ok (.getfield 164, 3) := by decide +kernel
theorem dX9_layRows_13 : decode cX9_layRows 13 = .ok (.aload_n 0, 1) := by decide +kernel
theorem dX9_layRows_14 : decode cX9_layRows 14 = .ok (.getfield 187, 3) := by decide +kernel
theorem dX9_layRows_17 : decode cX9_layRows 17 = .ok (.iconst 1, 1) := by decide +kernel
theorem dX9_layRows_18 : decode cX9_layRows 18 = .ok (.iadd, 1) := by decide +kernel
theorem dX9_layRows_19 : decode cX9_layRows 19 = .ok (.if_icmp .ne 4, 3) := by decide +kernel
theorem dX9_layRows_22 : decode cX9_layRows 22 = .ok (.return_, 1) := by decide +kernel
theorem dX9_layRows_23 : decode cX9_layRows 23 = .ok (.iconst 0, 1) := by decide +kernel
theorem dX9_layRows_24 : decode cX9_layRows 24 = .ok (.istore_n 2, 1) := by decide +kernel
theorem dX9_layRows_25 : decode cX9_layRows 25 = .ok (.iload_n 2, 1) := by decide +kernel
theorem dX9_layRows_26 : decode cX9_layRows 26 = .ok (.aload_n 0, 1) := by decide +kernel
theorem dX9_layRows_27 : decode cX9_layRows 27 = .ok (.invokevirtual 181, 3) := by decide +kernel
theorem dX9_layRows_30 : decode cX9_layRows 30 = .ok (.if_icmp .ge 95, 3) := by decide +kernel
theorem dX9_layRows_33 : decode cX9_layRows 33 = .ok (.aload_n 0, 1) := by decide +kernel
theorem dX9_layRows_34 : decode cX9_layRows 34 = .ok (.aload_n 0, 1) := by decide +kernel
theorem dX9_layRows_35 : decode cX9_layRows 35 = .ok (.getfield 48, 3) := by decide +kernel
theorem dX9_layRows_38 : decode cX9_layRows 38 = .ok (.iload_n 2, 1) := by decide +kernel
theorem dX9_layRows_39 : decode cX9_layRows 39 = .ok (.iaload, 1) := by decide +kernel
theorem dX9_layRows_40 : decode cX9_layRows 40 = .ok (.invokevirtual 138, 3) := by decide +kernel
theorem dX9_layRows_43 : decode cX9_layRows 43 = .ok (.iconst 0, 1) := by decide +kernel
theorem dX9_layRows_44 : decode cX9_layRows 44 = .ok (.istore_n 3, 1) := by decide +kernel
theorem dX9_layRows_45 : decode cX9_layRows 45 = .ok (.iload_n 3, 1) := by decide +kernel
theorem dX9_layRows_46 : decode cX9_layRows 46 = .ok (.aload_n 0, 1) := by decide +kernel
theorem dX9_layRows_47 : decode cX9_layRows 47 = .ok (.getfield 187, 3) := by decide +kernel
theorem dX9_layRows_50 : decode cX9_layRows 50 = .ok (.if_icmp .ge 69, 3) := by decide +kernel
theorem dX9_layRows_53 : decode cX9_layRows 53 = .ok (.aload_n 0, 1) := by decide +kernel
theorem dX9_layRows_54 : decode cX9_layRows 54 = .ok (.iload_n 3, 1) := by decide +kernel
theorem dX9_layRows_55 : decode cX9_layRows 55 = .ok (.invokevirtual 203, 3) := by decide +kernel
theorem dX9_layRows_58 : decode cX9_layRows 58 = .ok (.iconst 0, 1) := by decide +kernel
theorem dX9_layRows_59 : decode cX9_layRows 59 = .ok (.istore 4, 2) := by decide +kernel
theorem dX9_layRows_61 : decode cX9_layRows 61 = .ok (.iload 4, 2) := by decide +kernel
theorem dX9_layRows_63 : decode cX9_layRows 63 = .ok (.aload_n 0, 1) := by decide +kernel
theorem dX9_layRows_64 : decode cX9_layRows 64 = .ok (.getfield 124, 3) := by decide +kernel
theorem dX9_layRows_67 : decode cX9_layRows 67 = .ok (.aload_n 0, 1) := by decide +kernel
theorem dX9_layRows_68 : decode cX9_layRows 68 = .ok (.getfield 124, 3) := by decide +kernel
theorem dX9_layRows_71 : decode cX9_layRows 71 = .ok (.imul, 1) := by decide +kernel
theorem dX9_layRows_72 : decode cX9_layRows 72 = .ok (.if_icmp .ge 41, 3) := by decide +kernel
theorem dX9_layRows_75 : decode cX9_layRows 75 = .ok (.aload_n 0, 1) := by decide +kernel
theorem dX9_layRows_76 : decode cX9_layRows 76 = .ok (.getfield 69, 3) := by decide +kernel
theorem dX9_layRows_79 : decode cX9_layRows 79 = .ok (.sipush 360, 3) := by decide +kernel
theorem dX9_layRows_82 : decode cX9_layRows 82 = .ok (.iload_n 3, 1) := by decide +kernel
theorem dX9_layRows_83 : decode cX9_layRows 83 = .ok (.imul, 1) := by decide +kernel
theorem dX9_layRows_84 : decode cX9_layRows 84 = .ok (.aload_n 0, 1) := by decide +kernel
theorem dX9_layRows_85 : decode cX9_layRows 85 = .ok (.getfield 51, 3) := by decide +kernel
theorem dX9_layRows_88 : decode cX9_layRows 88 = .ok (.iload_n 2, 1) := by decide +kernel
theorem dX9_layRows_89 : decode cX9_layRows 89 = .ok (.iaload, 1) := by decide +kernel
theorem dX9_layRows_90 : decode cX9_layRows 90 = .ok (.iadd, 1) := by decide +kernel
theorem dX9_layRows_91 : decode cX9_layRows 91 = .ok (.iload 4, 2) := by decide +kernel
theorem dX9_layRows_93 : decode cX9_layRows 93 = .ok (.iadd, 1) := by decide +kernel
theorem dX9_layRows_94 : decode cX9_layRows 94 = .ok (.aload_n 0, 1) := by decide +kernel
theorem dX9_layRows_95 : decode cX9_layRows 95 = .ok (.getfield 66, 3) := by decide +kernel
theorem dX9_layRows_98 : decode cX9_layRows 98 = .ok (.bipush 9, 2) := by decide +kernel
theorem dX9_layRows_100 : decode cX9_layRows 100 = .ok (.iload_n 3, 1) := by decide +kernel
theorem dX9_layRows_101 : decode cX9_layRows 101 = .ok (.imul, 1) := by decide +kernel
theorem dX9_layRows_102 : decode cX9_layRows 102 = .ok (.iload 4, 2) := by decide +kernel
theorem dX9_layRows_104 : decode cX9_layRows 104 = .ok (.iadd, 1) := by decide +kernel
theorem dX9_layRows_105 : decode cX9_layRows 105 = .ok (.baload, 1) := by decide +kernel
theorem dX9_layRows_106 : decode cX9_layRows 106 = .ok (.bastore, 1) := by decide +kernel
theorem dX9_layRows_107 : decode cX9_layRows 107 = .ok (.iinc 4 1, 3) := by decide +kernel
theorem dX9_layRows_110 : decode cX9_layRows 110 = .ok (.goto (-49), 3) := by decide +kernel
theorem dX9_layRows_113 : decode cX9_layRows 113 = .ok (.iinc 3 1, 3) := by decide +kernel
theorem dX9_layRows_116 : decode cX9_layRows 116 = .ok (.goto (-71), 3) := by decide +kernel
theorem dX9_layRows_119 : decode cX9_layRows 119 = .ok (.iinc 2 1, 3) := by decide +kernel
theorem dX9_layRows_122 : decode cX9_layRows 122 = .ok (.goto (-97), 3) := by decide +kernel
theorem dX9_layRows_125 : decode cX9_layRows 125 = .ok (.aload_n 0, 1) := by decide +kernel
theorem dX9_layRows_126 : decode cX9_layRows 126 = .ok (.aload_n 0, 1) := by decide +kernel
theorem dX9_layRows_127 : decode cX9_layRows 127 = .ok (.getfield 187, 3) := by decide +kernel
theorem dX9_layRows_130 : decode cX9_layRows 130 = .ok (.iconst 1, 1) := by decide +kernel
theorem dX9_layRows_131 : decode cX9_layRows 131 = .ok (.iadd, 1) := by decide +kernel
theorem dX9_layRows_132 : decode cX9_layRows 132 = .ok (.putfield 164, 3) := by decide +kernel
theorem dX9_layRows_135 : decode cX9_layRows 135 = .ok (.return_, 1) := by decide +kernel
theorem dX9_yes_0 : decode cX9_yes 0 = .ok (.aload_n 0, 1) := by decide +kernel
theorem dX9_yes_1 : decode cX9_yes 1 = .ok (.invokevirtual 206, 3) := by decide +kernel
theorem dX9_yes_4 : decode cX9_yes 4 = .ok (.aload_n 0, 1) := by decide +kernel
theorem dX9_yes_5 : decode cX9_yes 5 = .ok (.iload_n 1, 1) := by decide +kernel
theorem dX9_yes_6 : decode cX9_yes 6 = .ok (.invokevirtual 192, 3) := by decide +kernel
theorem dX9_yes_9 : decode cX9_yes 9 = .ok (.ifCond .eq 19, 3) := by decide +kernel
theorem dX9_yes_12 : decode cX9_yes 12 = .ok (.iload_n 2, 1) := by decide +kernel
theorem dX9_yes_13 : decode cX9_yes 13 = .ok (.i2l, 1) := by decide +kernel
theorem dX9_yes_14 : decode cX9_yes 14 = .ok (.lconst 0, 1) := by decide +kernel
theorem dX9_yes_15 : decode cX9_yes 15 = .ok (.aload_n 0, 1) := by decide +kernel
theorem dX9_yes_16 : decode cX9_yes 16 = .ok (.invokevirtual 181, 3) := by decide +kernel
theorem dX9_yes_19 : decode cX9_yes 19 = .ok (.iconst 1, 1) := by decide +kernel
theorem dX9_yes_20 : decode cX9_yes 20 = .ok (.isub, 1) := by decide +kernel
theorem dX9_yes_21 : decode cX9_yes 21 = .ok (.i2l, 1) := by decide +kernel
theorem dX9_yes_22 : decode cX9_yes 22 = .ok (.invokestatic 105, 3) := by decide +kernel
theorem dX9_yes_25 : decode cX9_yes 25 = .ok (.ifCond .ne 5, 3) := by decide +kernel
theorem dX9_yes_28 : decode cX9_yes 28 = .ok (.iconst (-1), 1) := by decide +kernel
theorem dX9_yes_29 : decode cX9_yes 29 = .ok (.ireturn, 1) := by decide +kernel
theorem dX9_yes_30 : decode cX9_yes 30 = .ok (.aload_n 0, 1) := by decide +kernel
theorem dX9_yes_31 : decode cX9_yes 31 = .ok (.getfield 48, 3) := by decide +kernel
theorem dX9_yes_34 : decode cX9_yes 34 = .ok (.iload_n 2, 1) := by decide +kernel
theorem dX9_yes_35 : decode cX9_yes 35 = .ok (.iaload, 1) := by decide +kernel
theorem dX9_yes_36 : decode cX9_yes 36 = .ok (.invokestatic 120, 3) := by decide +kernel
theorem dX9_yes_39 : decode cX9_yes 39 = .ok (.istore 5, 2) := by decide +kernel
theorem dX9_yes_41 : decode cX9_yes 41 = .ok (.iload_n 3, 1) := by decide +kernel
theorem dX9_yes_42 : decode cX9_yes 42 = .ok (.i2l, 1) := by decide +kernel
theorem dX9_yes_43 : decode cX9_yes 43 = .ok (.lconst 0, 1) := by decide +kernel
theorem dX9_yes_44 : decode cX9_yes 44 = .ok (.iload 5, 2) := by decide +kernel
theorem dX9_yes_46 : decode cX9_yes 46 = .ok (.iconst 1, 1) := by decide +kernel
theorem dX9_yes_47 : decode cX9_yes 47 = .ok (.isub, 1) := by decide +kernel
theorem dX9_yes_48 : decode cX9_yes 48 = .ok (.i2l, 1) := by decide +kernel
theorem dX9_yes_49 : decode cX9_yes 49 = .ok (.invokestatic 105, 3) := by decide +kernel
theorem dX9_yes_52 : decode cX9_yes 52 = .ok (.ifCond .eq 18, 3) := by decide +kernel
theorem dX9_yes_55 : decode cX9_yes 55 = .ok (.iload 4, 2) := by decide +kernel
theorem dX9_yes_57 : decode cX9_yes 57 = .ok (.i2l, 1) := by decide +kernel
theorem dX9_yes_58 : decode cX9_yes 58 = .ok (.lconst 0, 1) := by decide +kernel
theorem dX9_yes_59 : decode cX9_yes 59 = .ok (.iload 5, 2) := by decide +kernel
theorem dX9_yes_61 : decode cX9_yes 61 = .ok (.iconst 1, 1) := by decide +kernel
theorem dX9_yes_62 : decode cX9_yes 62 = .ok (.isub, 1) := by decide +kernel
theorem dX9_yes_63 : decode cX9_yes 63 = .ok (.i2l, 1) := by decide +kernel
theorem dX9_yes_64 : decode cX9_yes 64 = .ok (.invokestatic 105, 3) := by decide +kernel
theorem dX9_yes_67 : decode cX9_yes 67 = .ok (.ifCond .ne 6, 3) := by decide +kernel
theorem dX9_yes_70 : decode cX9_yes 70 = .ok (.bipush (-2), 2) := by decide +kernel
theorem dX9_yes_72 : decode cX9_yes 72 = .ok (.ireturn, 1) := by decide +kernel
theorem dX9_yes_73 : decode cX9_yes 73 = .ok (.aload_n 0, 1) := by decide +kernel
theorem dX9_yes_74 : decode cX9_yes 74 = .ok (.getfield 69, 3) := by decide +kernel
theorem dX9_yes_77 : decode cX9_yes 77 = .ok (.sipush 360, 3) := by decide +kernel
theorem dX9_yes_80 : decode cX9_yes 80 = .ok (.iload_n 1, 1) := by decide +kernel
theorem dX9_yes_81 : decode cX9_yes 81 = .ok (.imul, 1) := by decide +kernel
theorem dX9_yes_82 : decode cX9_yes 82 = .ok (.aload_n 0, 1) := by decide +kernel
theorem dX9_yes_83 : decode cX9_yes 83 = .ok (.getfield 51, 3) := by decide +kernel
theorem dX9_yes_86 : decode cX9_yes 86 = .ok (.iload_n 2, 1) := by decide +kernel
theorem dX9_yes_87 : decode cX9_yes 87 = .ok (.iaload, 1) := by decide +kernel
theorem dX9_yes_88 : decode cX9_yes 88 = .ok (.iadd, 1) := by decide +kernel
theorem dX9_yes_89 : decode cX9_yes 89 = .ok (.iload 5, 2) := by decide +kernel
theorem dX9_yes_91 : decode cX9_yes 91 = .ok (.iload_n 3, 1) := by decide +kernel
theorem dX9_yes_92 : decode cX9_yes 92 = .ok (.imul, 1) := by decide +kernel
theorem dX9_yes_93 : decode cX9_yes 93 = .ok (.iadd, 1) := by decide +kernel
theorem dX9_yes_94 : decode cX9_yes 94 = .ok (.iload 4, 2) := by decide +kernel
theorem dX9_yes_96 : decode cX9_yes 96 = .ok (.iadd, 1) := by decide +kernel
theorem dX9_yes_97 : decode cX9_yes 97 = .ok (.baload, 1) := by decide +kernel
theorem dX9_yes_98 : decode cX9_yes 98 = .ok (.ifCond .eq 7, 3) := by decide +kernel
theorem dX9_yes_101 : decode cX9_yes 101 = .ok (.iconst 1, 1) := by decide +kernel
theorem dX9_yes_102 : decode cX9_yes 102 = .ok (.goto 4, 3) := by decide +kernel
theorem dX9_yes_105 : decode cX9_yes 105 = .ok (.iconst 0, 1) := by decide +kernel
theorem dX9_yes_106 : decode cX9_yes 106 = .ok (.ireturn, 1) := by decide +kernel
theorem dX9_manyOf_0 : decode cX9_manyOf 0 = .ok (.iconst 0, 1) := by decide +kernel
theorem dX9_manyOf_1 : decode cX9_manyOf 1 = .ok (.istore_n 2, 1) := by decide +kernel
theorem dX9_manyOf_2 : decode cX9_manyOf 2 = .ok (.iconst 0, 1) := by decide +kernel
theorem dX9_manyOf_3 : decode cX9_manyOf 3 = .ok (.istore_n 3, 1) := by decide +kernel
theorem dX9_manyOf_4 : decode cX9_manyOf 4 = .ok (.iload_n 3, 1) := by decide +kernel
theorem dX9_manyOf_5 : decode cX9_manyOf 5 = .ok (.aload_n 0, 1) := by decide +kernel
theorem dX9_manyOf_6 : decode cX9_manyOf 6 = .ok (.getfield 51, 3) := by decide +kernel
theorem dX9_manyOf_9 : decode cX9_manyOf 9 = .ok (.aload_n 0, 1) := by decide +kernel
theorem dX9_manyOf_10 : decode cX9_manyOf 10 = .ok (.invokevirtual 181, 3) := by decide +kernel
theorem dX9_manyOf_13 : decode cX9_manyOf 13 = .ok (.iaload, 1) := by decide +kernel
theorem dX9_manyOf_14 : decode cX9_manyOf 14 = .ok (.if_icmp .ge 32, 3) := by decide +kernel
theorem dX9_manyOf_17 : decode cX9_manyOf 17 = .ok (.iload_n 2, 1) := by decide +kernel
theorem dX9_manyOf_18 : decode cX9_manyOf 18 = .ok (.aload_n 0, 1) := by decide +kernel
theorem dX9_manyOf_19 : decode cX9_manyOf 19 = .ok (.getfield 69, 3) := by decide +kernel
theorem dX9_manyOf_22 : decode cX9_manyOf 22 = .ok (.sipush 360, 3) := by decide +kernel
theorem dX9_manyOf_25 : decode cX9_manyOf 25 = .ok (.iload_n 1, 1) := by decide +kernel
theorem dX9_manyOf_26 : decode cX9_manyOf 26 = .ok (.imul, 1) := by decide +kernel
theorem dX9_manyOf_27 : decode cX9_manyOf 27 = .ok (.iload_n 3, 1) := by decide +kernel
theorem dX9_manyOf_28 : decode cX9_manyOf 28 = .ok (.iadd, 1) := by decide +kernel
theorem dX9_manyOf_29 : decode cX9_manyOf 29 = .ok (.baload, 1) := by decide +kernel
theorem dX9_manyOf_30 : decode cX9_manyOf 30 = .ok (.ifCond .eq 7, 3) := by decide +kernel
theorem dX9_manyOf_33 : decode cX9_manyOf 33 = .ok (.iconst 1, 1) := by decide +kernel
theorem dX9_manyOf_34 : decode cX9_manyOf 34 = .ok (.goto 4, 3) := by decide +kernel
theorem dX9_manyOf_37 : decode cX9_manyOf 37 = .ok (.iconst 0, 1) := by decide +kernel
theorem dX9_manyOf_38 : decode cX9_manyOf 38 = .ok (.iadd, 1) := by decide +kernel
theorem dX9_manyOf_39 : decode cX9_manyOf 39 = .ok (.istore_n 2, 1) := by decide +kernel
theorem dX9_manyOf_40 : decode cX9_manyOf 40 = .ok (.iinc 3 1, 3) := by decide +kernel
theorem dX9_manyOf_43 : decode cX9_manyOf 43 = .ok (.goto (-39), 3) := by decide +kernel
theorem dX9_manyOf_46 : decode cX9_manyOf 46 = .ok (.iload_n 2, 1) := by decide +kernel
theorem dX9_manyOf_47 : decode cX9_manyOf 47 = .ok (.ireturn, 1) := by decide +kernel
theorem dX9_butForOf_0 : decode cX9_butForOf 0 = .ok (.iconst 0, 1) := by decide +kernel
theorem dX9_butForOf_1 : decode cX9_butForOf 1 = .ok (.istore_n 3, 1) := by decide +kernel
theorem dX9_butForOf_2 : decode cX9_butForOf 2 = .ok (.iconst 0, 1) := by decide +kernel
theorem dX9_butForOf_3 : decode cX9_butForOf 3 = .ok (.istore 4, 2) := by decide +kernel
theorem dX9_butForOf_5 : decode cX9_butForOf 5 = .ok (.iload 4, 2) := by decide +kernel
theorem dX9_butForOf_7 : decode cX9_butForOf 7 = .ok (.aload_n 0, 1) := by decide +kernel
theorem dX9_butForOf_8 : decode cX9_butForOf 8 = .ok (.getfield 51, 3) := by decide +kernel
theorem dX9_butForOf_11 : decode cX9_butForOf 11 = .ok (.aload_n 0, 1) := by decide +kernel
theorem dX9_butForOf_12 : decode cX9_butForOf 12 = .ok (.invokevirtual 181, 3) := by decide +kernel
theorem dX9_butForOf_15 : decode cX9_butForOf 15 = .ok (.iaload, 1) := by decide +kernel
theorem dX9_butForOf_16 : decode cX9_butForOf 16 = .ok (.if_icmp .ge 49, 3) := by decide +kernel
theorem dX9_butForOf_19 : decode cX9_butForOf 19 = .ok (.iload_n 3, 1) := by decide +kernel
theorem dX9_butForOf_20 : decode cX9_butForOf 20 = .ok (.aload_n 0, 1) := by decide +kernel
theorem dX9_butForOf_21 : decode cX9_butForOf 21 = .ok (.getfield 69, 3) := by decide +kernel
theorem dX9_butForOf_24 : decode cX9_butForOf 24 = .ok (.sipush 360, 3) := by decide +kernel
theorem dX9_butForOf_27 : decode cX9_butForOf 27 = .ok (.iload_n 1, 1) := by decide +kernel
theorem dX9_butForOf_28 : decode cX9_butForOf 28 = .ok (.imul, 1) := by decide +kernel
theorem dX9_butForOf_29 : decode cX9_butForOf 29 = .ok (.iload 4, 2) := by decide +kernel
theorem dX9_butForOf_31 : decode cX9_butForOf 31 = .ok (.iadd, 1) := by decide +kernel
theorem dX9_butForOf_32 : decode cX9_butForOf 32 = .ok (.baload, 1) := by decide +kernel
theorem dX9_butForOf_33 : decode cX9_butForOf 33 = .ok (.ifCond .eq 23, 3) := by decide +kernel
theorem dX9_butForOf_36 : decode cX9_butForOf 36 = .ok (.aload_n 0, 1) := by decide +kernel
theorem dX9_butForOf_37 : decode cX9_butForOf 37 = .ok (.getfield 69, 3) := by decide +kernel
theorem dX9_butForOf_40 : decode cX9_butForOf 40 = .ok (.sipush 360, 3) := by decide +kernel
theorem dX9_butForOf_43 : decode cX9_butForOf 43 = .ok (.iload_n 2, 1) := by decide +kernel
theorem dX9_butForOf_44 : decode cX9_butForOf 44 = .ok (.imul, 1) := by decide +kernel
theorem dX9_butForOf_45 : decode cX9_butForOf 45 = .ok (.iload 4, 2) := by decide +kernel
theorem dX9_butForOf_47 : decode cX9_butForOf 47 = .ok (.iadd, 1) := by decide +kernel
theorem dX9_butForOf_48 : decode cX9_butForOf 48 = .ok (.baload, 1) := by decide +kernel
theorem dX9_butForOf_49 : decode cX9_butForOf 49 = .ok (.ifCond .ne 7, 3) := by decide +kernel
theorem dX9_butForOf_52 : decode cX9_butForOf 52 = .ok (.iconst 1, 1) := by decide +kernel
theorem dX9_butForOf_53 : decode cX9_butForOf 53 = .ok (.goto 4, 3) := by decide +kernel
theorem dX9_butForOf_56 : decode cX9_butForOf 56 = .ok (.iconst 0, 1) := by decide +kernel
theorem dX9_butForOf_57 : decode cX9_butForOf 57 = .ok (.iadd, 1) := by decide +kernel
theorem dX9_butForOf_58 : decode cX9_butForOf 58 = .ok (.istore_n 3, 1) := by decide +kernel
theorem dX9_butForOf_59 : decode cX9_butForOf 59 = .ok (.iinc 4 1, 3) := by decide +kernel
theorem dX9_butForOf_62 : decode cX9_butForOf 62 = .ok (.goto (-57), 3) := by decide +kernel
theorem dX9_butForOf_65 : decode cX9_butForOf 65 = .ok (.iload_n 3, 1) := by decide +kernel
theorem dX9_butForOf_66 : decode cX9_butForOf 66 = .ok (.ireturn, 1) := by decide +kernel
theorem dX9_agrees_0 : decode cX9_agrees 0 = .ok (.aload_n 0, 1) := by decide +kernel
theorem dX9_agrees_1 : decode cX9_agrees 1 = .ok (.iload_n 1, 1) := by decide +kernel
theorem dX9_agrees_2 : decode cX9_agrees 2 = .ok (.iload_n 2, 1) := by decide +kernel
theorem dX9_agrees_3 : decode cX9_agrees 3 = .ok (.invokevirtual 209, 3) := by decide +kernel
theorem dX9_agrees_6 : decode cX9_agrees 6 = .ok (.ifCond .ne 16, 3) := by decide +kernel
theorem dX9_agrees_9 : decode cX9_agrees 9 = .ok (.aload_n 0, 1) := by decide +kernel
theorem dX9_agrees_10 : decode cX9_agrees 10 = .ok (.iload_n 2, 1) := by decide +kernel
theorem dX9_agrees_11 : decode cX9_agrees 11 = .ok (.iload_n 1, 1) := by decide +kernel
theorem dX9_agrees_12 : decode cX9_agrees 12 = .ok (.invokevirtual 209, 3) := by decide +kernel
theorem dX9_agrees_15 : decode cX9_agrees 15 = .ok (.ifCond .ne 7, 3) := by decide +kernel
theorem dX9_agrees_18 : decode cX9_agrees 18 = .ok (.iconst 1, 1) := by decide +kernel
theorem dX9_agrees_19 : decode cX9_agrees 19 = .ok (.goto 4, 3) := by decide +kernel
theorem dX9_agrees_22 : decode cX9_agrees 22 = .ok (.iconst 0, 1) := by decide +kernel
theorem dX9_agrees_23 : decode cX9_agrees 23 = .ok (.ireturn, 1) := by decide +kernel
theorem dX9_many_0 : decode cX9_many 0 = .ok (.aload_n 0, 1) := by decide +kernel
theorem dX9_many_1 : decode cX9_many 1 = .ok (.iload_n 1, 1) := by decide +kernel
theorem dX9_many_2 : decode cX9_many 2 = .ok (.invokevirtual 192, 3) := by decide +kernel
theorem dX9_many_5 : decode cX9_many 5 = .ok (.ifCond .ne 5, 3) := by decide +kernel
theorem dX9_many_8 : decode cX9_many 8 = .ok (.iconst (-1), 1) := by decide +kernel
theorem dX9_many_9 : decode cX9_many 9 = .ok (.ireturn, 1) := by decide +kernel
theorem dX9_many_10 : decode cX9_many 10 = .ok (.aload_n 0, 1) := by decide +kernel
theorem dX9_many_11 : decode cX9_many 11 = .ok (.invokevirtual 206, 3) := by decide +kernel
theorem dX9_many_14 : decode cX9_many 14 = .ok (.aload_n 0, 1) := by decide +kernel
theorem dX9_many_15 : decode cX9_many 15 = .ok (.iload_n 1, 1) := by decide +kernel
theorem dX9_many_16 : decode cX9_many 16 = .ok (.invokevirtual 213, 3) := by decide +kernel
theorem dX9_many_19 : decode cX9_many 19 = .ok (.ireturn, 1) := by decide +kernel
theorem dX9_twin_0 : decode cX9_twin 0 = .ok (.aload_n 0, 1) := by decide +kernel
theorem dX9_twin_1 : decode cX9_twin 1 = .ok (.iload_n 1, 1) := by decide +kernel
theorem dX9_twin_2 : decode cX9_twin 2 = .ok (.invokevirtual 192, 3) := by decide +kernel
theorem dX9_twin_5 : decode cX9_twin 5 = .ok (.ifCond .ne 5, 3) := by decide +kernel
theorem dX9_twin_8 : decode cX9_twin 8 = .ok (.iconst (-1), 1) := by decide +kernel
theorem dX9_twin_9 : decode cX9_twin 9 = .ok (.ireturn, 1) := by decide +kernel
theorem dX9_twin_10 : decode cX9_twin 10 = .ok (.aload_n 0, 1) := by decide +kernel
theorem dX9_twin_11 : decode cX9_twin 11 = .ok (.invokevirtual 206, 3) := by decide +kernel
theorem dX9_twin_14 : decode cX9_twin 14 = .ok (.iconst 0, 1) := by decide +kernel
theorem dX9_twin_15 : decode cX9_twin 15 = .ok (.istore_n 2, 1) := by decide +kernel
theorem dX9_twin_16 : decode cX9_twin 16 = .ok (.iload_n 2, 1) := by decide +kernel
theorem dX9_twin_17 : decode cX9_twin 17 = .ok (.iload_n 1, 1) := by decide +kernel
theorem dX9_twin_18 : decode cX9_twin 18 = .ok (.if_icmp .ge 20, 3) := by decide +kernel
theorem dX9_twin_21 : decode cX9_twin 21 = .ok (.aload_n 0, 1) := by decide +kernel
theorem dX9_twin_22 : decode cX9_twin 22 = .ok (.iload_n 2, 1) := by decide +kernel
theorem dX9_twin_23 : decode cX9_twin 23 = .ok (.iload_n 1, 1) := by decide +kernel
theorem dX9_twin_24 : decode cX9_twin 24 = .ok (.invokevirtual 216, 3) := by decide +kernel
theorem dX9_twin_27 : decode cX9_twin 27 = .ok (.ifCond .eq 5, 3) := by decide +kernel
theorem dX9_twin_30 : decode cX9_twin 30 = .ok (.iload_n 2, 1) := by decide +kernel
theorem dX9_twin_31 : decode cX9_twin 31 = .ok (.ireturn, 1) := by decide +kernel
theorem dX9_twin_32 : decode cX9_twin 32 = .ok (.iinc 2 1, 3) := by decide +kernel
theorem dX9_twin_35 : decode cX9_twin 35 = .ok (.goto (-19), 3) := by decide +kernel
theorem dX9_twin_38 : decode cX9_twin 38 = .ok (.bipush (-9), 2) := by decide +kernel
theorem dX9_twin_40 : decode cX9_twin 40 = .ok (.ireturn, 1) := by decide +kernel
theorem dX9_butFor_0 : decode cX9_butFor 0 = .ok (.aload_n 0, 1) := by decide +kernel
theorem dX9_butFor_1 : decode cX9_butFor 1 = .ok (.iload_n 1, 1) := by decide +kernel
theorem dX9_butFor_2 : decode cX9_butFor 2 = .ok (.invokevirtual 192, 3) := by decide +kernel
theorem dX9_butFor_5 : decode cX9_butFor 5 = .ok (.ifCond .eq 11, 3) := by decide +kernel
theorem dX9_butFor_8 : decode cX9_butFor 8 = .ok (.aload_n 0, 1) := by decide +kernel
theorem dX9_butFor_9 : decode cX9_butFor 9 = .ok (.iload_n 2, 1) := by decide +kernel
theorem dX9_butFor_10 : decode cX9_butFor 10 = .ok (.invokevirtual 192, 3) := by decide +kernel
theorem dX9_butFor_13 : decode cX9_butFor 13 = .ok (.ifCond .ne 5, 3) := by decide +kernel
theorem dX9_butFor_16 : decode cX9_butFor 16 = .ok (.iconst (-1), 1) := by decide +kernel
theorem dX9_butFor_17 : decode cX9_butFor 17 = .ok (.ireturn, 1) := by decide +kernel
theorem dX9_butFor_18 : decode cX9_butFor 18 = .ok (.aload_n 0, 1) := by decide +kernel
theorem dX9_butFor_19 : decode cX9_butFor 19 = .ok (.invokevirtual 206, 3) := by decide +kernel
theorem dX9_butFor_22 : decode cX9_butFor 22 = .ok (.aload_n 0, 1) := by decide +kernel
theorem dX9_butFor_23 : decode cX9_butFor 23 = .ok (.iload_n 1, 1) := by decide +kernel
theorem dX9_butFor_24 : decode cX9_butFor 24 = .ok (.iload_n 2, 1) := by decide +kernel
theorem dX9_butFor_25 : decode cX9_butFor 25 = .ok (.invokevirtual 209, 3) := by decide +kernel
theorem dX9_butFor_28 : decode cX9_butFor 28 = .ok (.ireturn, 1) := by decide +kernel
theorem dX9_look_0 : decode cX9_look 0 = .ok (.aload_n 0, 1) := by decide +kernel
theorem dX9_look_1 : decode cX9_look 1 = .ok (.iload_n 1, 1) := by decide +kernel
theorem dX9_look_2 : decode cX9_look 2 = .ok (.invokevirtual 192, 3) := by decide +kernel
theorem dX9_look_5 : decode cX9_look 5 = .ok (.ifCond .eq 11, 3) := by decide +kernel
theorem dX9_look_8 : decode cX9_look 8 = .ok (.aload_n 0, 1) := by decide +kernel
theorem dX9_look_9 : decode cX9_look 9 = .ok (.iload_n 2, 1) := by decide +kernel
theorem dX9_look_10 : decode cX9_look 10 = .ok (.invokevirtual 192, 3) := by decide +kernel
theorem dX9_look_13 : decode cX9_look 13 = .ok (.ifCond .ne 5, 3) := by decide +kernel
theorem dX9_look_16 : decode cX9_look 16 = .ok (.iconst (-1), 1) := by decide +kernel
theorem dX9_look_17 : decode cX9_look 17 = .ok (.ireturn, 1) := by decide +kernel
theorem dX9_look_18 : decode cX9_look 18 = .ok (.aload_n 0, 1) := by decide +kernel
theorem dX9_look_19 : decode cX9_look 19 = .ok (.invokevirtual 206, 3) := by decide +kernel
theorem dX9_look_22 : decode cX9_look 22 = .ok (.iconst 0, 1) := by decide +kernel
theorem dX9_look_23 : decode cX9_look 23 = .ok (.istore 4, 2) := by decide +kernel
theorem dX9_look_25 : decode cX9_look 25 = .ok (.iconst 0, 1) := by decide +kernel
theorem dX9_look_26 : decode cX9_look 26 = .ok (.istore 5, 2) := by decide +kernel
theorem dX9_look_28 : decode cX9_look 28 = .ok (.iload 5, 2) := by decide +kernel
theorem dX9_look_30 : decode cX9_look 30 = .ok (.aload_n 0, 1) := by decide +kernel
theorem dX9_look_31 : decode cX9_look 31 = .ok (.getfield 51, 3) := by decide +kernel
theorem dX9_look_34 : decode cX9_look 34 = .ok (.aload_n 0, 1) := by decide +kernel
theorem dX9_look_35 : decode cX9_look 35 = .ok (.invokevirtual 181, 3) := by decide +kernel
theorem dX9_look_38 : decode cX9_look 38 = .ok (.iaload, 1) := by decide +kernel
theorem dX9_look_39 : decode cX9_look 39 = .ok (.if_icmp .ge 53, 3) := by decide +kernel
theorem dX9_look_42 : decode cX9_look 42 = .ok (.aload_n 0, 1) := by decide +kernel
theorem dX9_look_43 : decode cX9_look 43 = .ok (.getfield 69, 3) := by decide +kernel
theorem dX9_look_46 : decode cX9_look 46 = .ok (.sipush 360, 3) := by decide +kernel
theorem dX9_look_49 : decode cX9_look 49 = .ok (.iload_n 1, 1) := by decide +kernel
theorem dX9_look_50 : decode cX9_look 50 = .ok (.imul, 1) := by decide +kernel
theorem dX9_look_51 : decode cX9_look 51 = .ok (.iload 5, 2) := by decide +kernel
theorem dX9_look_53 : decode cX9_look 53 = .ok (.iadd, 1) := by decide +kernel
theorem dX9_look_54 : decode cX9_look 54 = .ok (.baload, 1) := by decide +kernel
theorem dX9_look_55 : decode cX9_look 55 = .ok (.ifCond .eq 31, 3) := by decide +kernel
theorem dX9_look_58 : decode cX9_look 58 = .ok (.aload_n 0, 1) := by decide +kernel
theorem dX9_look_59 : decode cX9_look 59 = .ok (.getfield 69, 3) := by decide +kernel
theorem dX9_look_62 : decode cX9_look 62 = .ok (.sipush 360, 3) := by decide +kernel
theorem dX9_look_65 : decode cX9_look 65 = .ok (.iload_n 2, 1) := by decide +kernel
theorem dX9_look_66 : decode cX9_look 66 = .ok (.imul, 1) := by decide +kernel
theorem dX9_look_67 : decode cX9_look 67 = .ok (.iload 5, 2) := by decide +kernel
theorem dX9_look_69 : decode cX9_look 69 = .ok (.iadd, 1) := by decide +kernel
theorem dX9_look_70 : decode cX9_look 70 = .ok (.baload, 1) := by decide +kernel
theorem dX9_look_71 : decode cX9_look 71 = .ok (.ifCond .ne 15, 3) := by decide +kernel
theorem dX9_look_74 : decode cX9_look 74 = .ok (.iload 4, 2) := by decide +kernel
theorem dX9_look_76 : decode cX9_look 76 = .ok (.iload_n 3, 1) := by decide +kernel
theorem dX9_look_77 : decode cX9_look 77 = .ok (.if_icmp .ne 6, 3) := by decide +kernel
theorem dX9_look_80 : decode cX9_look 80 = .ok (.iload 5, 2) := by decide +kernel
theorem dX9_look_82 : decode cX9_look 82 = .ok (.ireturn, 1) := by decide +kernel
theorem dX9_look_83 : decode cX9_look 83 = .ok (.iinc 4 1, 3) := by decide +kernel
theorem dX9_look_86 : decode cX9_look 86 = .ok (.iinc 5 1, 3) := by decide +kernel
theorem dX9_look_89 : decode cX9_look 89 = .ok (.goto (-61), 3) := by decide +kernel
theorem dX9_look_92 : decode cX9_look 92 = .ok (.bipush (-9), 2) := by decide +kernel
theorem dX9_look_94 : decode cX9_look 94 = .ok (.ireturn, 1) := by decide +kernel
theorem dX9_never_0 : decode cX9_never 0 = .ok (.aload_n 0, 1) := by decide +kernel
theorem dX9_never_1 : decode cX9_never 1 = .ok (.iload_n 1, 1) := by decide +kernel
theorem dX9_never_2 : decode cX9_never 2 = .ok (.invokevirtual 192, 3) := by decide +kernel
theorem dX9_never_5 : decode cX9_never 5 = .ok (.ifCond .eq 11, 3) := by decide +kernel
theorem dX9_never_8 : decode cX9_never 8 = .ok (.aload_n 0, 1) := by decide +kernel
theorem dX9_never_9 : decode cX9_never 9 = .ok (.iload_n 2, 1) := by decide +kernel
theorem dX9_never_10 : decode cX9_never 10 = .ok (.invokevirtual 192, 3) := by decide +kernel
theorem dX9_never_13 : decode cX9_never 13 = .ok (.ifCond .ne 5, 3) := by decide +kernel
theorem dX9_never_16 : decode cX9_never 16 = .ok (.iconst (-1), 1) := by decide +kernel
theorem dX9_never_17 : decode cX9_never 17 = .ok (.ireturn, 1) := by decide +kernel
theorem dX9_never_18 : decode cX9_never 18 = .ok (.aload_n 0, 1) := by decide +kernel
theorem dX9_never_19 : decode cX9_never 19 = .ok (.invokevirtual 206, 3) := by decide +kernel
theorem dX9_never_22 : decode cX9_never 22 = .ok (.aload_n 0, 1) := by decide +kernel
theorem dX9_never_23 : decode cX9_never 23 = .ok (.iload_n 1, 1) := by decide +kernel
theorem dX9_never_24 : decode cX9_never 24 = .ok (.iload_n 2, 1) := by decide +kernel
theorem dX9_never_25 : decode cX9_never 25 = .ok (.invokevirtual 209, 3) := by decide +kernel
theorem dX9_never_28 : decode cX9_never 28 = .ok (.aload_n 0, 1) := by decide +kernel
theorem dX9_never_29 : decode cX9_never 29 = .ok (.iload_n 1, 1) := by decide +kernel
theorem dX9_never_30 : decode cX9_never 30 = .ok (.invokevirtual 213, 3) := by decide +kernel
theorem dX9_never_33 : decode cX9_never 33 = .ok (.if_icmp .ne 7, 3) := by decide +kernel
theorem dX9_never_36 : decode cX9_never 36 = .ok (.iconst 1, 1) := by decide +kernel
theorem dX9_never_37 : decode cX9_never 37 = .ok (.goto 4, 3) := by decide +kernel
theorem dX9_never_40 : decode cX9_never 40 = .ok (.iconst 0, 1) := by decide +kernel
theorem dX9_never_41 : decode cX9_never 41 = .ok (.ireturn, 1) := by decide +kernel
theorem dX9_deny_0 : decode cX9_deny 0 = .ok (.aload_n 0, 1) := by decide +kernel
theorem dX9_deny_1 : decode cX9_deny 1 = .ok (.iload_n 1, 1) := by decide +kernel
theorem dX9_deny_2 : decode cX9_deny 2 = .ok (.invokevirtual 192, 3) := by decide +kernel
theorem dX9_deny_5 : decode cX9_deny 5 = .ok (.ifCond .eq 11, 3) := by decide +kernel
theorem dX9_deny_8 : decode cX9_deny 8 = .ok (.aload_n 0, 1) := by decide +kernel
theorem dX9_deny_9 : decode cX9_deny 9 = .ok (.iload_n 2, 1) := by decide +kernel
theorem dX9_deny_10 : decode cX9_deny 10 = .ok (.invokevirtual 192, 3) := by decide +kernel
theorem dX9_deny_13 : decode cX9_deny 13 = .ok (.ifCond .ne 5, 3) := by decide +kernel
theorem dX9_deny_16 : decode cX9_deny 16 = .ok (.iconst (-1), 1) := by decide +kernel
theorem dX9_deny_17 : decode cX9_deny 17 = .ok (.ireturn, 1) := by decide +kernel
theorem dX9_deny_18 : decode cX9_deny 18 = .ok (.aload_n 0, 1) := by decide +kernel
theorem dX9_deny_19 : decode cX9_deny 19 = .ok (.invokevirtual 175, 3) := by decide +kernel
theorem dX9_deny_22 : decode cX9_deny 22 = .ok (.iload_n 1, 1) := by decide +kernel
theorem dX9_deny_23 : decode cX9_deny 23 = .ok (.iload_n 2, 1) := by decide +kernel
theorem dX9_deny_24 : decode cX9_deny 24 = .ok (.if_icmp .le 7, 3) := by decide +kernel
theorem dX9_deny_27 : decode cX9_deny 27 = .ok (.iload_n 1, 1) := by decide +kernel
theorem dX9_deny_28 : decode cX9_deny 28 = .ok (.goto 4, 3) := by decide +kernel
theorem dX9_deny_31 : decode cX9_deny 31 = .ok (.iload_n 2, 1) := by decide +kernel
theorem dX9_deny_32 : decode cX9_deny 32 = .ok (.istore_n 3, 1) := by decide +kernel
theorem dX9_deny_33 : decode cX9_deny 33 = .ok (.iconst 0, 1) := by decide +kernel
theorem dX9_deny_34 : decode cX9_deny 34 = .ok (.istore 4, 2) := by decide +kernel
theorem dX9_deny_36 : decode cX9_deny 36 = .ok (.iload 4, 2) := by decide +kernel
theorem dX9_deny_38 : decode cX9_deny 38 = .ok (.aload_n 0, 1) := by decide +kernel
theorem dX9_deny_39 : decode cX9_deny 39 = .ok (.getfield 157, 3) := by decide +kernel
theorem dX9_deny_42 : decode cX9_deny 42 = .ok (.if_icmp .ge 118, 3) := by decide +kernel
theorem dX9_deny_45 : decode cX9_deny 45 = .ok (.aload_n 0, 1) := by decide +kernel
theorem dX9_deny_46 : decode cX9_deny 46 = .ok (.aload_n 0, 1) := by decide +kernel
theorem dX9_deny_47 : decode cX9_deny 47 = .ok (.getfield 48, 3) := by decide +kernel
theorem dX9_deny_50 : decode cX9_deny 50 = .ok (.iload 4, 2) := by decide +kernel
theorem dX9_deny_52 : decode cX9_deny 52 = .ok (.iaload, 1) := by decide +kernel
theorem dX9_deny_53 : decode cX9_deny 53 = .ok (.invokevirtual 138, 3) := by decide +kernel
theorem dX9_deny_56 : decode cX9_deny 56 = .ok (.iconst 0, 1) := by decide +kernel
theorem dX9_deny_57 : decode cX9_deny 57 = .ok (.istore 5, 2) := by decide +kernel
theorem dX9_deny_59 : decode cX9_deny 59 = .ok (.iload 5, 2) := by decide +kernel
theorem dX9_deny_61 : decode cX9_deny 61 = .ok (.iload_n 3, 1) := by decide +kernel
theorem dX9_deny_62 : decode cX9_deny 62 = .ok (.if_icmp .gt 15, 3) := by decide +kernel
theorem dX9_deny_65 : decode cX9_deny 65 = .ok (.aload_n 0, 1) := by decide +kernel
theorem dX9_deny_66 : decode cX9_deny 66 = .ok (.iload 5, 2) := by decide +kernel
theorem dX9_deny_68 : decode cX9_deny 68 = .ok (.invokevirtual 203, 3) := by decide +kernel
theorem dX9_deny_71 : decode cX9_deny 71 = .ok (.iinc 5 1, 3) := by decide +kernel
theorem dX9_deny_74 : decode cX9_deny 74 = .ok (.goto (-15), 3) := by decide +kernel
theorem dX9_deny_77 : decode cX9_deny 77 = .ok (.iconst 0, 1) := by decide +kernel
theorem dX9_deny_78 : decode cX9_deny 78 = .ok (.istore 5, 2) := by decide +kernel
theorem dX9_deny_80 : decode cX9_deny 80 = .ok (.iload 5, 2) := by decide +kernel
theorem dX9_deny_82 : decode cX9_deny 82 = .ok (.aload_n 0, 1) := by decide +kernel
theorem dX9_deny_83 : decode cX9_deny 83 = .ok (.getfield 124, 3) := by decide +kernel
theorem dX9_deny_86 : decode cX9_deny 86 = .ok (.aload_n 0, 1) := by decide +kernel
theorem dX9_deny_87 : decode cX9_deny 87 = .ok (.getfield 124, 3) := by decide +kernel
theorem dX9_deny_90 : decode cX9_deny 90 = .ok (.imul, 1) := by decide +kernel
theorem dX9_deny_91 : decode cX9_deny 91 = .ok (.if_icmp .ge 63, 3) := by decide +kernel
theorem dX9_deny_94 : decode cX9_deny 94 = .ok (.aload_n 0, 1) := by decide +kernel
theorem dX9_deny_95 : decode cX9_deny 95 = .ok (.getfield 66, 3) := by decide +kernel
theorem dX9_deny_98 : decode cX9_deny 98 = .ok (.bipush 9, 2) := by decide +kernel
theorem dX9_deny_100 : decode cX9_deny 100 = .ok (.iload_n 1, 1) := by decide +kernel
theorem dX9_deny_101 : decode cX9_deny 101 = .ok (.imul, 1) := by decide +kernel
theorem dX9_deny_102 : decode cX9_deny 102 = .ok (.iload 5, 2) := by decide +kernel
theorem dX9_deny_104 : decode cX9_deny 104 = .ok (.iadd, 1) := by decide +kernel
theorem dX9_deny_105 : decode cX9_deny 105 = .ok (.baload, 1) := by decide +kernel
theorem dX9_deny_106 : decode cX9_deny 106 = .ok (.ifCond .eq 42, 3) := by decide +kernel
theorem dX9_deny_109 : decode cX9_deny 109 = .ok (.aload_n 0, 1) := by decide +kernel
theorem dX9_deny_110 : decode cX9_deny 110 = .ok (.getfield 66, 3) := by decide +kernel
theorem dX9_deny_113 : decode cX9_deny 113 = .ok (.bipush 9, 2) := by decide +kernel
theorem dX9_deny_115 : decode cX9_deny 115 = .ok (.iload_n 2, 1) := by decide +kernel
theorem dX9_deny_116 : decode cX9_deny 116 = .ok (.imul, 1) := by decide +kernel
theorem dX9_deny_117 : decode cX9_deny 117 = .ok (.iload 5, 2) := by decide +kernel
theorem dX9_deny_119 : decode cX9_deny 119 = .ok (.iadd, 1) := by decide +kernel
theorem dX9_deny_120 : decode cX9_deny 120 = .ok (.baload, 1) := by decide +kernel
theorem dX9_deny_121 : decode cX9_deny 121 = .ok (.ifCond .ne 27, 3) := by decide +kernel
theorem dX9_deny_124 : decode cX9_deny 124 = .ok (.ldc 149, 2) := by decide +kernel
theorem dX9_deny_126 : decode cX9_deny 126 = .ok (.aload_n 0, 1) := by decide +kernel
theorem dX9_deny_127 : decode cX9_deny 127 = .ok (.getfield 124, 3) := by decide +kernel
theorem dX9_deny_130 : decode cX9_deny 130 = .ok (.imul, 1) := by decide +kernel
theorem dX9_deny_131 : decode cX9_deny 131 = .ok (.aload_n 0, 1) := by decide +kernel
theorem dX9_deny_132 : decode cX9_deny 132 = .ok (.getfield 48, 3) := by decide +kernel
theorem dX9_deny_135 : decode cX9_deny 135 = .ok (.iload 4, 2) := by decide +kernel
theorem dX9_deny_137 : decode cX9_deny 137 = .ok (.iaload, 1) := by decide +kernel
theorem dX9_deny_138 : decode cX9_deny 138 = .ok (.iadd, 1) := by decide +kernel
theorem dX9_deny_139 : decode cX9_deny 139 = .ok (.aload_n 0, 1) := by decide +kernel
theorem dX9_deny_140 : decode cX9_deny 140 = .ok (.getfield 124, 3) := by decide +kernel
theorem dX9_deny_143 : decode cX9_deny 143 = .ok (.invokestatic 127, 3) := by decide +kernel
theorem dX9_deny_146 : decode cX9_deny 146 = .ok (.isub, 1) := by decide +kernel
theorem dX9_deny_147 : decode cX9_deny 147 = .ok (.ireturn, 1) := by decide +kernel
theorem dX9_deny_148 : decode cX9_deny 148 = .ok (.iinc 5 1, 3) := by decide +kernel
theorem dX9_deny_151 : decode cX9_deny 151 = .ok (.goto (-71), 3) := by decide +kernel
theorem dX9_deny_154 : decode cX9_deny 154 = .ok (.iinc 4 1, 3) := by decide +kernel
theorem dX9_deny_157 : decode cX9_deny 157 = .ok (.goto (-121), 3) := by decide +kernel
theorem dX9_deny_160 : decode cX9_deny 160 = .ok (.bipush (-9), 2) := by decide +kernel
theorem dX9_deny_162 : decode cX9_deny 162 = .ok (.ireturn, 1) := by decide +kernel
theorem dX9_weigh_0 : decode cX9_weigh 0 = .ok (.iload_n 1, 1) := by decide +kernel
theorem dX9_weigh_1 : decode cX9_weigh 1 = .ok (.i2l, 1) := by decide +kernel
theorem dX9_weigh_2 : decode cX9_weigh 2 = .ok (.lconst 0, 1) := by decide +kernel
theorem dX9_weigh_3 : decode cX9_weigh 3 = .ok (.ldc2_w 219, 3) := by decide +kernel
theorem dX9_weigh_6 : decode cX9_weigh 6 = .ok (.invokestatic 105, 3) := by decide +kernel
theorem dX9_weigh_9 : decode cX9_weigh 9 = .ok (.ifCond .eq 15, 3) := by decide +kernel
theorem dX9_weigh_12 : decode cX9_weigh 12 = .ok (.iload_n 2, 1) := by decide +kernel
theorem dX9_weigh_13 : decode cX9_weigh 13 = .ok (.i2l, 1) := by decide +kernel
theorem dX9_weigh_14 : decode cX9_weigh 14 = .ok (.lconst 0, 1) := by decide +kernel
theorem dX9_weigh_15 : decode cX9_weigh 15 = .ok (.ldc2_w 221, 3) := by decide +kernel
theorem dX9_weigh_18 : decode cX9_weigh 18 = .ok (.invokestatic 105, 3) := by decide +kernel
theorem dX9_weigh_21 : decode cX9_weigh 21 = .ok (.ifCond .ne 6, 3) := by decide +kernel
theorem dX9_weigh_24 : decode cX9_weigh 24 = .ok (.bipush (-2), 2) := by decide +kernel
theorem dX9_weigh_26 : decode cX9_weigh 26 = .ok (.ireturn, 1) := by decide +kernel
theorem dX9_weigh_27 : decode cX9_weigh 27 = .ok (.aload_n 0, 1) := by decide +kernel
theorem dX9_weigh_28 : decode cX9_weigh 28 = .ok (.getfield 72, 3) := by decide +kernel
theorem dX9_weigh_31 : decode cX9_weigh 31 = .ok (.iload_n 1, 1) := by decide +kernel
theorem dX9_weigh_32 : decode cX9_weigh 32 = .ok (.iaload, 1) := by decide +kernel
theorem dX9_weigh_33 : decode cX9_weigh 33 = .ok (.istore_n 3, 1) := by decide +kernel
theorem dX9_weigh_34 : decode cX9_weigh 34 = .ok (.aload_n 0, 1) := by decide +kernel
theorem dX9_weigh_35 : decode cX9_weigh 35 = .ok (.getfield 72, 3) := by decide +kernel
theorem dX9_weigh_38 : decode cX9_weigh 38 = .ok (.iload_n 1, 1) := by decide +kernel
theorem dX9_weigh_39 : decode cX9_weigh 39 = .ok (.iload_n 2, 1) := by decide +kernel
theorem dX9_weigh_40 : decode cX9_weigh 40 = .ok (.iastore, 1) := by decide +kernel
theorem dX9_weigh_41 : decode cX9_weigh 41 = .ok (.iload_n 3, 1) := by decide +kernel
theorem dX9_weigh_42 : decode cX9_weigh 42 = .ok (.ireturn, 1) := by decide +kernel
theorem dX9_wake_0 : decode cX9_wake 0 = .ok (.aload_n 0, 1) := by decide +kernel
theorem dX9_wake_1 : decode cX9_wake 1 = .ok (.iload_n 1, 1) := by decide +kernel
theorem dX9_wake_2 : decode cX9_wake 2 = .ok (.invokevirtual 192, 3) := by decide +kernel
theorem dX9_wake_5 : decode cX9_wake 5 = .ok (.ifCond .ne 5, 3) := by decide +kernel
theorem dX9_wake_8 : decode cX9_wake 8 = .ok (.iconst (-1), 1) := by decide +kernel
theorem dX9_wake_9 : decode cX9_wake 9 = .ok (.ireturn, 1) := by decide +kernel
theorem dX9_wake_10 : decode cX9_wake 10 = .ok (.aload_n 0, 1) := by decide +kernel
theorem dX9_wake_11 : decode cX9_wake 11 = .ok (.getfield 63, 3) := by decide +kernel
theorem dX9_wake_14 : decode cX9_wake 14 = .ok (.iload_n 1, 1) := by decide +kernel
theorem dX9_wake_15 : decode cX9_wake 15 = .ok (.baload, 1) := by decide +kernel
theorem dX9_wake_16 : decode cX9_wake 16 = .ok (.ifCond .eq 7, 3) := by decide +kernel
theorem dX9_wake_19 : decode cX9_wake 19 = .ok (.iconst 0, 1) := by decide +kernel
theorem dX9_wake_20 : decode cX9_wake 20 = .ok (.goto 4, 3) := by decide +kernel
theorem dX9_wake_23 : decode cX9_wake 23 = .ok (.iconst 1, 1) := by decide +kernel
theorem dX9_wake_24 : decode cX9_wake 24 = .ok (.istore_n 3, 1) := by decide +kernel
theorem dX9_wake_25 : decode cX9_wake 25 = .ok (.aload_n 0, 1) := by decide +kernel
theorem dX9_wake_26 : decode cX9_wake 26 = .ok (.getfield 63, 3) := by decide +kernel
theorem dX9_wake_29 : decode cX9_wake 29 = .ok (.iload_n 1, 1) := by decide +kernel
theorem dX9_wake_30 : decode cX9_wake 30 = .ok (.iload_n 2, 1) := by decide +kernel
theorem dX9_wake_31 : decode cX9_wake 31 = .ok (.ifCond .ne 7, 3) := by decide +kernel
theorem dX9_wake_34 : decode cX9_wake 34 = .ok (.iconst 1, 1) := by decide +kernel
theorem dX9_wake_35 : decode cX9_wake 35 = .ok (.goto 4, 3) := by decide +kernel
theorem dX9_wake_38 : decode cX9_wake 38 = .ok (.iconst 0, 1) := by decide +kernel
theorem dX9_wake_39 : decode cX9_wake 39 = .ok (.bastore, 1) := by decide +kernel
theorem dX9_wake_40 : decode cX9_wake 40 = .ok (.iload_n 3, 1) := by decide +kernel
theorem dX9_wake_41 : decode cX9_wake 41 = .ok (.ireturn, 1) := by decide +kernel
theorem dX9_rareOf_0 : decode cX9_rareOf 0 = .ok (.aload_n 0, 1) := by decide +kernel
theorem dX9_rareOf_1 : decode cX9_rareOf 1 = .ok (.iload_n 1, 1) := by decide +kernel
theorem dX9_rareOf_2 : decode cX9_rareOf 2 = .ok (.invokevirtual 213, 3) := by decide +kernel
theorem dX9_rareOf_5 : decode cX9_rareOf 5 = .ok (.istore_n 2, 1) := by decide +kernel
theorem dX9_rareOf_6 : decode cX9_rareOf 6 = .ok (.aload_n 0, 1) := by decide +kernel
theorem dX9_rareOf_7 : decode cX9_rareOf 7 = .ok (.getfield 51, 3) := by decide +kernel
theorem dX9_rareOf_10 : decode cX9_rareOf 10 = .ok (.aload_n 0, 1) := by decide +kernel
theorem dX9_rareOf_11 : decode cX9_rareOf 11 = .ok (.invokevirtual 181, 3) := by decide +kernel
theorem dX9_rareOf_14 : decode cX9_rareOf 14 = .ok (.iaload, 1) := by decide +kernel
theorem dX9_rareOf_15 : decode cX9_rareOf 15 = .ok (.iload_n 2, 1) := by decide +kernel
theorem dX9_rareOf_16 : decode cX9_rareOf 16 = .ok (.isub, 1) := by decide +kernel
theorem dX9_rareOf_17 : decode cX9_rareOf 17 = .ok (.istore_n 3, 1) := by decide +kernel
theorem dX9_rareOf_18 : decode cX9_rareOf 18 = .ok (.iload_n 2, 1) := by decide +kernel
theorem dX9_rareOf_19 : decode cX9_rareOf 19 = .ok (.iload_n 3, 1) := by decide +kernel
theorem dX9_rareOf_20 : decode cX9_rareOf 20 = .ok (.if_icmp .ge 7, 3) := by decide +kernel
theorem dX9_rareOf_23 : decode cX9_rareOf 23 = .ok (.iload_n 2, 1) := by decide +kernel
theorem dX9_rareOf_24 : decode cX9_rareOf 24 = .ok (.goto 4, 3) := by decide +kernel
theorem dX9_rareOf_27 : decode cX9_rareOf 27 = .ok (.iload_n 3, 1) := by decide +kernel
theorem dX9_rareOf_28 : decode cX9_rareOf 28 = .ok (.ireturn, 1) := by decide +kernel
theorem dX9_servesOf_0 : decode cX9_servesOf 0 = .ok (.iconst 0, 1) := by decide +kernel
theorem dX9_servesOf_1 : decode cX9_servesOf 1 = .ok (.istore_n 2, 1) := by decide +kernel
theorem dX9_servesOf_2 : decode cX9_servesOf 2 = .ok (.iconst 0, 1) := by decide +kernel
theorem dX9_servesOf_3 : decode cX9_servesOf 3 = .ok (.istore_n 3, 1) := by decide +kernel
theorem dX9_servesOf_4 : decode cX9_servesOf 4 = .ok (.iload_n 3, 1) := by decide +kernel
theorem dX9_servesOf_5 : decode cX9_servesOf 5 = .ok (.aload_n 0, 1) := by decide +kernel
theorem dX9_servesOf_6 : decode cX9_servesOf 6 = .ok (.getfield 187, 3) := by decide +kernel
theorem dX9_servesOf_9 : decode cX9_servesOf 9 = .ok (.if_icmp .ge 49, 3) := by decide +kernel
theorem dX9_servesOf_12 : decode cX9_servesOf 12 = .ok (.iload_n 2, 1) := by decide +kernel
theorem dX9_servesOf_13 : decode cX9_servesOf 13 = .ok (.iload_n 3, 1) := by decide +kernel
theorem dX9_servesOf_14 : decode cX9_servesOf 14 = .ok (.iload_n 1, 1) := by decide +kernel
theorem dX9_servesOf_15 : decode cX9_servesOf 15 = .ok (.if_icmp .eq 34, 3) := by decide +kernel
theorem dX9_servesOf_18 : decode cX9_servesOf 18 = .ok (.aload_n 0, 1) := by decide +kernel
theorem dX9_servesOf_19 : decode cX9_servesOf 19 = .ok (.getfield 63, 3) := by decide +kernel
theorem dX9_servesOf_22 : decode cX9_servesOf 22 = .ok (.iload_n 3, 1) := by decide +kernel
theorem dX9_servesOf_23 : decode cX9_servesOf 23 = .ok (.baload, 1) := by decide +kernel
theorem dX9_servesOf_24 : decode cX9_servesOf 24 = .ok (.ifCond .ne 25, 3) := by decide +kernel
theorem dX9_servesOf_27 : decode cX9_servesOf 27 = .ok (.aload_n 0, 1) := by decide +kernel
theorem dX9_servesOf_28 : decode cX9_servesOf 28 = .ok (.iload_n 3, 1) := by decide +kernel
theorem dX9_servesOf_29 : decode cX9_servesOf 29 = .ok (.iload_n 1, 1) := by decide +kernel
theorem dX9_servesOf_30 : decode cX9_servesOf 30 = .ok (.invokevirtual 209, 3) := by decide +kernel
theorem dX9_servesOf_33 : decode cX9_servesOf 33 = .ok (.ifCond .eq 12, 3) := by decide +kernel
theorem dX9_servesOf_36 : decode cX9_servesOf 36 = .ok (.aload_n 0, 1) := by decide +kernel
theorem dX9_servesOf_37 : decode cX9_servesOf 37 = .ok (.iload_n 1, 1) := by decide +kernel
theorem dX9_servesOf_38 : decode cX9_servesOf 38 = .ok (.iload_n 3, 1) := by decide +kernel
theorem dX9_servesOf_39 : decode cX9_servesOf 39 = .ok (.invokevirtual 209, 3) := by decide +kernel
theorem dX9_servesOf_42 : decode cX9_servesOf 42 = .ok (.ifCond .ne 7, 3) := by decide +kernel
theorem dX9_servesOf_45 : decode cX9_servesOf 45 = .ok (.iconst 1, 1) := by decide +kernel
theorem dX9_servesOf_46 : decode cX9_servesOf 46 = .ok (.goto 4, 3) := by decide +kernel
theorem dX9_servesOf_49 : decode cX9_servesOf 49 = .ok (.iconst 0, 1) := by decide +kernel
theorem dX9_servesOf_50 : decode cX9_servesOf 50 = .ok (.iadd, 1) := by decide +kernel
theorem dX9_servesOf_51 : decode cX9_servesOf 51 = .ok (.istore_n 2, 1) := by decide +kernel
theorem dX9_servesOf_52 : decode cX9_servesOf 52 = .ok (.iinc 3 1, 3) := by decide +kernel
theorem dX9_servesOf_55 : decode cX9_servesOf 55 = .ok (.goto (-51), 3) := by decide +kernel
theorem dX9_servesOf_58 : decode cX9_servesOf 58 = .ok (.iload_n 2, 1) := by decide +kernel
theorem dX9_servesOf_59 : decode cX9_servesOf 59 = .ok (.ireturn, 1) := by decide +kernel
theorem dX9_deepOf_0 : decode cX9_deepOf 0 = .ok (.iconst 0, 1) := by decide +kernel
theorem dX9_deepOf_1 : decode cX9_deepOf 1 = .ok (.istore_n 2, 1) := by decide +kernel
theorem dX9_deepOf_2 : decode cX9_deepOf 2 = .ok (.iload_n 2, 1) := by decide +kernel
theorem dX9_deepOf_3 : decode cX9_deepOf 3 = .ok (.iload_n 1, 1) := by decide +kernel
theorem dX9_deepOf_4 : decode cX9_deepOf 4 = .ok (.if_icmp .gt 67, 3) := by decide +kernel
theorem dX9_deepOf_7 : decode cX9_deepOf 7 = .ok (.aload_n 0, 1) := by decide +kernel
theorem dX9_deepOf_8 : decode cX9_deepOf 8 = .ok (.getfield 75, 3) := by decide +kernel
theorem dX9_deepOf_11 : decode cX9_deepOf 11 = .ok (.iload_n 2, 1) := by decide +kernel
theorem dX9_deepOf_12 : decode cX9_deepOf 12 = .ok (.aload_n 0, 1) := by decide +kernel
theorem dX9_deepOf_13 : decode cX9_deepOf 13 = .ok (.getfield 54, 3) := by decide +kernel
theorem dX9_deepOf_16 : decode cX9_deepOf 16 = .ok (.iload_n 2, 1) := by decide +kernel
theorem dX9_deepOf_17 : decode cX9_deepOf 17 = .ok (.iaload, 1) := by decide +kernel
theorem dX9_deepOf_18 : decode cX9_deepOf 18 = .ok (.ifCond .ne 7, 3) := by decide +kernel
theorem dX9_deepOf_21 : decode cX9_deepOf 21 = .ok (.iconst 1, 1) := by decide +kernel
theorem dX9_deepOf_22 : decode cX9_deepOf 22 = .ok (.goto 42, 3) := by decide +kernel
theorem dX9_deepOf_25 : decode cX9_deepOf 25 = .ok (.aload_n 0, 1) := by decide +kernel
theorem dX9_deepOf_26 : decode cX9_deepOf 26 = .ok (.getfield 75, 3) := by decide +kernel
theorem dX9_deepOf_29 : decode cX9_deepOf 29 = .ok (.aload_n 0, 1) := by decide +kernel
theorem dX9_deepOf_30 : decode cX9_deepOf 30 = .ok (.getfield 57, 3) := by decide +kernel
theorem dX9_deepOf_33 : decode cX9_deepOf 33 = .ok (.iload_n 2, 1) := by decide +kernel
theorem dX9_deepOf_34 : decode cX9_deepOf 34 = .ok (.iaload, 1) := by decide +kernel
theorem dX9_deepOf_35 : decode cX9_deepOf 35 = .ok (.iaload, 1) := by decide +kernel
theorem dX9_deepOf_36 : decode cX9_deepOf 36 = .ok (.aload_n 0, 1) := by decide +kernel
theorem dX9_deepOf_37 : decode cX9_deepOf 37 = .ok (.getfield 54, 3) := by decide +kernel
theorem dX9_deepOf_40 : decode cX9_deepOf 40 = .ok (.iload_n 2, 1) := by decide +kernel
theorem dX9_deepOf_41 : decode cX9_deepOf 41 = .ok (.iaload, 1) := by decide +kernel
theorem dX9_deepOf_42 : decode cX9_deepOf 42 = .ok (.iconst 2, 1) := by decide +kernel
theorem dX9_deepOf_43 : decode cX9_deepOf 43 = .ok (.if_icmp .ne 17, 3) := by decide +kernel
theorem dX9_deepOf_46 : decode cX9_deepOf 46 = .ok (.aload_n 0, 1) := by decide +kernel
theorem dX9_deepOf_47 : decode cX9_deepOf 47 = .ok (.getfield 75, 3) := by decide +kernel
theorem dX9_deepOf_50 : decode cX9_deepOf 50 = .ok (.aload_n 0, 1) := by decide +kernel
theorem dX9_deepOf_51 : decode cX9_deepOf 51 = .ok (.getfield 60, 3) := by decide +kernel
theorem dX9_deepOf_54 : decode cX9_deepOf 54 = .ok (.iload_n 2, 1) := by decide +kernel
theorem dX9_deepOf_55 : decode cX9_deepOf 55 = .ok (.iaload, 1) := by decide +kernel
theorem dX9_deepOf_56 : decode cX9_deepOf 56 = .ok (.iaload, 1) := by decide +kernel
theorem dX9_deepOf_57 : decode cX9_deepOf 57 = .ok (.goto 4, 3) := by decide +kernel
theorem dX9_deepOf_60 : decode cX9_deepOf 60 = .ok (.iconst 0, 1) := by decide +kernel
theorem dX9_deepOf_61 : decode cX9_deepOf 61 = .ok (.iadd, 1) := by decide +kernel
theorem dX9_deepOf_62 : decode cX9_deepOf 62 = .ok (.iconst 1, 1) := by decide +kernel
theorem dX9_deepOf_63 : decode cX9_deepOf 63 = .ok (.iadd, 1) := by decide +kernel
theorem dX9_deepOf_64 : decode cX9_deepOf 64 = .ok (.iastore, 1) := by decide +kernel
theorem dX9_deepOf_65 : decode cX9_deepOf 65 = .ok (.iinc 2 1, 3) := by decide +kernel
theorem dX9_deepOf_68 : decode cX9_deepOf 68 = .ok (.goto (-66), 3) := by decide +kernel
theorem dX9_deepOf_71 : decode cX9_deepOf 71 = .ok (.aload_n 0, 1) := by decide +kernel
theorem dX9_deepOf_72 : decode cX9_deepOf 72 = .ok (.getfield 75, 3) := by decide +kernel
theorem dX9_deepOf_75 : decode cX9_deepOf 75 = .ok (.iload_n 1, 1) := by decide +kernel
theorem dX9_deepOf_76 : decode cX9_deepOf 76 = .ok (.iaload, 1) := by decide +kernel
theorem dX9_deepOf_77 : decode cX9_deepOf 77 = .ok (.ireturn, 1) := by decide +kernel
theorem dX9_worthOf_0 : decode cX9_worthOf 0 = .ok (.aload_n 0, 1) := by decide +kernel
theorem dX9_worthOf_1 : decode cX9_worthOf 1 = .ok (.getfield 72, 3) := by decide +kernel
theorem dX9_worthOf_4 : decode cX9_worthOf 4 = .ok (.iconst 0, 1) := by decide +kernel
theorem dX9_worthOf_5 : decode cX9_worthOf 5 = .ok (.iaload, 1) := by decide +kernel
theorem dX9_worthOf_6 : decode cX9_worthOf 6 = .ok (.aload_n 0, 1) := by decide +kernel
theorem dX9_worthOf_7 : decode cX9_worthOf 7 = .ok (.iload_n 1, 1) := by decide +kernel
theorem dX9_worthOf_8 : decode cX9_worthOf 8 = .ok (.invokevirtual 223, 3) := by decide +kernel
theorem dX9_worthOf_11 : decode cX9_worthOf 11 = .ok (.imul, 1) := by decide +kernel
theorem dX9_worthOf_12 : decode cX9_worthOf 12 = .ok (.aload_n 0, 1) := by decide +kernel
theorem dX9_worthOf_13 : decode cX9_worthOf 13 = .ok (.getfield 72, 3) := by decide +kernel
theorem dX9_worthOf_16 : decode cX9_worthOf 16 = .ok (.iconst 1, 1) := by decide +kernel
theorem dX9_worthOf_17 : decode cX9_worthOf 17 = .ok (.iaload, 1) := by decide +kernel
theorem dX9_worthOf_18 : decode cX9_worthOf 18 = .ok (.aload_n 0, 1) := by decide +kernel
theorem dX9_worthOf_19 : decode cX9_worthOf 19 = .ok (.iload_n 1, 1) := by decide +kernel
theorem dX9_worthOf_20 : decode cX9_worthOf 20 = .ok (.invokevirtual 226, 3) := by decide +kernel
theorem dX9_worthOf_23 : decode cX9_worthOf 23 = .ok (.imul, 1) := by decide +kernel
theorem dX9_worthOf_24 : decode cX9_worthOf 24 = .ok (.iadd, 1) := by decide +kernel
theorem dX9_worthOf_25 : decode cX9_worthOf 25 = .ok (.aload_n 0, 1) := by decide +kernel
theorem dX9_worthOf_26 : decode cX9_worthOf 26 = .ok (.getfield 72, 3) := by decide +kernel
theorem dX9_worthOf_29 : decode cX9_worthOf 29 = .ok (.iconst 2, 1) := by decide +kernel
theorem dX9_worthOf_30 : decode cX9_worthOf 30 = .ok (.iaload, 1) := by decide +kernel
theorem dX9_worthOf_31 : decode cX9_worthOf 31 = .ok (.aload_n 0, 1) := by decide +kernel
theorem dX9_worthOf_32 : decode cX9_worthOf 32 = .ok (.iload_n 1, 1) := by decide +kernel
theorem dX9_worthOf_33 : decode cX9_worthOf 33 = .ok (.invokevirtual 229, 3) := by decide +kernel
theorem dX9_worthOf_36 : decode cX9_worthOf 36 = .ok (.imul, 1) := by decide +kernel
theorem dX9_worthOf_37 : decode cX9_worthOf 37 = .ok (.isub, 1) := by decide +kernel
theorem dX9_worthOf_38 : decode cX9_worthOf 38 = .ok (.ireturn, 1) := by decide +kernel
theorem dX9_worth_0 : decode cX9_worth 0 = .ok (.aload_n 0, 1) := by decide +kernel
theorem dX9_worth_1 : decode cX9_worth 1 = .ok (.iload_n 1, 1) := by decide +kernel
theorem dX9_worth_2 : decode cX9_worth 2 = .ok (.invokevirtual 192, 3) := by decide +kernel
theorem dX9_worth_5 : decode cX9_worth 5 = .ok (.ifCond .ne 5, 3) := by decide +kernel
theorem dX9_worth_8 : decode cX9_worth 8 = .ok (.iconst (-1), 1) := by decide +kernel
theorem dX9_worth_9 : decode cX9_worth 9 = .ok (.ireturn, 1) := by decide +kernel
theorem dX9_worth_10 : decode cX9_worth 10 = .ok (.aload_n 0, 1) := by decide +kernel
theorem dX9_worth_11 : decode cX9_worth 11 = .ok (.invokevirtual 206, 3) := by decide +kernel
theorem dX9_worth_14 : decode cX9_worth 14 = .ok (.iload_n 2, 1) := by decide +kernel
theorem dX9_worth_15 : decode cX9_worth 15 = .ok (.tableswitch 56 0 3 #[29, 35, 41, 47], 29) := by decide +kernel
theorem dX9_worth_44 : decode cX9_worth 44 = .ok (.aload_n 0, 1) := by decide +kernel
theorem dX9_worth_45 : decode cX9_worth 45 = .ok (.iload_n 1, 1) := by decide +kernel
theorem dX9_worth_46 : decode cX9_worth 46 = .ok (.invokevirtual 223, 3) := by decide +kernel
theorem dX9_worth_49 : decode cX9_worth 49 = .ok (.ireturn, 1) := by decide +kernel
theorem dX9_worth_50 : decode cX9_worth 50 = .ok (.aload_n 0, 1) := by decide +kernel
theorem dX9_worth_51 : decode cX9_worth 51 = .ok (.iload_n 1, 1) := by decide +kernel
theorem dX9_worth_52 : decode cX9_worth 52 = .ok (.invokevirtual 226, 3) := by decide +kernel
theorem dX9_worth_55 : decode cX9_worth 55 = .ok (.ireturn, 1) := by decide +kernel
theorem dX9_worth_56 : decode cX9_worth 56 = .ok (.aload_n 0, 1) := by decide +kernel
theorem dX9_worth_57 : decode cX9_worth 57 = .ok (.iload_n 1, 1) := by decide +kernel
theorem dX9_worth_58 : decode cX9_worth 58 = .ok (.invokevirtual 229, 3) := by decide +kernel
theorem dX9_worth_61 : decode cX9_worth 61 = .ok (.ireturn, 1) := by decide +kernel
theorem dX9_worth_62 : decode cX9_worth 62 = .ok (.aload_n 0, 1) := by decide +kernel
theorem dX9_worth_63 : decode cX9_worth 63 = .ok (.iload_n 1, 1) := by decide +kernel
theorem dX9_worth_64 : decode cX9_worth 64 = .ok (.invokevirtual 232, 3) := by decide +kernel
theorem dX9_worth_67 : decode cX9_worth 67 = .ok (.ldc 149, 2) := by decide +kernel
theorem dX9_worth_69 : decode cX9_worth 69 = .ok (.iadd, 1) := by decide +kernel
theorem dX9_worth_70 : decode cX9_worth 70 = .ok (.ireturn, 1) := by decide +kernel
theorem dX9_worth_71 : decode cX9_worth 71 = .ok (.bipush (-2), 2) := by decide +kernel
theorem dX9_worth_73 : decode cX9_worth 73 = .ok (.ireturn, 1) := by decide +kernel
theorem dX9_best_0 : decode cX9_best 0 = .ok (.aload_n 0, 1) := by decide +kernel
theorem dX9_best_1 : decode cX9_best 1 = .ok (.invokevirtual 206, 3) := by decide +kernel
theorem dX9_best_4 : decode cX9_best 4 = .ok (.bipush (-9), 2) := by decide +kernel
theorem dX9_best_6 : decode cX9_best 6 = .ok (.istore_n 1, 1) := by decide +kernel
theorem dX9_best_7 : decode cX9_best 7 = .ok (.iconst 0, 1) := by decide +kernel
theorem dX9_best_8 : decode cX9_best 8 = .ok (.istore_n 2, 1) := by decide +kernel
theorem dX9_best_9 : decode cX9_best 9 = .ok (.iload_n 2, 1) := by decide +kernel
theorem dX9_best_10 : decode cX9_best 10 = .ok (.aload_n 0, 1) := by decide +kernel
theorem dX9_best_11 : decode cX9_best 11 = .ok (.getfield 187, 3) := by decide +kernel
theorem dX9_best_14 : decode cX9_best 14 = .ok (.if_icmp .ge 43, 3) := by decide +kernel
theorem dX9_best_17 : decode cX9_best 17 = .ok (.aload_n 0, 1) := by decide +kernel
theorem dX9_best_18 : decode cX9_best 18 = .ok (.getfield 63, 3) := by decide +kernel
theorem dX9_best_21 : decode cX9_best 21 = .ok (.iload_n 2, 1) := by decide +kernel
theorem dX9_best_22 : decode cX9_best 22 = .ok (.baload, 1) := by decide +kernel
theorem dX9_best_23 : decode cX9_best 23 = .ok (.ifCond .ne 26, 3) := by decide +kernel
theorem dX9_best_26 : decode cX9_best 26 = .ok (.iload_n 1, 1) := by decide +kernel
theorem dX9_best_27 : decode cX9_best 27 = .ok (.bipush (-9), 2) := by decide +kernel
theorem dX9_best_29 : decode cX9_best 29 = .ok (.if_icmp .eq 16, 3) := by decide +kernel
theorem dX9_best_32 : decode cX9_best 32 = .ok (.aload_n 0, 1) := by decide +kernel
theorem dX9_best_33 : decode cX9_best 33 = .ok (.iload_n 2, 1) := by decide +kernel
theorem dX9_best_34 : decode cX9_best 34 = .ok (.invokevirtual 232, 3) := by decide +kernel
theorem dX9_best_37 : decode cX9_best 37 = .ok (.aload_n 0, 1) := by decide +kernel
theorem dX9_best_38 : decode cX9_best 38 = .ok (.iload_n 1, 1) := by decide +kernel
theorem dX9_best_39 : decode cX9_best 39 = .ok (.invokevirtual 232, 3) := by decide +kernel
theorem dX9_best_42 : decode cX9_best 42 = .ok (.if_icmp .le 7, 3) := by decide +kernel
theorem dX9_best_45 : decode cX9_best 45 = .ok (.iload_n 2, 1) := by decide +kernel
theorem dX9_best_46 : decode cX9_best 46 = .ok (.goto 4, 3) := by decide +kernel
theorem dX9_best_49 : decode cX9_best 49 = .ok (.iload_n 1, 1) := by decide +kernel
theorem dX9_best_50 : decode cX9_best 50 = .ok (.istore_n 1, 1) := by decide +kernel
theorem dX9_best_51 : decode cX9_best 51 = .ok (.iinc 2 1, 3) := by decide +kernel
theorem dX9_best_54 : decode cX9_best 54 = .ok (.goto (-45), 3) := by decide +kernel
theorem dX9_best_57 : decode cX9_best 57 = .ok (.iload_n 1, 1) := by decide +kernel
theorem dX9_best_58 : decode cX9_best 58 = .ok (.ireturn, 1) := by decide +kernel
theorem dX9_layTried_0 : decode cX9_layTried 0 = .ok (.aload_n 0, 1) := by decide +kernel
theorem dX9_layTried_1 : decode cX9_layTried 1 = .ok (.bipush 12, 2) := by decide +kernel
theorem dX9_layTried_3 : decode cX9_layTried 3 = .ok (.iload_n 1, 1) := by decide +kernel
theorem dX9_layTried_4 : decode cX9_layTried 4 = .ok (.iload_n 2, 1) := by decide +kernel
theorem dX9_layTried_5 : decode cX9_layTried 5 = .ok (.iload_n 3, 1) := by decide +kernel
theorem dX9_layTried_6 : decode cX9_layTried 6 = .ok (.invokevirtual 195, 3) := by decide +kernel
theorem dX9_layTried_9 : decode cX9_layTried 9 = .ok (.iconst 0, 1) := by decide +kernel
theorem dX9_layTried_10 : decode cX9_layTried 10 = .ok (.istore 4, 2) := by decide +kernel
theorem dX9_layTried_12 : decode cX9_layTried 12 = .ok (.iload 4, 2) := by decide +kernel
theorem dX9_layTried_14 : decode cX9_layTried 14 = .ok (.aload_n 0, 1) := by decide +kernel
theorem dX9_layTried_15 : decode cX9_layTried 15 = .ok (.invokevirtual 181, 3) := by decide +kernel
theorem dX9_layTried_18 : decode cX9_layTried 18 = .ok (.if_icmp .ge 174, 3) := by decide +kernel
theorem dX9_layTried_21 : decode cX9_layTried 21 = .ok (.aload_n 0, 1) := by decide +kernel
theorem dX9_layTried_22 : decode cX9_layTried 22 = .ok (.aload_n 0, 1) := by decide +kernel
theorem dX9_layTried_23 : decode cX9_layTried 23 = .ok (.getfield 48, 3) := by decide +kernel
theorem dX9_layTried_26 : decode cX9_layTried 26 = .ok (.iload 4, 2) := by decide +kernel
theorem dX9_layTried_28 : decode cX9_layTried 28 = .ok (.iaload, 1) := by decide +kernel
theorem dX9_layTried_29 : decode cX9_layTried 29 = .ok (.invokestatic 120, 3) := by decide +kernel
theorem dX9_layTried_32 : decode cX9_layTried 32 = .ok (.putfield 124, 3) := by decide +kernel
theorem dX9_layTried_35 : decode cX9_layTried 35 = .ok (.iconst 0, 1) := by decide +kernel
theorem dX9_layTried_36 : decode cX9_layTried 36 = .ok (.istore 5, 2) := by decide +kernel
theorem dX9_layTried_38 : decode cX9_layTried 38 = .ok (.iload 5, 2) := by decide +kernel
theorem dX9_layTried_40 : decode cX9_layTried 40 = .ok (.aload_n 0, 1) := by decide +kernel
theorem dX9_layTried_41 : decode cX9_layTried 41 = .ok (.getfield 124, 3) := by decide +kernel
theorem dX9_layTried_44 : decode cX9_layTried 44 = .ok (.aload_n 0, 1) := by decide +kernel
theorem dX9_layTried_45 : decode cX9_layTried 45 = .ok (.getfield 124, 3) := by decide +kernel
theorem dX9_layTried_48 : decode cX9_layTried 48 = .ok (.imul, 1) := by decide +kernel
theorem dX9_layTried_49 : decode cX9_layTried 49 = .ok (.if_icmp .ge 75, 3) := by decide +kernel
theorem dX9_layTried_52 : decode cX9_layTried 52 = .ok (.aload_n 0, 1) := by decide +kernel
theorem dX9_layTried_53 : decode cX9_layTried 53 = .ok (.getfield 66, 3) := by decide +kernel
theorem dX9_layTried_56 : decode cX9_layTried 56 = .ok (.bipush 9, 2) := by decide +kernel
theorem dX9_layTried_58 : decode cX9_layTried 58 = .ok (.iload_n 2, 1) := by decide +kernel
theorem dX9_layTried_59 : decode cX9_layTried 59 = .ok (.imul, 1) := by decide +kernel
theorem dX9_layTried_60 : decode cX9_layTried 60 = .ok (.iload 5, 2) := by decide +kernel
theorem dX9_layTried_62 : decode cX9_layTried 62 = .ok (.iadd, 1) := by decide +kernel
theorem dX9_layTried_63 : decode cX9_layTried 63 = .ok (.aload_n 0, 1) := by decide +kernel
theorem dX9_layTried_64 : decode cX9_layTried 64 = .ok (.getfield 69, 3) := by decide +kernel
theorem dX9_layTried_67 : decode cX9_layTried 67 = .ok (.sipush 360, 3) := by decide +kernel
theorem dX9_layTried_70 : decode cX9_layTried 70 = .ok (.iload_n 2, 1) := by decide +kernel
theorem dX9_layTried_71 : decode cX9_layTried 71 = .ok (.imul, 1) := by decide +kernel
theorem dX9_layTried_72 : decode cX9_layTried 72 = .ok (.aload_n 0, 1) := by decide +kernel
theorem dX9_layTried_73 : decode cX9_layTried 73 = .ok (.getfield 51, 3) := by decide +kernel
theorem dX9_layTried_76 : decode cX9_layTried 76 = .ok (.iload 4, 2) := by decide +kernel
theorem dX9_layTried_78 : decode cX9_layTried 78 = .ok (.iaload, 1) := by decide +kernel
theorem dX9_layTried_79 : decode cX9_layTried 79 = .ok (.iadd, 1) := by decide +kernel
theorem dX9_layTried_80 : decode cX9_layTried 80 = .ok (.iload 5, 2) := by decide +kernel
theorem dX9_layTried_82 : decode cX9_layTried 82 = .ok (.iadd, 1) := by decide +kernel
theorem dX9_layTried_83 : decode cX9_layTried 83 = .ok (.baload, 1) := by decide +kernel
theorem dX9_layTried_84 : decode cX9_layTried 84 = .ok (.bastore, 1) := by decide +kernel
theorem dX9_layTried_85 : decode cX9_layTried 85 = .ok (.aload_n 0, 1) := by decide +kernel
theorem dX9_layTried_86 : decode cX9_layTried 86 = .ok (.getfield 66, 3) := by decide +kernel
theorem dX9_layTried_89 : decode cX9_layTried 89 = .ok (.bipush 9, 2) := by decide +kernel
theorem dX9_layTried_91 : decode cX9_layTried 91 = .ok (.iload_n 3, 1) := by decide +kernel
theorem dX9_layTried_92 : decode cX9_layTried 92 = .ok (.imul, 1) := by decide +kernel
theorem dX9_layTried_93 : decode cX9_layTried 93 = .ok (.iload 5, 2) := by decide +kernel
theorem dX9_layTried_95 : decode cX9_layTried 95 = .ok (.iadd, 1) := by decide +kernel
theorem dX9_layTried_96 : decode cX9_layTried 96 = .ok (.aload_n 0, 1) := by decide +kernel
theorem dX9_layTried_97 : decode cX9_layTried 97 = .ok (.getfield 69, 3) := by decide +kernel
theorem dX9_layTried_100 : decode cX9_layTried 100 = .ok (.sipush 360, 3) := by decide +kernel
theorem dX9_layTried_103 : decode cX9_layTried 103 = .ok (.iload_n 3, 1) := by decide +kernel
theorem dX9_layTried_104 : decode cX9_layTried 104 = .ok (.imul, 1) := by decide +kernel
theorem dX9_layTried_105 : decode cX9_layTried 105 = .ok (.aload_n 0, 1) := by decide +kernel
theorem dX9_layTried_106 : decode cX9_layTried 106 = .ok (.getfield 51, 3) := by decide +kernel
theorem dX9_layTried_109 : decode cX9_layTried 109 = .ok (.iload 4, 2) := by decide +kernel
theorem dX9_layTried_111 : decode cX9_layTried 111 = .ok (.iaload, 1) := by decide +kernel
theorem dX9_layTried_112 : decode cX9_layTried 112 = .ok (.iadd, 1) := by decide +kernel
theorem dX9_layTried_113 : decode cX9_layTried 113 = .ok (.iload 5, 2) := by decide +kernel
theorem dX9_layTried_115 : decode cX9_layTried 115 = .ok (.iadd, 1) := by decide +kernel
theorem dX9_layTried_116 : decode cX9_layTried 116 = .ok (.baload, 1) := by decide +kernel
theorem dX9_layTried_117 : decode cX9_layTried 117 = .ok (.bastore, 1) := by decide +kernel
theorem dX9_layTried_118 : decode cX9_layTried 118 = .ok (.iinc 5 1, 3) := by decide +kernel
theorem dX9_layTried_121 : decode cX9_layTried 121 = .ok (.goto (-83), 3) := by decide +kernel
theorem dX9_layTried_124 : decode cX9_layTried 124 = .ok (.iconst 0, 1) := by decide +kernel
theorem dX9_layTried_125 : decode cX9_layTried 125 = .ok (.istore 5, 2) := by decide +kernel
theorem dX9_layTried_127 : decode cX9_layTried 127 = .ok (.iload 5, 2) := by decide +kernel
theorem dX9_layTried_129 : decode cX9_layTried 129 = .ok (.aload_n 0, 1) := by decide +kernel
theorem dX9_layTried_130 : decode cX9_layTried 130 = .ok (.getfield 124, 3) := by decide +kernel
theorem dX9_layTried_133 : decode cX9_layTried 133 = .ok (.aload_n 0, 1) := by decide +kernel
theorem dX9_layTried_134 : decode cX9_layTried 134 = .ok (.getfield 124, 3) := by decide +kernel
theorem dX9_layTried_137 : decode cX9_layTried 137 = .ok (.imul, 1) := by decide +kernel
theorem dX9_layTried_138 : decode cX9_layTried 138 = .ok (.if_icmp .ge 48, 3) := by decide +kernel
theorem dX9_layTried_141 : decode cX9_layTried 141 = .ok (.aload_n 0, 1) := by decide +kernel
theorem dX9_layTried_142 : decode cX9_layTried 142 = .ok (.getfield 69, 3) := by decide +kernel
theorem dX9_layTried_145 : decode cX9_layTried 145 = .ok (.sipush 4320, 3) := by decide +kernel
theorem dX9_layTried_148 : decode cX9_layTried 148 = .ok (.aload_n 0, 1) := by decide +kernel
theorem dX9_layTried_149 : decode cX9_layTried 149 = .ok (.getfield 51, 3) := by decide +kernel
theorem dX9_layTried_152 : decode cX9_layTried 152 = .ok (.iload 4, 2) := by decide +kernel
theorem dX9_layTried_154 : decode cX9_layTried 154 = .ok (.iaload, 1) := by decide +kernel
theorem dX9_layTried_155 : decode cX9_layTried 155 = .ok (.iadd, 1) := by decide +kernel
theorem dX9_layTried_156 : decode cX9_layTried 156 = .ok (.iload 5, 2) := by decide +kernel
theorem dX9_layTried_158 : decode cX9_layTried 158 = .ok (.iadd, 1) := by decide +kernel
theorem dX9_layTried_159 : decode cX9_layTried 159 = .ok (.aload_n 0, 1) := by decide +kernel
theorem dX9_layTried_160 : decode cX9_layTried 160 = .ok (.bipush 12, 2) := by decide +kernel
theorem dX9_layTried_162 : decode cX9_layTried 162 = .ok (.iload 5, 2) := by decide +kernel
theorem dX9_layTried_164 : decode cX9_layTried 164 = .ok (.aload_n 0, 1) := by decide +kernel
theorem dX9_layTried_165 : decode cX9_layTried 165 = .ok (.getfield 124, 3) := by decide +kernel
theorem dX9_layTried_168 : decode cX9_layTried 168 = .ok (.idiv, 1) := by decide +kernel
theorem dX9_layTried_169 : decode cX9_layTried 169 = .ok (.iload 5, 2) := by decide +kernel
theorem dX9_layTried_171 : decode cX9_layTried 171 = .ok (.aload_n 0, 1) := by decide +kernel
theorem dX9_layTried_172 : decode cX9_layTried 172 = .ok (.getfield 124, 3) := by decide +kernel
theorem dX9_layTried_175 : decode cX9_layTried 175 = .ok (.irem, 1) := by decide +kernel
theorem dX9_layTried_176 : decode cX9_layTried 176 = .ok (.invokevirtual 199, 3) := by decide +kernel
theorem dX9_layTried_179 : decode cX9_layTried 179 = .ok (.bastore, 1) := by decide +kernel
theorem dX9_layTried_180 : decode cX9_layTried 180 = .ok (.iinc 5 1, 3) := by decide +kernel
theorem dX9_layTried_183 : decode cX9_layTried 183 = .ok (.goto (-56), 3) := by decide +kernel
theorem dX9_layTried_186 : decode cX9_layTried 186 = .ok (.iinc 4 1, 3) := by decide +kernel
theorem dX9_layTried_189 : decode cX9_layTried 189 = .ok (.goto (-177), 3) := by decide +kernel
theorem dX9_layTried_192 : decode cX9_layTried 192 = .ok (.return_, 1) := by decide +kernel
theorem dX9_nextCode_0 : decode cX9_nextCode 0 = .ok (.aload_n 0, 1) := by decide +kernel
theorem dX9_nextCode_1 : decode cX9_nextCode 1 = .ok (.invokevirtual 206, 3) := by decide +kernel
theorem dX9_nextCode_4 : decode cX9_nextCode 4 = .ok (.bipush (-9), 2) := by decide +kernel
theorem dX9_nextCode_6 : decode cX9_nextCode 6 = .ok (.istore_n 1, 1) := by decide +kernel
theorem dX9_nextCode_7 : decode cX9_nextCode 7 = .ok (.iconst (-1), 1) := by decide +kernel
theorem dX9_nextCode_8 : decode cX9_nextCode 8 = .ok (.istore_n 2, 1) := by decide +kernel
theorem dX9_nextCode_9 : decode cX9_nextCode 9 = .ok (.sipush 144, 3) := by decide +kernel
theorem dX9_nextCode_12 : decode cX9_nextCode 12 = .ok (.istore_n 3, 1) := by decide +kernel
theorem dX9_nextCode_13 : decode cX9_nextCode 13 = .ok (.iload_n 3, 1) := by decide +kernel
theorem dX9_nextCode_14 : decode cX9_nextCode 14 = .ok (.sipush 1008, 3) := by decide +kernel
theorem dX9_nextCode_17 : decode cX9_nextCode 17 = .ok (.if_icmp .ge 215, 3) := by decide +kernel
theorem dX9_nextCode_20 : decode cX9_nextCode 20 = .ok (.iload_n 3, 1) := by decide +kernel
theorem dX9_nextCode_21 : decode cX9_nextCode 21 = .ok (.sipush 144, 3) := by decide +kernel
theorem dX9_nextCode_24 : decode cX9_nextCode 24 = .ok (.idiv, 1) := by decide +kernel
theorem dX9_nextCode_25 : decode cX9_nextCode 25 = .ok (.istore 4, 2) := by decide +kernel
theorem dX9_nextCode_27 : decode cX9_nextCode 27 = .ok (.iload_n 3, 1) := by decide +kernel
theorem dX9_nextCode_28 : decode cX9_nextCode 28 = .ok (.bipush 12, 2) := by decide +kernel
theorem dX9_nextCode_30 : decode cX9_nextCode 30 = .ok (.idiv, 1) := by decide +kernel
theorem dX9_nextCode_31 : decode cX9_nextCode 31 = .ok (.bipush 12, 2) := by decide +kernel
theorem dX9_nextCode_33 : decode cX9_nextCode 33 = .ok (.irem, 1) := by decide +kernel
theorem dX9_nextCode_34 : decode cX9_nextCode 34 = .ok (.istore 5, 2) := by decide +kernel
theorem dX9_nextCode_36 : decode cX9_nextCode 36 = .ok (.iload_n 3, 1) := by decide +kernel
theorem dX9_nextCode_37 : decode cX9_nextCode 37 = .ok (.bipush 12, 2) := by decide +kernel
theorem dX9_nextCode_39 : decode cX9_nextCode 39 = .ok (.irem, 1) := by decide +kernel
theorem dX9_nextCode_40 : decode cX9_nextCode 40 = .ok (.istore 6, 2) := by decide +kernel
theorem dX9_nextCode_42 : decode cX9_nextCode 42 = .ok (.iload 5, 2) := by decide +kernel
theorem dX9_nextCode_44 : decode cX9_nextCode 44 = .ok (.aload_n 0, 1) := by decide +kernel
theorem dX9_nextCode_45 : decode cX9_nextCode 45 = .ok (.getfield 187, 3) := by decide +kernel
theorem dX9_nextCode_48 : decode cX9_nextCode 48 = .ok (.if_icmp .ge 57, 3) := by decide +kernel
theorem dX9_nextCode_51 : decode cX9_nextCode 51 = .ok (.aload_n 0, 1) := by decide +kernel
theorem dX9_nextCode_52 : decode cX9_nextCode 52 = .ok (.getfield 63, 3) := by decide +kernel
theorem dX9_nextCode_55 : decode cX9_nextCode 55 = .ok (.iload 5, 2) := by decide +kernel
theorem dX9_nextCode_57 : decode cX9_nextCode 57 = .ok (.baload, 1) := by decide +kernel
theorem dX9_nextCode_58 : decode cX9_nextCode 58 = .ok (.ifCond .ne 47, 3) := by decide +kernel
theorem dX9_nextCode_61 : decode cX9_nextCode 61 = .ok (.iload 4, 2) := by decide +kernel
theorem dX9_nextCode_63 : decode cX9_nextCode 63 = .ok (.iconst 2, 1) := by decide +kernel
theorem dX9_nextCode_64 : decode cX9_nextCode 64 = .ok (.if_icmp .ne 32, 3) := by decide +kernel
theorem dX9_nextCode_67 : decode cX9_nextCode 67 = .ok (.iload 6, 2) := by decide +kernel
theorem dX9_nextCode_69 : decode cX9_nextCode 69 = .ok (.iload 5, 2) := by decide +kernel
theorem dX9_nextCode_71 : decode cX9_nextCode 71 = .ok (.if_icmp .le 34, 3) := by decide +kernel
theorem dX9_nextCode_74 : decode cX9_nextCode 74 = .ok (.iload 6, 2) := by decide +kernel
theorem dX9_nextCode_76 : decode cX9_nextCode 76 = .ok (.aload_n 0, 1) := by decide +kernel
theorem dX9_nextCode_77 : decode cX9_nextCode 77 = .ok (.getfield 187, 3) := by decide +kernel
theorem dX9_nextCode_80 : decode cX9_nextCode 80 = .ok (.if_icmp .ge 25, 3) := by decide +kernel
theorem dX9_nextCode_83 : decode cX9_nextCode 83 = .ok (.aload_n 0, 1) := by decide +kernel
theorem dX9_nextCode_84 : decode cX9_nextCode 84 = .ok (.getfield 63, 3) := by decide +kernel
theorem dX9_nextCode_87 : decode cX9_nextCode 87 = .ok (.iload 6, 2) := by decide +kernel
theorem dX9_nextCode_89 : decode cX9_nextCode 89 = .ok (.baload, 1) := by decide +kernel
theorem dX9_nextCode_90 : decode cX9_nextCode 90 = .ok (.ifCond .ne 15, 3) := by decide +kernel
theorem dX9_nextCode_93 : decode cX9_nextCode 93 = .ok (.goto 8, 3) := by decide +kernel
theorem dX9_nextCode_96 : decode cX9_nextCode 96 = .ok (.iload 6, 2) := by decide +kernel
theorem dX9_nextCode_98 : decode cX9_nextCode 98 = .ok (.ifCond .ne 7, 3) := by decide +kernel
theorem dX9_nextCode_101 : decode cX9_nextCode 101 = .ok (.iconst 1, 1) := by decide +kernel
theorem dX9_nextCode_102 : decode cX9_nextCode 102 = .ok (.goto 4, 3) := by decide +kernel
theorem dX9_nextCode_105 : decode cX9_nextCode 105 = .ok (.iconst 0, 1) := by decide +kernel
theorem dX9_nextCode_106 : decode cX9_nextCode 106 = .ok (.istore 7, 2) := by decide +kernel
theorem dX9_nextCode_108 : decode cX9_nextCode 108 = .ok (.iload 7, 2) := by decide +kernel
theorem dX9_nextCode_110 : decode cX9_nextCode 110 = .ok (.ifCond .eq 116, 3) := by decide +kernel
theorem dX9_nextCode_113 : decode cX9_nextCode 113 = .ok (.aload_n 0, 1) := by decide +kernel
theorem dX9_nextCode_114 : decode cX9_nextCode 114 = .ok (.iload 4, 2) := by decide +kernel
theorem dX9_nextCode_116 : decode cX9_nextCode 116 = .ok (.iload 5, 2) := by decide +kernel
theorem dX9_nextCode_118 : decode cX9_nextCode 118 = .ok (.iload 4, 2) := by decide +kernel
theorem dX9_nextCode_120 : decode cX9_nextCode 120 = .ok (.iconst 2, 1) := by decide +kernel
theorem dX9_nextCode_121 : decode cX9_nextCode 121 = .ok (.if_icmp .ne 8, 3) := by decide +kernel
theorem dX9_nextCode_124 : decode cX9_nextCode 124 = .ok (.iload 6, 2) := by decide +kernel
theorem dX9_nextCode_126 : decode cX9_nextCode 126 = .ok (.goto 5, 3) := by decide +kernel
theorem dX9_nextCode_129 : decode cX9_nextCode 129 = .ok (.iload 5, 2) := by decide +kernel
theorem dX9_nextCode_131 : decode cX9_nextCode 131 = .ok (.invokevirtual 235, 3) := by decide +kernel
theorem dX9_nextCode_134 : decode cX9_nextCode 134 = .ok (.iconst 0, 1) := by decide +kernel
theorem dX9_nextCode_135 : decode cX9_nextCode 135 = .ok (.istore 8, 2) := by decide +kernel
theorem dX9_nextCode_137 : decode cX9_nextCode 137 = .ok (.iconst 0, 1) := by decide +kernel
theorem dX9_nextCode_138 : decode cX9_nextCode 138 = .ok (.istore 9, 2) := by decide +kernel
theorem dX9_nextCode_140 : decode cX9_nextCode 140 = .ok (.iload 9, 2) := by decide +kernel
theorem dX9_nextCode_142 : decode cX9_nextCode 142 = .ok (.aload_n 0, 1) := by decide +kernel
theorem dX9_nextCode_143 : decode cX9_nextCode 143 = .ok (.getfield 187, 3) := by decide +kernel
theorem dX9_nextCode_146 : decode cX9_nextCode 146 = .ok (.if_icmp .ge 24, 3) := by decide +kernel
theorem dX9_nextCode_149 : decode cX9_nextCode 149 = .ok (.iload 8, 2) := by decide +kernel
theorem dX9_nextCode_151 : decode cX9_nextCode 151 = .ok (.ifCond .ne 19, 3) := by decide +kernel
theorem dX9_nextCode_154 : decode cX9_nextCode 154 = .ok (.aload_n 0, 1) := by decide +kernel
theorem dX9_nextCode_155 : decode cX9_nextCode 155 = .ok (.bipush 12, 2) := by decide +kernel
theorem dX9_nextCode_157 : decode cX9_nextCode 157 = .ok (.iload 9, 2) := by decide +kernel
theorem dX9_nextCode_159 : decode cX9_nextCode 159 = .ok (.invokevirtual 216, 3) := by decide +kernel
theorem dX9_nextCode_162 : decode cX9_nextCode 162 = .ok (.istore 8, 2) := by decide +kernel
theorem dX9_nextCode_164 : decode cX9_nextCode 164 = .ok (.iinc 9 1, 3) := by decide +kernel
theorem dX9_nextCode_167 : decode cX9_nextCode 167 = .ok (.goto (-27), 3) := by decide +kernel
theorem dX9_nextCode_170 : decode cX9_nextCode 170 = .ok (.iload 8, 2) := by decide +kernel
theorem dX9_nextCode_172 : decode cX9_nextCode 172 = .ok (.ifCond .eq 7, 3) := by decide +kernel
theorem dX9_nextCode_175 : decode cX9_nextCode 175 = .ok (.iconst (-1), 1) := by decide +kernel
theorem dX9_nextCode_176 : decode cX9_nextCode 176 = .ok (.goto 9, 3) := by decide +kernel
theorem dX9_nextCode_179 : decode cX9_nextCode 179 = .ok (.aload_n 0, 1) := by decide +kernel
theorem dX9_nextCode_180 : decode cX9_nextCode 180 = .ok (.bipush 12, 2) := by decide +kernel
theorem dX9_nextCode_182 : decode cX9_nextCode 182 = .ok (.invokevirtual 223, 3) := by decide +kernel
theorem dX9_nextCode_185 : decode cX9_nextCode 185 = .ok (.istore 9, 2) := by decide +kernel
theorem dX9_nextCode_187 : decode cX9_nextCode 187 = .ok (.iload 9, 2) := by decide +kernel
theorem dX9_nextCode_189 : decode cX9_nextCode 189 = .ok (.iload_n 2, 1) := by decide +kernel
theorem dX9_nextCode_190 : decode cX9_nextCode 190 = .ok (.if_icmp .le 21, 3) := by decide +kernel
theorem dX9_nextCode_193 : decode cX9_nextCode 193 = .ok (.sipush 10000, 3) := by decide +kernel
theorem dX9_nextCode_196 : decode cX9_nextCode 196 = .ok (.iload 4, 2) := by decide +kernel
theorem dX9_nextCode_198 : decode cX9_nextCode 198 = .ok (.imul, 1) := by decide +kernel
theorem dX9_nextCode_199 : decode cX9_nextCode 199 = .ok (.bipush 100, 2) := by decide +kernel
theorem dX9_nextCode_201 : decode cX9_nextCode 201 = .ok (.iload 5, 2) := by decide +kernel
theorem dX9_nextCode_203 : decode cX9_nextCode 203 = .ok (.imul, 1) := by decide +kernel
theorem dX9_nextCode_204 : decode cX9_nextCode 204 = .ok (.iadd, 1) := by decide +kernel
theorem dX9_nextCode_205 : decode cX9_nextCode 205 = .ok (.iload 6, 2) := by decide +kernel
theorem dX9_nextCode_207 : decode cX9_nextCode 207 = .ok (.iadd, 1) := by decide +kernel
theorem dX9_nextCode_208 : decode cX9_nextCode 208 = .ok (.goto 4, 3) := by decide +kernel
theorem dX9_nextCode_211 : decode cX9_nextCode 211 = .ok (.iload_n 1, 1) := by decide +kernel
theorem dX9_nextCode_212 : decode cX9_nextCode 212 = .ok (.istore_n 1, 1) := by decide +kernel
theorem dX9_nextCode_213 : decode cX9_nextCode 213 = .ok (.iload 9, 2) := by decide +kernel
theorem dX9_nextCode_215 : decode cX9_nextCode 215 = .ok (.iload_n 2, 1) := by decide +kernel
theorem dX9_nextCode_216 : decode cX9_nextCode 216 = .ok (.if_icmp .le 8, 3) := by decide +kernel
theorem dX9_nextCode_219 : decode cX9_nextCode 219 = .ok (.iload 9, 2) := by decide +kernel
theorem dX9_nextCode_221 : decode cX9_nextCode 221 = .ok (.goto 4, 3) := by decide +kernel
theorem dX9_nextCode_224 : decode cX9_nextCode 224 = .ok (.iload_n 2, 1) := by decide +kernel
theorem dX9_nextCode_225 : decode cX9_nextCode 225 = .ok (.istore_n 2, 1) := by decide +kernel
theorem dX9_nextCode_226 : decode cX9_nextCode 226 = .ok (.iinc 3 1, 3) := by decide +kernel
theorem dX9_nextCode_229 : decode cX9_nextCode 229 = .ok (.goto (-216), 3) := by decide +kernel
theorem dX9_nextCode_232 : decode cX9_nextCode 232 = .ok (.iload_n 1, 1) := by decide +kernel
theorem dX9_nextCode_233 : decode cX9_nextCode 233 = .ok (.ireturn, 1) := by decide +kernel
theorem dX9_next_0 : decode cX9_next 0 = .ok (.aload_n 0, 1) := by decide +kernel
theorem dX9_next_1 : decode cX9_next 1 = .ok (.invokevirtual 239, 3) := by decide +kernel
theorem dX9_next_4 : decode cX9_next 4 = .ok (.ireturn, 1) := by decide +kernel
theorem dX9_makeNext_0 : decode cX9_makeNext 0 = .ok (.aload_n 0, 1) := by decide +kernel
theorem dX9_makeNext_1 : decode cX9_makeNext 1 = .ok (.invokevirtual 239, 3) := by decide +kernel
theorem dX9_makeNext_4 : decode cX9_makeNext 4 = .ok (.istore_n 1, 1) := by decide +kernel
theorem dX9_makeNext_5 : decode cX9_makeNext 5 = .ok (.iload_n 1, 1) := by decide +kernel
theorem dX9_makeNext_6 : decode cX9_makeNext 6 = .ok (.bipush (-9), 2) := by decide +kernel
theorem dX9_makeNext_8 : decode cX9_makeNext 8 = .ok (.if_icmp .ne 6, 3) := by decide +kernel
theorem dX9_makeNext_11 : decode cX9_makeNext 11 = .ok (.bipush (-3), 2) := by decide +kernel
theorem dX9_makeNext_13 : decode cX9_makeNext 13 = .ok (.ireturn, 1) := by decide +kernel
theorem dX9_makeNext_14 : decode cX9_makeNext 14 = .ok (.aload_n 0, 1) := by decide +kernel
theorem dX9_makeNext_15 : decode cX9_makeNext 15 = .ok (.iload_n 1, 1) := by decide +kernel
theorem dX9_makeNext_16 : decode cX9_makeNext 16 = .ok (.sipush 10000, 3) := by decide +kernel
theorem dX9_makeNext_19 : decode cX9_makeNext 19 = .ok (.idiv, 1) := by decide +kernel
theorem dX9_makeNext_20 : decode cX9_makeNext 20 = .ok (.iload_n 1, 1) := by decide +kernel
theorem dX9_makeNext_21 : decode cX9_makeNext 21 = .ok (.bipush 100, 2) := by decide +kernel
theorem dX9_makeNext_23 : decode cX9_makeNext 23 = .ok (.idiv, 1) := by decide +kernel
theorem dX9_makeNext_24 : decode cX9_makeNext 24 = .ok (.bipush 100, 2) := by decide +kernel
theorem dX9_makeNext_26 : decode cX9_makeNext 26 = .ok (.irem, 1) := by decide +kernel
theorem dX9_makeNext_27 : decode cX9_makeNext 27 = .ok (.iload_n 1, 1) := by decide +kernel
theorem dX9_makeNext_28 : decode cX9_makeNext 28 = .ok (.bipush 100, 2) := by decide +kernel
theorem dX9_makeNext_30 : decode cX9_makeNext 30 = .ok (.irem, 1) := by decide +kernel
theorem dX9_makeNext_31 : decode cX9_makeNext 31 = .ok (.invokevirtual 242, 3) := by decide +kernel
theorem dX9_makeNext_34 : decode cX9_makeNext 34 = .ok (.ireturn, 1) := by decide +kernel
theorem dX9_isNeeded_0 : decode cX9_isNeeded 0 = .ok (.iconst 0, 1) := by decide +kernel
theorem dX9_isNeeded_1 : decode cX9_isNeeded 1 = .ok (.istore_n 3, 1) := by decide +kernel
theorem dX9_isNeeded_2 : decode cX9_isNeeded 2 = .ok (.iload_n 3, 1) := by decide +kernel
theorem dX9_isNeeded_3 : decode cX9_isNeeded 3 = .ok (.sipush 19700, 3) := by decide +kernel
theorem dX9_isNeeded_6 : decode cX9_isNeeded 6 = .ok (.if_icmp .ge 36, 3) := by decide +kernel
theorem dX9_isNeeded_9 : decode cX9_isNeeded 9 = .ok (.aload_n 0, 1) := by decide +kernel
theorem dX9_isNeeded_10 : decode cX9_isNeeded 10 = .ok (.getfield 39, 3) := by decide +kernel
theorem dX9_isNeeded_13 : decode cX9_isNeeded 13 = .ok (.iload_n 3, 1) := by decide +kernel
theorem dX9_isNeeded_14 : decode cX9_isNeeded 14 = .ok (.iaload, 1) := by decide +kernel
theorem dX9_isNeeded_15 : decode cX9_isNeeded 15 = .ok (.iload_n 2, 1) := by decide +kernel
theorem dX9_isNeeded_16 : decode cX9_isNeeded 16 = .ok (.iand, 1) := by decide +kernel
theorem dX9_isNeeded_17 : decode cX9_isNeeded 17 = .ok (.ifCond .ne 19, 3) := by decide +kernel
theorem dX9_isNeeded_20 : decode cX9_isNeeded 20 = .ok (.aload_n 0, 1) := by decide +kernel
theorem dX9_isNeeded_21 : decode cX9_isNeeded 21 = .ok (.getfield 39, 3) := by decide +kernel
theorem dX9_isNeeded_24 : decode cX9_isNeeded 24 = .ok (.iload_n 3, 1) := by decide +kernel
theorem dX9_isNeeded_25 : decode cX9_isNeeded 25 = .ok (.iaload, 1) := by decide +kernel
theorem dX9_isNeeded_26 : decode cX9_isNeeded 26 = .ok (.iload_n 1, 1) := by decide +kernel
theorem dX9_isNeeded_27 : decode cX9_isNeeded 27 = .ok (.ishr, 1) := by decide +kernel
theorem dX9_isNeeded_28 : decode cX9_isNeeded 28 = .ok (.iconst 1, 1) := by decide +kernel
theorem dX9_isNeeded_29 : decode cX9_isNeeded 29 = .ok (.iand, 1) := by decide +kernel
theorem dX9_isNeeded_30 : decode cX9_isNeeded 30 = .ok (.iconst 1, 1) := by decide +kernel
theorem dX9_isNeeded_31 : decode cX9_isNeeded 31 = .ok (.if_icmp .ne 5, 3) := by decide +kernel
theorem dX9_isNeeded_34 : decode cX9_isNeeded 34 = .ok (.iconst 1, 1) := by decide +kernel
theorem dX9_isNeeded_35 : decode cX9_isNeeded 35 = .ok (.ireturn, 1) := by decide +kernel
theorem dX9_isNeeded_36 : decode cX9_isNeeded 36 = .ok (.iinc 3 1, 3) := by decide +kernel
theorem dX9_isNeeded_39 : decode cX9_isNeeded 39 = .ok (.goto (-37), 3) := by decide +kernel
theorem dX9_isNeeded_42 : decode cX9_isNeeded 42 = .ok (.iconst 0, 1) := by decide +kernel
theorem dX9_isNeeded_43 : decode cX9_isNeeded 43 = .ok (.ireturn, 1) := by decide +kernel
theorem dX9_needed_0 : decode cX9_needed 0 = .ok (.iload_n 1, 1) := by decide +kernel
theorem dX9_needed_1 : decode cX9_needed 1 = .ok (.i2l, 1) := by decide +kernel
theorem dX9_needed_2 : decode cX9_needed 2 = .ok (.lconst 0, 1) := by decide +kernel
theorem dX9_needed_3 : decode cX9_needed 3 = .ok (.aload_n 0, 1) := by decide +kernel
theorem dX9_needed_4 : decode cX9_needed 4 = .ok (.getfield 113, 3) := by decide +kernel
theorem dX9_needed_7 : decode cX9_needed 7 = .ok (.iconst 1, 1) := by decide +kernel
theorem dX9_needed_8 : decode cX9_needed 8 = .ok (.isub, 1) := by decide +kernel
theorem dX9_needed_9 : decode cX9_needed 9 = .ok (.i2l, 1) := by decide +kernel
theorem dX9_needed_10 : decode cX9_needed 10 = .ok (.invokestatic 105, 3) := by decide +kernel
theorem dX9_needed_13 : decode cX9_needed 13 = .ok (.ifCond .ne 5, 3) := by decide +kernel
theorem dX9_needed_16 : decode cX9_needed 16 = .ok (.iconst (-1), 1) := by decide +kernel
theorem dX9_needed_17 : decode cX9_needed 17 = .ok (.ireturn, 1) := by decide +kernel
theorem dX9_needed_18 : decode cX9_needed 18 = .ok (.aload_n 0, 1) := by decide +kernel
theorem dX9_needed_19 : decode cX9_needed 19 = .ok (.invokevirtual 175, 3) := by decide +kernel
theorem dX9_needed_22 : decode cX9_needed 22 = .ok (.aload_n 0, 1) := by decide +kernel
theorem dX9_needed_23 : decode cX9_needed 23 = .ok (.iload_n 1, 1) := by decide +kernel
end
section
theorem dX9_needed_24 : decode cX9_needed 24 = .ok (.bipush 63, 2) := by decide +kernel
theorem dX9_needed_26 : decode cX9_needed 26 = .ok (.iconst 1, 1) := by decide +kernel
theorem dX9_needed_27 : decode cX9_needed 27 = .ok (.iload_n 1, 1) := by decide +kernel
theorem dX9_needed_28 : decode cX9_needed 28 = .ok (.ishl, 1) := by decide +kernel
theorem dX9_needed_29 : decode cX9_needed 29 = .ok (.iconst (-1), 1) := by decide +kernel
theorem dX9_needed_30 : decode cX9_needed 30 = .ok (.ixor, 1) := by decide +kernel
theorem dX9_needed_31 : decode cX9_needed 31 = .ok (.iand, 1) := by decide +kernel
theorem dX9_needed_32 : decode cX9_needed 32 = .ok (.invokevirtual 246, 3) := by decide +kernel
theorem dX9_needed_35 : decode cX9_needed 35 = .ok (.ifCond .eq 7, 3) := by decide +kernel
theorem dX9_needed_38 : decode cX9_needed 38 = .ok (.iconst 1, 1) := by decide +kernel
theorem dX9_needed_39 : decode cX9_needed 39 = .ok (.goto 4, 3) := by decide +kernel
theorem dX9_needed_42 : decode cX9_needed 42 = .ok (.iconst 0, 1) := by decide +kernel
theorem dX9_needed_43 : decode cX9_needed 43 = .ok (.ireturn, 1) := by decide +kernel
theorem dX9_least_0 : decode cX9_least 0 = .ok (.aload_n 0, 1) := by decide +kernel
theorem dX9_least_1 : decode cX9_least 1 = .ok (.invokevirtual 175, 3) := by decide +kernel
theorem dX9_least_4 : decode cX9_least 4 = .ok (.iconst 1, 1) := by decide +kernel
theorem dX9_least_5 : decode cX9_least 5 = .ok (.aload_n 0, 1) := by decide +kernel
theorem dX9_least_6 : decode cX9_least 6 = .ok (.getfield 113, 3) := by decide +kernel
theorem dX9_least_9 : decode cX9_least 9 = .ok (.ishl, 1) := by decide +kernel
theorem dX9_least_10 : decode cX9_least 10 = .ok (.iconst 1, 1) := by decide +kernel
theorem dX9_least_11 : decode cX9_least 11 = .ok (.isub, 1) := by decide +kernel
theorem dX9_least_12 : decode cX9_least 12 = .ok (.istore_n 1, 1) := by decide +kernel
theorem dX9_least_13 : decode cX9_least 13 = .ok (.aload_n 0, 1) := by decide +kernel
theorem dX9_least_14 : decode cX9_least 14 = .ok (.getfield 113, 3) := by decide +kernel
theorem dX9_least_17 : decode cX9_least 17 = .ok (.iconst 1, 1) := by decide +kernel
theorem dX9_least_18 : decode cX9_least 18 = .ok (.isub, 1) := by decide +kernel
theorem dX9_least_19 : decode cX9_least 19 = .ok (.istore_n 2, 1) := by decide +kernel
theorem dX9_least_20 : decode cX9_least 20 = .ok (.iload_n 2, 1) := by decide +kernel
theorem dX9_least_21 : decode cX9_least 21 = .ok (.ifCond .lt 36, 3) := by decide +kernel
theorem dX9_least_24 : decode cX9_least 24 = .ok (.aload_n 0, 1) := by decide +kernel
theorem dX9_least_25 : decode cX9_least 25 = .ok (.iload_n 2, 1) := by decide +kernel
theorem dX9_least_26 : decode cX9_least 26 = .ok (.iload_n 1, 1) := by decide +kernel
theorem dX9_least_27 : decode cX9_least 27 = .ok (.iconst 1, 1) := by decide +kernel
theorem dX9_least_28 : decode cX9_least 28 = .ok (.iload_n 2, 1) := by decide +kernel
theorem dX9_least_29 : decode cX9_least 29 = .ok (.ishl, 1) := by decide +kernel
theorem dX9_least_30 : decode cX9_least 30 = .ok (.iconst (-1), 1) := by decide +kernel
theorem dX9_least_31 : decode cX9_least 31 = .ok (.ixor, 1) := by decide +kernel
theorem dX9_least_32 : decode cX9_least 32 = .ok (.iand, 1) := by decide +kernel
theorem dX9_least_33 : decode cX9_least 33 = .ok (.invokevirtual 246, 3) := by decide +kernel
theorem dX9_least_36 : decode cX9_least 36 = .ok (.ifCond .eq 7, 3) := by decide +kernel
theorem dX9_least_39 : decode cX9_least 39 = .ok (.iload_n 1, 1) := by decide +kernel
theorem dX9_least_40 : decode cX9_least 40 = .ok (.goto 10, 3) := by decide +kernel
theorem dX9_least_43 : decode cX9_least 43 = .ok (.iload_n 1, 1) := by decide +kernel
theorem dX9_least_44 : decode cX9_least 44 = .ok (.iconst 1, 1) := by decide +kernel
theorem dX9_least_45 : decode cX9_least 45 = .ok (.iload_n 2, 1) := by decide +kernel
theorem dX9_least_46 : decode cX9_least 46 = .ok (.ishl, 1) := by decide +kernel
theorem dX9_least_47 : decode cX9_least 47 = .ok (.iconst (-1), 1) := by decide +kernel
theorem dX9_least_48 : decode cX9_least 48 = .ok (.ixor, 1) := by decide +kernel
theorem dX9_least_49 : decode cX9_least 49 = .ok (.iand, 1) := by decide +kernel
theorem dX9_least_50 : decode cX9_least 50 = .ok (.istore_n 1, 1) := by decide +kernel
theorem dX9_least_51 : decode cX9_least 51 = .ok (.iinc 2 (-1), 3) := by decide +kernel
theorem dX9_least_54 : decode cX9_least 54 = .ok (.goto (-34), 3) := by decide +kernel
theorem dX9_least_57 : decode cX9_least 57 = .ok (.iload_n 1, 1) := by decide +kernel
theorem dX9_least_58 : decode cX9_least 58 = .ok (.ireturn, 1) := by decide +kernel
theorem dX9_turned_0 : decode cX9_turned 0 = .ok (.aload_n 0, 1) := by decide +kernel
theorem dX9_turned_1 : decode cX9_turned 1 = .ok (.iload_n 1, 1) := by decide +kernel
theorem dX9_turned_2 : decode cX9_turned 2 = .ok (.invokevirtual 138, 3) := by decide +kernel
theorem dX9_turned_5 : decode cX9_turned 5 = .ok (.iconst 0, 1) := by decide +kernel
theorem dX9_turned_6 : decode cX9_turned 6 = .ok (.istore_n 2, 1) := by decide +kernel
theorem dX9_turned_7 : decode cX9_turned 7 = .ok (.iconst 0, 1) := by decide +kernel
theorem dX9_turned_8 : decode cX9_turned 8 = .ok (.istore_n 3, 1) := by decide +kernel
theorem dX9_turned_9 : decode cX9_turned 9 = .ok (.iload_n 3, 1) := by decide +kernel
theorem dX9_turned_10 : decode cX9_turned 10 = .ok (.aload_n 0, 1) := by decide +kernel
theorem dX9_turned_11 : decode cX9_turned 11 = .ok (.getfield 124, 3) := by decide +kernel
theorem dX9_turned_14 : decode cX9_turned 14 = .ok (.aload_n 0, 1) := by decide +kernel
theorem dX9_turned_15 : decode cX9_turned 15 = .ok (.getfield 124, 3) := by decide +kernel
theorem dX9_turned_18 : decode cX9_turned 18 = .ok (.imul, 1) := by decide +kernel
theorem dX9_turned_19 : decode cX9_turned 19 = .ok (.if_icmp .ge 40, 3) := by decide +kernel
theorem dX9_turned_22 : decode cX9_turned 22 = .ok (.iload_n 2, 1) := by decide +kernel
theorem dX9_turned_23 : decode cX9_turned 23 = .ok (.aload_n 0, 1) := by decide +kernel
theorem dX9_turned_24 : decode cX9_turned 24 = .ok (.getfield 124, 3) := by decide +kernel
theorem dX9_turned_27 : decode cX9_turned 27 = .ok (.imul, 1) := by decide +kernel
theorem dX9_turned_28 : decode cX9_turned 28 = .ok (.aload_n 0, 1) := by decide +kernel
theorem dX9_turned_29 : decode cX9_turned 29 = .ok (.getfield 29, 3) := by decide +kernel
theorem dX9_turned_32 : decode cX9_turned 32 = .ok (.iload_n 3, 1) := by decide +kernel
theorem dX9_turned_33 : decode cX9_turned 33 = .ok (.aload_n 0, 1) := by decide +kernel
theorem dX9_turned_34 : decode cX9_turned 34 = .ok (.getfield 124, 3) := by decide +kernel
theorem dX9_turned_37 : decode cX9_turned 37 = .ok (.irem, 1) := by decide +kernel
theorem dX9_turned_38 : decode cX9_turned 38 = .ok (.aload_n 0, 1) := by decide +kernel
theorem dX9_turned_39 : decode cX9_turned 39 = .ok (.getfield 124, 3) := by decide +kernel
theorem dX9_turned_42 : decode cX9_turned 42 = .ok (.imul, 1) := by decide +kernel
theorem dX9_turned_43 : decode cX9_turned 43 = .ok (.iload_n 3, 1) := by decide +kernel
theorem dX9_turned_44 : decode cX9_turned 44 = .ok (.aload_n 0, 1) := by decide +kernel
theorem dX9_turned_45 : decode cX9_turned 45 = .ok (.getfield 124, 3) := by decide +kernel
theorem dX9_turned_48 : decode cX9_turned 48 = .ok (.idiv, 1) := by decide +kernel
theorem dX9_turned_49 : decode cX9_turned 49 = .ok (.iadd, 1) := by decide +kernel
theorem dX9_turned_50 : decode cX9_turned 50 = .ok (.iaload, 1) := by decide +kernel
theorem dX9_turned_51 : decode cX9_turned 51 = .ok (.iadd, 1) := by decide +kernel
theorem dX9_turned_52 : decode cX9_turned 52 = .ok (.istore_n 2, 1) := by decide +kernel
theorem dX9_turned_53 : decode cX9_turned 53 = .ok (.iinc 3 1, 3) := by decide +kernel
theorem dX9_turned_56 : decode cX9_turned 56 = .ok (.goto (-47), 3) := by decide +kernel
theorem dX9_turned_59 : decode cX9_turned 59 = .ok (.aload_n 0, 1) := by decide +kernel
theorem dX9_turned_60 : decode cX9_turned 60 = .ok (.getfield 124, 3) := by decide +kernel
theorem dX9_turned_63 : decode cX9_turned 63 = .ok (.invokestatic 127, 3) := by decide +kernel
theorem dX9_turned_66 : decode cX9_turned 66 = .ok (.iload_n 2, 1) := by decide +kernel
theorem dX9_turned_67 : decode cX9_turned 67 = .ok (.iadd, 1) := by decide +kernel
theorem dX9_turned_68 : decode cX9_turned 68 = .ok (.ireturn, 1) := by decide +kernel
theorem dX9_even_0 : decode cX9_even 0 = .ok (.aload_n 0, 1) := by decide +kernel
theorem dX9_even_1 : decode cX9_even 1 = .ok (.invokevirtual 175, 3) := by decide +kernel
theorem dX9_even_4 : decode cX9_even 4 = .ok (.iconst 0, 1) := by decide +kernel
theorem dX9_even_5 : decode cX9_even 5 = .ok (.istore_n 1, 1) := by decide +kernel
theorem dX9_even_6 : decode cX9_even 6 = .ok (.iload_n 1, 1) := by decide +kernel
theorem dX9_even_7 : decode cX9_even 7 = .ok (.sipush 19700, 3) := by decide +kernel
theorem dX9_even_10 : decode cX9_even 10 = .ok (.if_icmp .ge 33, 3) := by decide +kernel
theorem dX9_even_13 : decode cX9_even 13 = .ok (.aload_n 0, 1) := by decide +kernel
theorem dX9_even_14 : decode cX9_even 14 = .ok (.getfield 39, 3) := by decide +kernel
theorem dX9_even_17 : decode cX9_even 17 = .ok (.iload_n 1, 1) := by decide +kernel
theorem dX9_even_18 : decode cX9_even 18 = .ok (.iaload, 1) := by decide +kernel
theorem dX9_even_19 : decode cX9_even 19 = .ok (.ifCond .ne 18, 3) := by decide +kernel
theorem dX9_even_22 : decode cX9_even 22 = .ok (.aload_n 0, 1) := by decide +kernel
theorem dX9_even_23 : decode cX9_even 23 = .ok (.getfield 39, 3) := by decide +kernel
theorem dX9_even_26 : decode cX9_even 26 = .ok (.aload_n 0, 1) := by decide +kernel
theorem dX9_even_27 : decode cX9_even 27 = .ok (.iload_n 1, 1) := by decide +kernel
theorem dX9_even_28 : decode cX9_even 28 = .ok (.invokevirtual 249, 3) := by decide +kernel
theorem dX9_even_31 : decode cX9_even 31 = .ok (.iaload, 1) := by decide +kernel
theorem dX9_even_32 : decode cX9_even 32 = .ok (.ifCond .eq 5, 3) := by decide +kernel
theorem dX9_even_35 : decode cX9_even 35 = .ok (.iconst 0, 1) := by decide +kernel
theorem dX9_even_36 : decode cX9_even 36 = .ok (.ireturn, 1) := by decide +kernel
theorem dX9_even_37 : decode cX9_even 37 = .ok (.iinc 1 1, 3) := by decide +kernel
theorem dX9_even_40 : decode cX9_even 40 = .ok (.goto (-34), 3) := by decide +kernel
theorem dX9_even_43 : decode cX9_even 43 = .ok (.iconst 1, 1) := by decide +kernel
theorem dX9_even_44 : decode cX9_even 44 = .ok (.ireturn, 1) := by decide +kernel
theorem dX9_keep_0 : decode cX9_keep 0 = .ok (.iload_n 1, 1) := by decide +kernel
theorem dX9_keep_1 : decode cX9_keep 1 = .ok (.i2l, 1) := by decide +kernel
theorem dX9_keep_2 : decode cX9_keep 2 = .ok (.lconst 0, 1) := by decide +kernel
theorem dX9_keep_3 : decode cX9_keep 3 = .ok (.lconst 1, 1) := by decide +kernel
theorem dX9_keep_4 : decode cX9_keep 4 = .ok (.invokestatic 105, 3) := by decide +kernel
theorem dX9_keep_7 : decode cX9_keep 7 = .ok (.ifCond .ne 5, 3) := by decide +kernel
theorem dX9_keep_10 : decode cX9_keep 10 = .ok (.iconst (-1), 1) := by decide +kernel
theorem dX9_keep_11 : decode cX9_keep 11 = .ok (.ireturn, 1) := by decide +kernel
theorem dX9_keep_12 : decode cX9_keep 12 = .ok (.aload_n 0, 1) := by decide +kernel
theorem dX9_keep_13 : decode cX9_keep 13 = .ok (.getfield 78, 3) := by decide +kernel
theorem dX9_keep_16 : decode cX9_keep 16 = .ok (.iload_n 1, 1) := by decide +kernel
theorem dX9_keep_17 : decode cX9_keep 17 = .ok (.aload_n 0, 1) := by decide +kernel
theorem dX9_keep_18 : decode cX9_keep 18 = .ok (.getfield 113, 3) := by decide +kernel
theorem dX9_keep_21 : decode cX9_keep 21 = .ok (.iastore, 1) := by decide +kernel
theorem dX9_keep_22 : decode cX9_keep 22 = .ok (.iconst 0, 1) := by decide +kernel
theorem dX9_keep_23 : decode cX9_keep 23 = .ok (.istore_n 2, 1) := by decide +kernel
theorem dX9_keep_24 : decode cX9_keep 24 = .ok (.iload_n 2, 1) := by decide +kernel
theorem dX9_keep_25 : decode cX9_keep 25 = .ok (.aload_n 0, 1) := by decide +kernel
theorem dX9_keep_26 : decode cX9_keep 26 = .ok (.getfield 113, 3) := by decide +kernel
theorem dX9_keep_29 : decode cX9_keep 29 = .ok (.if_icmp .ge 43, 3) := by decide +kernel
theorem dX9_keep_32 : decode cX9_keep 32 = .ok (.aload_n 0, 1) := by decide +kernel
theorem dX9_keep_33 : decode cX9_keep 33 = .ok (.getfield 81, 3) := by decide +kernel
theorem dX9_keep_36 : decode cX9_keep 36 = .ok (.bipush 6, 2) := by decide +kernel
theorem dX9_keep_38 : decode cX9_keep 38 = .ok (.iload_n 1, 1) := by decide +kernel
theorem dX9_keep_39 : decode cX9_keep 39 = .ok (.imul, 1) := by decide +kernel
theorem dX9_keep_40 : decode cX9_keep 40 = .ok (.iload_n 2, 1) := by decide +kernel
theorem dX9_keep_41 : decode cX9_keep 41 = .ok (.iadd, 1) := by decide +kernel
theorem dX9_keep_42 : decode cX9_keep 42 = .ok (.aload_n 0, 1) := by decide +kernel
theorem dX9_keep_43 : decode cX9_keep 43 = .ok (.getfield 23, 3) := by decide +kernel
theorem dX9_keep_46 : decode cX9_keep 46 = .ok (.iload_n 2, 1) := by decide +kernel
theorem dX9_keep_47 : decode cX9_keep 47 = .ok (.iaload, 1) := by decide +kernel
theorem dX9_keep_48 : decode cX9_keep 48 = .ok (.iastore, 1) := by decide +kernel
theorem dX9_keep_49 : decode cX9_keep 49 = .ok (.aload_n 0, 1) := by decide +kernel
theorem dX9_keep_50 : decode cX9_keep 50 = .ok (.getfield 84, 3) := by decide +kernel
theorem dX9_keep_53 : decode cX9_keep 53 = .ok (.bipush 6, 2) := by decide +kernel
theorem dX9_keep_55 : decode cX9_keep 55 = .ok (.iload_n 1, 1) := by decide +kernel
theorem dX9_keep_56 : decode cX9_keep 56 = .ok (.imul, 1) := by decide +kernel
theorem dX9_keep_57 : decode cX9_keep 57 = .ok (.iload_n 2, 1) := by decide +kernel
theorem dX9_keep_58 : decode cX9_keep 58 = .ok (.iadd, 1) := by decide +kernel
theorem dX9_keep_59 : decode cX9_keep 59 = .ok (.aload_n 0, 1) := by decide +kernel
theorem dX9_keep_60 : decode cX9_keep 60 = .ok (.getfield 26, 3) := by decide +kernel
theorem dX9_keep_63 : decode cX9_keep 63 = .ok (.iload_n 2, 1) := by decide +kernel
theorem dX9_keep_64 : decode cX9_keep 64 = .ok (.iaload, 1) := by decide +kernel
theorem dX9_keep_65 : decode cX9_keep 65 = .ok (.iastore, 1) := by decide +kernel
theorem dX9_keep_66 : decode cX9_keep 66 = .ok (.iinc 2 1, 3) := by decide +kernel
theorem dX9_keep_69 : decode cX9_keep 69 = .ok (.goto (-45), 3) := by decide +kernel
theorem dX9_keep_72 : decode cX9_keep 72 = .ok (.aload_n 0, 1) := by decide +kernel
theorem dX9_keep_73 : decode cX9_keep 73 = .ok (.getfield 113, 3) := by decide +kernel
theorem dX9_keep_76 : decode cX9_keep 76 = .ok (.ireturn, 1) := by decide +kernel
theorem dX9_same_0 : decode cX9_same 0 = .ok (.iload_n 1, 1) := by decide +kernel
theorem dX9_same_1 : decode cX9_same 1 = .ok (.i2l, 1) := by decide +kernel
theorem dX9_same_2 : decode cX9_same 2 = .ok (.lconst 0, 1) := by decide +kernel
theorem dX9_same_3 : decode cX9_same 3 = .ok (.lconst 1, 1) := by decide +kernel
theorem dX9_same_4 : decode cX9_same 4 = .ok (.invokestatic 105, 3) := by decide +kernel
theorem dX9_same_7 : decode cX9_same 7 = .ok (.ifCond .ne 5, 3) := by decide +kernel
theorem dX9_same_10 : decode cX9_same 10 = .ok (.iconst (-1), 1) := by decide +kernel
theorem dX9_same_11 : decode cX9_same 11 = .ok (.ireturn, 1) := by decide +kernel
theorem dX9_same_12 : decode cX9_same 12 = .ok (.aload_n 0, 1) := by decide +kernel
theorem dX9_same_13 : decode cX9_same 13 = .ok (.invokevirtual 175, 3) := by decide +kernel
theorem dX9_same_16 : decode cX9_same 16 = .ok (.iconst 0, 1) := by decide +kernel
theorem dX9_same_17 : decode cX9_same 17 = .ok (.istore_n 2, 1) := by decide +kernel
theorem dX9_same_18 : decode cX9_same 18 = .ok (.iload_n 2, 1) := by decide +kernel
theorem dX9_same_19 : decode cX9_same 19 = .ok (.aload_n 0, 1) := by decide +kernel
theorem dX9_same_20 : decode cX9_same 20 = .ok (.getfield 78, 3) := by decide +kernel
theorem dX9_same_23 : decode cX9_same 23 = .ok (.iload_n 1, 1) := by decide +kernel
theorem dX9_same_24 : decode cX9_same 24 = .ok (.iaload, 1) := by decide +kernel
theorem dX9_same_25 : decode cX9_same 25 = .ok (.if_icmp .ge 43, 3) := by decide +kernel
theorem dX9_same_28 : decode cX9_same 28 = .ok (.aload_n 0, 1) := by decide +kernel
theorem dX9_same_29 : decode cX9_same 29 = .ok (.getfield 87, 3) := by decide +kernel
theorem dX9_same_32 : decode cX9_same 32 = .ok (.iload_n 2, 1) := by decide +kernel
theorem dX9_same_33 : decode cX9_same 33 = .ok (.aload_n 0, 1) := by decide +kernel
theorem dX9_same_34 : decode cX9_same 34 = .ok (.getfield 81, 3) := by decide +kernel
theorem dX9_same_37 : decode cX9_same 37 = .ok (.bipush 6, 2) := by decide +kernel
theorem dX9_same_39 : decode cX9_same 39 = .ok (.iload_n 1, 1) := by decide +kernel
theorem dX9_same_40 : decode cX9_same 40 = .ok (.imul, 1) := by decide +kernel
theorem dX9_same_41 : decode cX9_same 41 = .ok (.iload_n 2, 1) := by decide +kernel
theorem dX9_same_42 : decode cX9_same 42 = .ok (.iadd, 1) := by decide +kernel
theorem dX9_same_43 : decode cX9_same 43 = .ok (.iaload, 1) := by decide +kernel
theorem dX9_same_44 : decode cX9_same 44 = .ok (.iastore, 1) := by decide +kernel
theorem dX9_same_45 : decode cX9_same 45 = .ok (.aload_n 0, 1) := by decide +kernel
theorem dX9_same_46 : decode cX9_same 46 = .ok (.getfield 90, 3) := by decide +kernel
theorem dX9_same_49 : decode cX9_same 49 = .ok (.iload_n 2, 1) := by decide +kernel
theorem dX9_same_50 : decode cX9_same 50 = .ok (.aload_n 0, 1) := by decide +kernel
theorem dX9_same_51 : decode cX9_same 51 = .ok (.getfield 84, 3) := by decide +kernel
theorem dX9_same_54 : decode cX9_same 54 = .ok (.bipush 6, 2) := by decide +kernel
theorem dX9_same_56 : decode cX9_same 56 = .ok (.iload_n 1, 1) := by decide +kernel
theorem dX9_same_57 : decode cX9_same 57 = .ok (.imul, 1) := by decide +kernel
theorem dX9_same_58 : decode cX9_same 58 = .ok (.iload_n 2, 1) := by decide +kernel
theorem dX9_same_59 : decode cX9_same 59 = .ok (.iadd, 1) := by decide +kernel
theorem dX9_same_60 : decode cX9_same 60 = .ok (.iaload, 1) := by decide +kernel
theorem dX9_same_61 : decode cX9_same 61 = .ok (.iastore, 1) := by decide +kernel
theorem dX9_same_62 : decode cX9_same 62 = .ok (.iinc 2 1, 3) := by decide +kernel
theorem dX9_same_65 : decode cX9_same 65 = .ok (.goto (-47), 3) := by decide +kernel
theorem dX9_same_68 : decode cX9_same 68 = .ok (.aload_n 0, 1) := by decide +kernel
theorem dX9_same_69 : decode cX9_same 69 = .ok (.aload_n 0, 1) := by decide +kernel
theorem dX9_same_70 : decode cX9_same 70 = .ok (.getfield 42, 3) := by decide +kernel
theorem dX9_same_73 : decode cX9_same 73 = .ok (.aload_n 0, 1) := by decide +kernel
theorem dX9_same_74 : decode cX9_same 74 = .ok (.getfield 87, 3) := by decide +kernel
theorem dX9_same_77 : decode cX9_same 77 = .ok (.aload_n 0, 1) := by decide +kernel
theorem dX9_same_78 : decode cX9_same 78 = .ok (.getfield 90, 3) := by decide +kernel
theorem dX9_same_81 : decode cX9_same 81 = .ok (.aload_n 0, 1) := by decide +kernel
theorem dX9_same_82 : decode cX9_same 82 = .ok (.getfield 78, 3) := by decide +kernel
theorem dX9_same_85 : decode cX9_same 85 = .ok (.iload_n 1, 1) := by decide +kernel
theorem dX9_same_86 : decode cX9_same 86 = .ok (.iaload, 1) := by decide +kernel
theorem dX9_same_87 : decode cX9_same 87 = .ok (.invokevirtual 153, 3) := by decide +kernel
theorem dX9_same_90 : decode cX9_same 90 = .ok (.iconst 1, 1) := by decide +kernel
theorem dX9_same_91 : decode cX9_same 91 = .ok (.istore_n 2, 1) := by decide +kernel
theorem dX9_same_92 : decode cX9_same 92 = .ok (.iconst 1, 1) := by decide +kernel
theorem dX9_same_93 : decode cX9_same 93 = .ok (.istore_n 3, 1) := by decide +kernel
theorem dX9_same_94 : decode cX9_same 94 = .ok (.iconst 0, 1) := by decide +kernel
theorem dX9_same_95 : decode cX9_same 95 = .ok (.istore 4, 2) := by decide +kernel
theorem dX9_same_97 : decode cX9_same 97 = .ok (.iload 4, 2) := by decide +kernel
theorem dX9_same_99 : decode cX9_same 99 = .ok (.sipush 19700, 3) := by decide +kernel
theorem dX9_same_102 : decode cX9_same 102 = .ok (.if_icmp .ge 107, 3) := by decide +kernel
theorem dX9_same_105 : decode cX9_same 105 = .ok (.iload_n 2, 1) := by decide +kernel
theorem dX9_same_106 : decode cX9_same 106 = .ok (.ifCond .ne 7, 3) := by decide +kernel
theorem dX9_same_109 : decode cX9_same 109 = .ok (.iload_n 3, 1) := by decide +kernel
theorem dX9_same_110 : decode cX9_same 110 = .ok (.ifCond .eq 99, 3) := by decide +kernel
theorem dX9_same_113 : decode cX9_same 113 = .ok (.iload_n 2, 1) := by decide +kernel
theorem dX9_same_114 : decode cX9_same 114 = .ok (.ifCond .eq 40, 3) := by decide +kernel
theorem dX9_same_117 : decode cX9_same 117 = .ok (.aload_n 0, 1) := by decide +kernel
theorem dX9_same_118 : decode cX9_same 118 = .ok (.getfield 39, 3) := by decide +kernel
theorem dX9_same_121 : decode cX9_same 121 = .ok (.iload 4, 2) := by decide +kernel
theorem dX9_same_123 : decode cX9_same 123 = .ok (.iaload, 1) := by decide +kernel
theorem dX9_same_124 : decode cX9_same 124 = .ok (.ifCond .ne 7, 3) := by decide +kernel
theorem dX9_same_127 : decode cX9_same 127 = .ok (.iconst 1, 1) := by decide +kernel
theorem dX9_same_128 : decode cX9_same 128 = .ok (.goto 4, 3) := by decide +kernel
theorem dX9_same_131 : decode cX9_same 131 = .ok (.iconst 0, 1) := by decide +kernel
theorem dX9_same_132 : decode cX9_same 132 = .ok (.aload_n 0, 1) := by decide +kernel
theorem dX9_same_133 : decode cX9_same 133 = .ok (.getfield 42, 3) := by decide +kernel
theorem dX9_same_136 : decode cX9_same 136 = .ok (.iload 4, 2) := by decide +kernel
theorem dX9_same_138 : decode cX9_same 138 = .ok (.iaload, 1) := by decide +kernel
theorem dX9_same_139 : decode cX9_same 139 = .ok (.ifCond .ne 7, 3) := by decide +kernel
theorem dX9_same_142 : decode cX9_same 142 = .ok (.iconst 1, 1) := by decide +kernel
theorem dX9_same_143 : decode cX9_same 143 = .ok (.goto 4, 3) := by decide +kernel
theorem dX9_same_146 : decode cX9_same 146 = .ok (.iconst 0, 1) := by decide +kernel
theorem dX9_same_147 : decode cX9_same 147 = .ok (.if_icmp .ne 7, 3) := by decide +kernel
theorem dX9_same_150 : decode cX9_same 150 = .ok (.iconst 1, 1) := by decide +kernel
theorem dX9_same_151 : decode cX9_same 151 = .ok (.goto 4, 3) := by decide +kernel
theorem dX9_same_154 : decode cX9_same 154 = .ok (.iconst 0, 1) := by decide +kernel
theorem dX9_same_155 : decode cX9_same 155 = .ok (.istore_n 2, 1) := by decide +kernel
theorem dX9_same_156 : decode cX9_same 156 = .ok (.iload_n 3, 1) := by decide +kernel
theorem dX9_same_157 : decode cX9_same 157 = .ok (.ifCond .eq 44, 3) := by decide +kernel
theorem dX9_same_160 : decode cX9_same 160 = .ok (.aload_n 0, 1) := by decide +kernel
theorem dX9_same_161 : decode cX9_same 161 = .ok (.getfield 39, 3) := by decide +kernel
theorem dX9_same_164 : decode cX9_same 164 = .ok (.iload 4, 2) := by decide +kernel
theorem dX9_same_166 : decode cX9_same 166 = .ok (.iaload, 1) := by decide +kernel
theorem dX9_same_167 : decode cX9_same 167 = .ok (.ifCond .ne 7, 3) := by decide +kernel
theorem dX9_same_170 : decode cX9_same 170 = .ok (.iconst 1, 1) := by decide +kernel
theorem dX9_same_171 : decode cX9_same 171 = .ok (.goto 4, 3) := by decide +kernel
theorem dX9_same_174 : decode cX9_same 174 = .ok (.iconst 0, 1) := by decide +kernel
theorem dX9_same_175 : decode cX9_same 175 = .ok (.aload_n 0, 1) := by decide +kernel
theorem dX9_same_176 : decode cX9_same 176 = .ok (.getfield 42, 3) := by decide +kernel
theorem dX9_same_179 : decode cX9_same 179 = .ok (.aload_n 0, 1) := by decide +kernel
theorem dX9_same_180 : decode cX9_same 180 = .ok (.iload 4, 2) := by decide +kernel
theorem dX9_same_182 : decode cX9_same 182 = .ok (.invokevirtual 249, 3) := by decide +kernel
theorem dX9_same_185 : decode cX9_same 185 = .ok (.iaload, 1) := by decide +kernel
theorem dX9_same_186 : decode cX9_same 186 = .ok (.ifCond .ne 7, 3) := by decide +kernel
theorem dX9_same_189 : decode cX9_same 189 = .ok (.iconst 1, 1) := by decide +kernel
theorem dX9_same_190 : decode cX9_same 190 = .ok (.goto 4, 3) := by decide +kernel
theorem dX9_same_193 : decode cX9_same 193 = .ok (.iconst 0, 1) := by decide +kernel
theorem dX9_same_194 : decode cX9_same 194 = .ok (.if_icmp .ne 7, 3) := by decide +kernel
theorem dX9_same_197 : decode cX9_same 197 = .ok (.iconst 1, 1) := by decide +kernel
theorem dX9_same_198 : decode cX9_same 198 = .ok (.goto 4, 3) := by decide +kernel
theorem dX9_same_201 : decode cX9_same 201 = .ok (.iconst 0, 1) := by decide +kernel
theorem dX9_same_202 : decode cX9_same 202 = .ok (.istore_n 3, 1) := by decide +kernel
theorem dX9_same_203 : decode cX9_same 203 = .ok (.iinc 4 1, 3) := by decide +kernel
theorem dX9_same_206 : decode cX9_same 206 = .ok (.goto (-109), 3) := by decide +kernel
theorem dX9_same_209 : decode cX9_same 209 = .ok (.iload_n 2, 1) := by decide +kernel
theorem dX9_same_210 : decode cX9_same 210 = .ok (.ifCond .eq 7, 3) := by decide +kernel
theorem dX9_same_213 : decode cX9_same 213 = .ok (.iconst 1, 1) := by decide +kernel
theorem dX9_same_214 : decode cX9_same 214 = .ok (.goto 12, 3) := by decide +kernel
theorem dX9_same_217 : decode cX9_same 217 = .ok (.iload_n 3, 1) := by decide +kernel
theorem dX9_same_218 : decode cX9_same 218 = .ok (.ifCond .eq 7, 3) := by decide +kernel
theorem dX9_same_221 : decode cX9_same 221 = .ok (.iconst 2, 1) := by decide +kernel
theorem dX9_same_222 : decode cX9_same 222 = .ok (.goto 4, 3) := by decide +kernel
theorem dX9_same_225 : decode cX9_same 225 = .ok (.iconst 0, 1) := by decide +kernel
theorem dX9_same_226 : decode cX9_same 226 = .ok (.ireturn, 1) := by decide +kernel
theorem dX9_layImage_0 : decode cX9_layImage 0 = .ok (.aload_n 0, 1) := by decide +kernel
theorem dX9_layImage_1 : decode cX9_layImage 1 = .ok (.getfield 99, 3) := by decide +kernel
theorem dX9_layImage_4 : decode cX9_layImage 4 = .ok (.iconst 0, 1) := by decide +kernel
theorem dX9_layImage_5 : decode cX9_layImage 5 = .ok (.iload_n 1, 1) := by decide +kernel
theorem dX9_layImage_6 : decode cX9_layImage 6 = .ok (.iastore, 1) := by decide +kernel
theorem dX9_layImage_7 : decode cX9_layImage 7 = .ok (.aload_n 0, 1) := by decide +kernel
theorem dX9_layImage_8 : decode cX9_layImage 8 = .ok (.getfield 99, 3) := by decide +kernel
theorem dX9_layImage_11 : decode cX9_layImage 11 = .ok (.iconst 1, 1) := by decide +kernel
theorem dX9_layImage_12 : decode cX9_layImage 12 = .ok (.iload_n 2, 1) := by decide +kernel
theorem dX9_layImage_13 : decode cX9_layImage 13 = .ok (.iastore, 1) := by decide +kernel
theorem dX9_layImage_14 : decode cX9_layImage 14 = .ok (.aload_n 0, 1) := by decide +kernel
theorem dX9_layImage_15 : decode cX9_layImage 15 = .ok (.getfield 99, 3) := by decide +kernel
theorem dX9_layImage_18 : decode cX9_layImage 18 = .ok (.iconst 2, 1) := by decide +kernel
theorem dX9_layImage_19 : decode cX9_layImage 19 = .ok (.iload_n 3, 1) := by decide +kernel
theorem dX9_layImage_20 : decode cX9_layImage 20 = .ok (.iastore, 1) := by decide +kernel
theorem dX9_layImage_21 : decode cX9_layImage 21 = .ok (.iconst 3, 1) := by decide +kernel
theorem dX9_layImage_22 : decode cX9_layImage 22 = .ok (.istore 4, 2) := by decide +kernel
theorem dX9_layImage_24 : decode cX9_layImage 24 = .ok (.iload 4, 2) := by decide +kernel
theorem dX9_layImage_26 : decode cX9_layImage 26 = .ok (.aload_n 0, 1) := by decide +kernel
theorem dX9_layImage_27 : decode cX9_layImage 27 = .ok (.getfield 7, 3) := by decide +kernel
theorem dX9_layImage_30 : decode cX9_layImage 30 = .ok (.if_icmp .ge 76, 3) := by decide +kernel
theorem dX9_layImage_33 : decode cX9_layImage 33 = .ok (.aload_n 0, 1) := by decide +kernel
theorem dX9_layImage_34 : decode cX9_layImage 34 = .ok (.getfield 99, 3) := by decide +kernel
theorem dX9_layImage_37 : decode cX9_layImage 37 = .ok (.aload_n 0, 1) := by decide +kernel
theorem dX9_layImage_38 : decode cX9_layImage 38 = .ok (.getfield 13, 3) := by decide +kernel
theorem dX9_layImage_41 : decode cX9_layImage 41 = .ok (.iload 4, 2) := by decide +kernel
theorem dX9_layImage_43 : decode cX9_layImage 43 = .ok (.iaload, 1) := by decide +kernel
theorem dX9_layImage_44 : decode cX9_layImage 44 = .ok (.iaload, 1) := by decide +kernel
theorem dX9_layImage_45 : decode cX9_layImage 45 = .ok (.istore 5, 2) := by decide +kernel
theorem dX9_layImage_47 : decode cX9_layImage 47 = .ok (.aload_n 0, 1) := by decide +kernel
theorem dX9_layImage_48 : decode cX9_layImage 48 = .ok (.getfield 99, 3) := by decide +kernel
theorem dX9_layImage_51 : decode cX9_layImage 51 = .ok (.aload_n 0, 1) := by decide +kernel
theorem dX9_layImage_52 : decode cX9_layImage 52 = .ok (.getfield 17, 3) := by decide +kernel
theorem dX9_layImage_55 : decode cX9_layImage 55 = .ok (.iload 4, 2) := by decide +kernel
theorem dX9_layImage_57 : decode cX9_layImage 57 = .ok (.iaload, 1) := by decide +kernel
theorem dX9_layImage_58 : decode cX9_layImage 58 = .ok (.iaload, 1) := by decide +kernel
theorem dX9_layImage_59 : decode cX9_layImage 59 = .ok (.istore 6, 2) := by decide +kernel
theorem dX9_layImage_61 : decode cX9_layImage 61 = .ok (.aload_n 0, 1) := by decide +kernel
theorem dX9_layImage_62 : decode cX9_layImage 62 = .ok (.getfield 99, 3) := by decide +kernel
theorem dX9_layImage_65 : decode cX9_layImage 65 = .ok (.iload 4, 2) := by decide +kernel
theorem dX9_layImage_67 : decode cX9_layImage 67 = .ok (.iload 5, 2) := by decide +kernel
theorem dX9_layImage_69 : decode cX9_layImage 69 = .ok (.bipush (-9), 2) := by decide +kernel
theorem dX9_layImage_71 : decode cX9_layImage 71 = .ok (.if_icmp .eq 10, 3) := by decide +kernel
theorem dX9_layImage_74 : decode cX9_layImage 74 = .ok (.iload 6, 2) := by decide +kernel
theorem dX9_layImage_76 : decode cX9_layImage 76 = .ok (.bipush (-9), 2) := by decide +kernel
theorem dX9_layImage_78 : decode cX9_layImage 78 = .ok (.if_icmp .ne 8, 3) := by decide +kernel
theorem dX9_layImage_81 : decode cX9_layImage 81 = .ok (.bipush (-9), 2) := by decide +kernel
theorem dX9_layImage_83 : decode cX9_layImage 83 = .ok (.goto 16, 3) := by decide +kernel
theorem dX9_layImage_86 : decode cX9_layImage 86 = .ok (.aload_n 0, 1) := by decide +kernel
theorem dX9_layImage_87 : decode cX9_layImage 87 = .ok (.getfield 20, 3) := by decide +kernel
theorem dX9_layImage_90 : decode cX9_layImage 90 = .ok (.bipush 20, 2) := by decide +kernel
theorem dX9_layImage_92 : decode cX9_layImage 92 = .ok (.iload 5, 2) := by decide +kernel
theorem dX9_layImage_94 : decode cX9_layImage 94 = .ok (.imul, 1) := by decide +kernel
theorem dX9_layImage_95 : decode cX9_layImage 95 = .ok (.iload 6, 2) := by decide +kernel
theorem dX9_layImage_97 : decode cX9_layImage 97 = .ok (.iadd, 1) := by decide +kernel
theorem dX9_layImage_98 : decode cX9_layImage 98 = .ok (.iaload, 1) := by decide +kernel
theorem dX9_layImage_99 : decode cX9_layImage 99 = .ok (.iastore, 1) := by decide +kernel
theorem dX9_layImage_100 : decode cX9_layImage 100 = .ok (.iinc 4 1, 3) := by decide +kernel
theorem dX9_layImage_103 : decode cX9_layImage 103 = .ok (.goto (-79), 3) := by decide +kernel
theorem dX9_layImage_106 : decode cX9_layImage 106 = .ok (.return_, 1) := by decide +kernel
theorem dX9_layLaws_0 : decode cX9_layLaws 0 = .ok (.iconst 0, 1) := by decide +kernel
theorem dX9_layLaws_1 : decode cX9_layLaws 1 = .ok (.istore_n 1, 1) := by decide +kernel
theorem dX9_layLaws_2 : decode cX9_layLaws 2 = .ok (.iload_n 1, 1) := by decide +kernel
theorem dX9_layLaws_3 : decode cX9_layLaws 3 = .ok (.sipush 8000, 3) := by decide +kernel
theorem dX9_layLaws_6 : decode cX9_layLaws 6 = .ok (.if_icmp .ge 157, 3) := by decide +kernel
theorem dX9_layLaws_9 : decode cX9_layLaws 9 = .ok (.iload_n 1, 1) := by decide +kernel
theorem dX9_layLaws_10 : decode cX9_layLaws 10 = .ok (.sipush 400, 3) := by decide +kernel
theorem dX9_layLaws_13 : decode cX9_layLaws 13 = .ok (.idiv, 1) := by decide +kernel
theorem dX9_layLaws_14 : decode cX9_layLaws 14 = .ok (.istore_n 2, 1) := by decide +kernel
theorem dX9_layLaws_15 : decode cX9_layLaws 15 = .ok (.iload_n 1, 1) := by decide +kernel
theorem dX9_layLaws_16 : decode cX9_layLaws 16 = .ok (.bipush 20, 2) := by decide +kernel
theorem dX9_layLaws_18 : decode cX9_layLaws 18 = .ok (.idiv, 1) := by decide +kernel
theorem dX9_layLaws_19 : decode cX9_layLaws 19 = .ok (.bipush 20, 2) := by decide +kernel
theorem dX9_layLaws_21 : decode cX9_layLaws 21 = .ok (.irem, 1) := by decide +kernel
theorem dX9_layLaws_22 : decode cX9_layLaws 22 = .ok (.istore_n 3, 1) := by decide +kernel
theorem dX9_layLaws_23 : decode cX9_layLaws 23 = .ok (.iload_n 1, 1) := by decide +kernel
theorem dX9_layLaws_24 : decode cX9_layLaws 24 = .ok (.bipush 20, 2) := by decide +kernel
theorem dX9_layLaws_26 : decode cX9_layLaws 26 = .ok (.irem, 1) := by decide +kernel
theorem dX9_layLaws_27 : decode cX9_layLaws 27 = .ok (.istore 4, 2) := by decide +kernel
theorem dX9_layLaws_29 : decode cX9_layLaws 29 = .ok (.iload_n 2, 1) := by decide +kernel
theorem dX9_layLaws_30 : decode cX9_layLaws 30 = .ok (.aload_n 0, 1) := by decide +kernel
theorem dX9_layLaws_31 : decode cX9_layLaws 31 = .ok (.getfield 7, 3) := by decide +kernel
theorem dX9_layLaws_34 : decode cX9_layLaws 34 = .ok (.if_icmp .ge 123, 3) := by decide +kernel
theorem dX9_layLaws_37 : decode cX9_layLaws 37 = .ok (.iload_n 3, 1) := by decide +kernel
theorem dX9_layLaws_38 : decode cX9_layLaws 38 = .ok (.aload_n 0, 1) := by decide +kernel
theorem dX9_layLaws_39 : decode cX9_layLaws 39 = .ok (.getfield 7, 3) := by decide +kernel
theorem dX9_layLaws_42 : decode cX9_layLaws 42 = .ok (.if_icmp .ge 115, 3) := by decide +kernel
theorem dX9_layLaws_45 : decode cX9_layLaws 45 = .ok (.iload 4, 2) := by decide +kernel
theorem dX9_layLaws_47 : decode cX9_layLaws 47 = .ok (.aload_n 0, 1) := by decide +kernel
theorem dX9_layLaws_48 : decode cX9_layLaws 48 = .ok (.getfield 7, 3) := by decide +kernel
theorem dX9_layLaws_51 : decode cX9_layLaws 51 = .ok (.if_icmp .ge 106, 3) := by decide +kernel
theorem dX9_layLaws_54 : decode cX9_layLaws 54 = .ok (.aload_n 0, 1) := by decide +kernel
theorem dX9_layLaws_55 : decode cX9_layLaws 55 = .ok (.getfield 113, 3) := by decide +kernel
theorem dX9_layLaws_58 : decode cX9_layLaws 58 = .ok (.ifCond .le 99, 3) := by decide +kernel
theorem dX9_layLaws_61 : decode cX9_layLaws 61 = .ok (.aload_n 0, 1) := by decide +kernel
theorem dX9_layLaws_62 : decode cX9_layLaws 62 = .ok (.iload_n 2, 1) := by decide +kernel
theorem dX9_layLaws_63 : decode cX9_layLaws 63 = .ok (.iload_n 3, 1) := by decide +kernel
theorem dX9_layLaws_64 : decode cX9_layLaws 64 = .ok (.iload 4, 2) := by decide +kernel
theorem dX9_layLaws_66 : decode cX9_layLaws 66 = .ok (.invokevirtual 252, 3) := by decide +kernel
theorem dX9_layLaws_69 : decode cX9_layLaws 69 = .ok (.iconst 0, 1) := by decide +kernel
theorem dX9_layLaws_70 : decode cX9_layLaws 70 = .ok (.istore 5, 2) := by decide +kernel
theorem dX9_layLaws_72 : decode cX9_layLaws 72 = .ok (.iload 5, 2) := by decide +kernel
theorem dX9_layLaws_74 : decode cX9_layLaws 74 = .ok (.aload_n 0, 1) := by decide +kernel
theorem dX9_layLaws_75 : decode cX9_layLaws 75 = .ok (.getfield 113, 3) := by decide +kernel
theorem dX9_layLaws_78 : decode cX9_layLaws 78 = .ok (.if_icmp .ge 79, 3) := by decide +kernel
theorem dX9_layLaws_81 : decode cX9_layLaws 81 = .ok (.aload_n 0, 1) := by decide +kernel
theorem dX9_layLaws_82 : decode cX9_layLaws 82 = .ok (.getfield 99, 3) := by decide +kernel
theorem dX9_layLaws_85 : decode cX9_layLaws 85 = .ok (.aload_n 0, 1) := by decide +kernel
theorem dX9_layLaws_86 : decode cX9_layLaws 86 = .ok (.getfield 23, 3) := by decide +kernel
theorem dX9_layLaws_89 : decode cX9_layLaws 89 = .ok (.iload 5, 2) := by decide +kernel
theorem dX9_layLaws_91 : decode cX9_layLaws 91 = .ok (.iaload, 1) := by decide +kernel
theorem dX9_layLaws_92 : decode cX9_layLaws 92 = .ok (.iaload, 1) := by decide +kernel
theorem dX9_layLaws_93 : decode cX9_layLaws 93 = .ok (.istore 6, 2) := by decide +kernel
theorem dX9_layLaws_95 : decode cX9_layLaws 95 = .ok (.aload_n 0, 1) := by decide +kernel
theorem dX9_layLaws_96 : decode cX9_layLaws 96 = .ok (.getfield 99, 3) := by decide +kernel
theorem dX9_layLaws_99 : decode cX9_layLaws 99 = .ok (.aload_n 0, 1) := by decide +kernel
theorem dX9_layLaws_100 : decode cX9_layLaws 100 = .ok (.getfield 26, 3) := by decide +kernel
theorem dX9_layLaws_103 : decode cX9_layLaws 103 = .ok (.iload 5, 2) := by decide +kernel
theorem dX9_layLaws_105 : decode cX9_layLaws 105 = .ok (.iaload, 1) := by decide +kernel
theorem dX9_layLaws_106 : decode cX9_layLaws 106 = .ok (.iaload, 1) := by decide +kernel
theorem dX9_layLaws_107 : decode cX9_layLaws 107 = .ok (.istore 7, 2) := by decide +kernel
theorem dX9_layLaws_109 : decode cX9_layLaws 109 = .ok (.iload 6, 2) := by decide +kernel
theorem dX9_layLaws_111 : decode cX9_layLaws 111 = .ok (.bipush (-9), 2) := by decide +kernel
theorem dX9_layLaws_113 : decode cX9_layLaws 113 = .ok (.if_icmp .eq 38, 3) := by decide +kernel
theorem dX9_layLaws_116 : decode cX9_layLaws 116 = .ok (.iload 7, 2) := by decide +kernel
theorem dX9_layLaws_118 : decode cX9_layLaws 118 = .ok (.bipush (-9), 2) := by decide +kernel
theorem dX9_layLaws_120 : decode cX9_layLaws 120 = .ok (.if_icmp .eq 31, 3) := by decide +kernel
theorem dX9_layLaws_123 : decode cX9_layLaws 123 = .ok (.aload_n 0, 1) := by decide +kernel
theorem dX9_layLaws_124 : decode cX9_layLaws 124 = .ok (.getfield 102, 3) := by decide +kernel
theorem dX9_layLaws_127 : decode cX9_layLaws 127 = .ok (.bipush 20, 2) := by decide +kernel
theorem dX9_layLaws_129 : decode cX9_layLaws 129 = .ok (.iload 6, 2) := by decide +kernel
theorem dX9_layLaws_131 : decode cX9_layLaws 131 = .ok (.imul, 1) := by decide +kernel
theorem dX9_layLaws_132 : decode cX9_layLaws 132 = .ok (.iload 7, 2) := by decide +kernel
theorem dX9_layLaws_134 : decode cX9_layLaws 134 = .ok (.iadd, 1) := by decide +kernel
theorem dX9_layLaws_135 : decode cX9_layLaws 135 = .ok (.iconst 1, 1) := by decide +kernel
theorem dX9_layLaws_136 : decode cX9_layLaws 136 = .ok (.bastore, 1) := by decide +kernel
theorem dX9_layLaws_137 : decode cX9_layLaws 137 = .ok (.aload_n 0, 1) := by decide +kernel
theorem dX9_layLaws_138 : decode cX9_layLaws 138 = .ok (.getfield 102, 3) := by decide +kernel
theorem dX9_layLaws_141 : decode cX9_layLaws 141 = .ok (.bipush 20, 2) := by decide +kernel
theorem dX9_layLaws_143 : decode cX9_layLaws 143 = .ok (.iload 7, 2) := by decide +kernel
theorem dX9_layLaws_145 : decode cX9_layLaws 145 = .ok (.imul, 1) := by decide +kernel
theorem dX9_layLaws_146 : decode cX9_layLaws 146 = .ok (.iload 6, 2) := by decide +kernel
theorem dX9_layLaws_148 : decode cX9_layLaws 148 = .ok (.iadd, 1) := by decide +kernel
theorem dX9_layLaws_149 : decode cX9_layLaws 149 = .ok (.iconst 1, 1) := by decide +kernel
theorem dX9_layLaws_150 : decode cX9_layLaws 150 = .ok (.bastore, 1) := by decide +kernel
theorem dX9_layLaws_151 : decode cX9_layLaws 151 = .ok (.iinc 5 1, 3) := by decide +kernel
theorem dX9_layLaws_154 : decode cX9_layLaws 154 = .ok (.goto (-82), 3) := by decide +kernel
theorem dX9_layLaws_157 : decode cX9_layLaws 157 = .ok (.iinc 1 1, 3) := by decide +kernel
theorem dX9_layLaws_160 : decode cX9_layLaws 160 = .ok (.goto (-158), 3) := by decide +kernel
theorem dX9_layLaws_163 : decode cX9_layLaws 163 = .ok (.return_, 1) := by decide +kernel
theorem dX9_layParts_0 : decode cX9_layParts 0 = .ok (.iconst 3, 1) := by decide +kernel
theorem dX9_layParts_1 : decode cX9_layParts 1 = .ok (.istore_n 1, 1) := by decide +kernel
theorem dX9_layParts_2 : decode cX9_layParts 2 = .ok (.iload_n 1, 1) := by decide +kernel
theorem dX9_layParts_3 : decode cX9_layParts 3 = .ok (.aload_n 0, 1) := by decide +kernel
theorem dX9_layParts_4 : decode cX9_layParts 4 = .ok (.getfield 7, 3) := by decide +kernel
theorem dX9_layParts_7 : decode cX9_layParts 7 = .ok (.if_icmp .ge 115, 3) := by decide +kernel
theorem dX9_layParts_10 : decode cX9_layParts 10 = .ok (.iconst 3, 1) := by decide +kernel
theorem dX9_layParts_11 : decode cX9_layParts 11 = .ok (.istore_n 2, 1) := by decide +kernel
theorem dX9_layParts_12 : decode cX9_layParts 12 = .ok (.iload_n 2, 1) := by decide +kernel
theorem dX9_layParts_13 : decode cX9_layParts 13 = .ok (.aload_n 0, 1) := by decide +kernel
theorem dX9_layParts_14 : decode cX9_layParts 14 = .ok (.getfield 7, 3) := by decide +kernel
theorem dX9_layParts_17 : decode cX9_layParts 17 = .ok (.if_icmp .ge 99, 3) := by decide +kernel
theorem dX9_layParts_20 : decode cX9_layParts 20 = .ok (.aload_n 0, 1) := by decide +kernel
theorem dX9_layParts_21 : decode cX9_layParts 21 = .ok (.getfield 96, 3) := by decide +kernel
theorem dX9_layParts_24 : decode cX9_layParts 24 = .ok (.aload_n 0, 1) := by decide +kernel
theorem dX9_layParts_25 : decode cX9_layParts 25 = .ok (.getfield 13, 3) := by decide +kernel
theorem dX9_layParts_28 : decode cX9_layParts 28 = .ok (.iload_n 1, 1) := by decide +kernel
theorem dX9_layParts_29 : decode cX9_layParts 29 = .ok (.iaload, 1) := by decide +kernel
theorem dX9_layParts_30 : decode cX9_layParts 30 = .ok (.iaload, 1) := by decide +kernel
theorem dX9_layParts_31 : decode cX9_layParts 31 = .ok (.aload_n 0, 1) := by decide +kernel
theorem dX9_layParts_32 : decode cX9_layParts 32 = .ok (.getfield 96, 3) := by decide +kernel
theorem dX9_layParts_35 : decode cX9_layParts 35 = .ok (.aload_n 0, 1) := by decide +kernel
theorem dX9_layParts_36 : decode cX9_layParts 36 = .ok (.getfield 13, 3) := by decide +kernel
theorem dX9_layParts_39 : decode cX9_layParts 39 = .ok (.iload_n 2, 1) := by decide +kernel
theorem dX9_layParts_40 : decode cX9_layParts 40 = .ok (.iaload, 1) := by decide +kernel
theorem dX9_layParts_41 : decode cX9_layParts 41 = .ok (.iaload, 1) := by decide +kernel
theorem dX9_layParts_42 : decode cX9_layParts 42 = .ok (.if_icmp .ne 32, 3) := by decide +kernel
theorem dX9_layParts_45 : decode cX9_layParts 45 = .ok (.aload_n 0, 1) := by decide +kernel
theorem dX9_layParts_46 : decode cX9_layParts 46 = .ok (.getfield 96, 3) := by decide +kernel
theorem dX9_layParts_49 : decode cX9_layParts 49 = .ok (.aload_n 0, 1) := by decide +kernel
theorem dX9_layParts_50 : decode cX9_layParts 50 = .ok (.getfield 17, 3) := by decide +kernel
theorem dX9_layParts_53 : decode cX9_layParts 53 = .ok (.iload_n 1, 1) := by decide +kernel
theorem dX9_layParts_54 : decode cX9_layParts 54 = .ok (.iaload, 1) := by decide +kernel
theorem dX9_layParts_55 : decode cX9_layParts 55 = .ok (.iaload, 1) := by decide +kernel
theorem dX9_layParts_56 : decode cX9_layParts 56 = .ok (.aload_n 0, 1) := by decide +kernel
theorem dX9_layParts_57 : decode cX9_layParts 57 = .ok (.getfield 96, 3) := by decide +kernel
theorem dX9_layParts_60 : decode cX9_layParts 60 = .ok (.aload_n 0, 1) := by decide +kernel
theorem dX9_layParts_61 : decode cX9_layParts 61 = .ok (.getfield 17, 3) := by decide +kernel
theorem dX9_layParts_64 : decode cX9_layParts 64 = .ok (.iload_n 2, 1) := by decide +kernel
theorem dX9_layParts_65 : decode cX9_layParts 65 = .ok (.iaload, 1) := by decide +kernel
theorem dX9_layParts_66 : decode cX9_layParts 66 = .ok (.iaload, 1) := by decide +kernel
theorem dX9_layParts_67 : decode cX9_layParts 67 = .ok (.if_icmp .ne 7, 3) := by decide +kernel
theorem dX9_layParts_70 : decode cX9_layParts 70 = .ok (.iconst 1, 1) := by decide +kernel
theorem dX9_layParts_71 : decode cX9_layParts 71 = .ok (.goto 4, 3) := by decide +kernel
theorem dX9_layParts_74 : decode cX9_layParts 74 = .ok (.iconst 0, 1) := by decide +kernel
theorem dX9_layParts_75 : decode cX9_layParts 75 = .ok (.istore_n 3, 1) := by decide +kernel
theorem dX9_layParts_76 : decode cX9_layParts 76 = .ok (.aload_n 0, 1) := by decide +kernel
theorem dX9_layParts_77 : decode cX9_layParts 77 = .ok (.getfield 102, 3) := by decide +kernel
theorem dX9_layParts_80 : decode cX9_layParts 80 = .ok (.bipush 20, 2) := by decide +kernel
theorem dX9_layParts_82 : decode cX9_layParts 82 = .ok (.iload_n 1, 1) := by decide +kernel
theorem dX9_layParts_83 : decode cX9_layParts 83 = .ok (.imul, 1) := by decide +kernel
theorem dX9_layParts_84 : decode cX9_layParts 84 = .ok (.iload_n 2, 1) := by decide +kernel
theorem dX9_layParts_85 : decode cX9_layParts 85 = .ok (.iadd, 1) := by decide +kernel
theorem dX9_layParts_86 : decode cX9_layParts 86 = .ok (.aload_n 0, 1) := by decide +kernel
theorem dX9_layParts_87 : decode cX9_layParts 87 = .ok (.getfield 102, 3) := by decide +kernel
theorem dX9_layParts_90 : decode cX9_layParts 90 = .ok (.bipush 20, 2) := by decide +kernel
theorem dX9_layParts_92 : decode cX9_layParts 92 = .ok (.iload_n 1, 1) := by decide +kernel
theorem dX9_layParts_93 : decode cX9_layParts 93 = .ok (.imul, 1) := by decide +kernel
theorem dX9_layParts_94 : decode cX9_layParts 94 = .ok (.iload_n 2, 1) := by decide +kernel
theorem dX9_layParts_95 : decode cX9_layParts 95 = .ok (.iadd, 1) := by decide +kernel
theorem dX9_layParts_96 : decode cX9_layParts 96 = .ok (.baload, 1) := by decide +kernel
theorem dX9_layParts_97 : decode cX9_layParts 97 = .ok (.ifCond .ne 7, 3) := by decide +kernel
theorem dX9_layParts_100 : decode cX9_layParts 100 = .ok (.iload_n 3, 1) := by decide +kernel
theorem dX9_layParts_101 : decode cX9_layParts 101 = .ok (.ifCond .eq 7, 3) := by decide +kernel
theorem dX9_layParts_104 : decode cX9_layParts 104 = .ok (.iconst 1, 1) := by decide +kernel
theorem dX9_layParts_105 : decode cX9_layParts 105 = .ok (.goto 4, 3) := by decide +kernel
theorem dX9_layParts_108 : decode cX9_layParts 108 = .ok (.iconst 0, 1) := by decide +kernel
theorem dX9_layParts_109 : decode cX9_layParts 109 = .ok (.bastore, 1) := by decide +kernel
theorem dX9_layParts_110 : decode cX9_layParts 110 = .ok (.iinc 2 1, 3) := by decide +kernel
theorem dX9_layParts_113 : decode cX9_layParts 113 = .ok (.goto (-101), 3) := by decide +kernel
theorem dX9_layParts_116 : decode cX9_layParts 116 = .ok (.iinc 1 1, 3) := by decide +kernel
theorem dX9_layParts_119 : decode cX9_layParts 119 = .ok (.goto (-117), 3) := by decide +kernel
theorem dX9_layParts_122 : decode cX9_layParts 122 = .ok (.return_, 1) := by decide +kernel
theorem dX9_joinAll_0 : decode cX9_joinAll 0 = .ok (.iconst 1, 1) := by decide +kernel
theorem dX9_joinAll_1 : decode cX9_joinAll 1 = .ok (.istore_n 1, 1) := by decide +kernel
theorem dX9_joinAll_2 : decode cX9_joinAll 2 = .ok (.iload_n 1, 1) := by decide +kernel
theorem dX9_joinAll_3 : decode cX9_joinAll 3 = .ok (.ifCond .eq 195, 3) := by decide +kernel
theorem dX9_joinAll_6 : decode cX9_joinAll 6 = .ok (.iconst 0, 1) := by decide +kernel
theorem dX9_joinAll_7 : decode cX9_joinAll 7 = .ok (.istore_n 1, 1) := by decide +kernel
theorem dX9_joinAll_8 : decode cX9_joinAll 8 = .ok (.iconst 0, 1) := by decide +kernel
theorem dX9_joinAll_9 : decode cX9_joinAll 9 = .ok (.istore_n 2, 1) := by decide +kernel
theorem dX9_joinAll_10 : decode cX9_joinAll 10 = .ok (.iload_n 2, 1) := by decide +kernel
theorem dX9_joinAll_11 : decode cX9_joinAll 11 = .ok (.sipush 400, 3) := by decide +kernel
theorem dX9_joinAll_14 : decode cX9_joinAll 14 = .ok (.if_icmp .ge 181, 3) := by decide +kernel
theorem dX9_joinAll_17 : decode cX9_joinAll 17 = .ok (.iload_n 2, 1) := by decide +kernel
theorem dX9_joinAll_18 : decode cX9_joinAll 18 = .ok (.bipush 20, 2) := by decide +kernel
theorem dX9_joinAll_20 : decode cX9_joinAll 20 = .ok (.idiv, 1) := by decide +kernel
theorem dX9_joinAll_21 : decode cX9_joinAll 21 = .ok (.istore_n 3, 1) := by decide +kernel
theorem dX9_joinAll_22 : decode cX9_joinAll 22 = .ok (.iload_n 2, 1) := by decide +kernel
theorem dX9_joinAll_23 : decode cX9_joinAll 23 = .ok (.bipush 20, 2) := by decide +kernel
theorem dX9_joinAll_25 : decode cX9_joinAll 25 = .ok (.irem, 1) := by decide +kernel
theorem dX9_joinAll_26 : decode cX9_joinAll 26 = .ok (.istore 4, 2) := by decide +kernel
theorem dX9_joinAll_28 : decode cX9_joinAll 28 = .ok (.iload_n 3, 1) := by decide +kernel
theorem dX9_joinAll_29 : decode cX9_joinAll 29 = .ok (.aload_n 0, 1) := by decide +kernel
theorem dX9_joinAll_30 : decode cX9_joinAll 30 = .ok (.getfield 7, 3) := by decide +kernel
theorem dX9_joinAll_33 : decode cX9_joinAll 33 = .ok (.if_icmp .ge 156, 3) := by decide +kernel
theorem dX9_joinAll_36 : decode cX9_joinAll 36 = .ok (.iload 4, 2) := by decide +kernel
theorem dX9_joinAll_38 : decode cX9_joinAll 38 = .ok (.aload_n 0, 1) := by decide +kernel
theorem dX9_joinAll_39 : decode cX9_joinAll 39 = .ok (.getfield 7, 3) := by decide +kernel
theorem dX9_joinAll_42 : decode cX9_joinAll 42 = .ok (.if_icmp .ge 147, 3) := by decide +kernel
theorem dX9_joinAll_45 : decode cX9_joinAll 45 = .ok (.aload_n 0, 1) := by decide +kernel
theorem dX9_joinAll_46 : decode cX9_joinAll 46 = .ok (.getfield 102, 3) := by decide +kernel
theorem dX9_joinAll_49 : decode cX9_joinAll 49 = .ok (.iload_n 2, 1) := by decide +kernel
theorem dX9_joinAll_50 : decode cX9_joinAll 50 = .ok (.baload, 1) := by decide +kernel
theorem dX9_joinAll_51 : decode cX9_joinAll 51 = .ok (.ifCond .eq 138, 3) := by decide +kernel
theorem dX9_joinAll_54 : decode cX9_joinAll 54 = .ok (.aload_n 0, 1) := by decide +kernel
theorem dX9_joinAll_55 : decode cX9_joinAll 55 = .ok (.getfield 96, 3) := by decide +kernel
theorem dX9_joinAll_58 : decode cX9_joinAll 58 = .ok (.iload_n 3, 1) := by decide +kernel
theorem dX9_joinAll_59 : decode cX9_joinAll 59 = .ok (.iaload, 1) := by decide +kernel
theorem dX9_joinAll_60 : decode cX9_joinAll 60 = .ok (.aload_n 0, 1) := by decide +kernel
theorem dX9_joinAll_61 : decode cX9_joinAll 61 = .ok (.getfield 96, 3) := by decide +kernel
theorem dX9_joinAll_64 : decode cX9_joinAll 64 = .ok (.iload 4, 2) := by decide +kernel
theorem dX9_joinAll_66 : decode cX9_joinAll 66 = .ok (.iaload, 1) := by decide +kernel
theorem dX9_joinAll_67 : decode cX9_joinAll 67 = .ok (.if_icmp .eq 122, 3) := by decide +kernel
theorem dX9_joinAll_70 : decode cX9_joinAll 70 = .ok (.aload_n 0, 1) := by decide +kernel
theorem dX9_joinAll_71 : decode cX9_joinAll 71 = .ok (.getfield 96, 3) := by decide +kernel
theorem dX9_joinAll_74 : decode cX9_joinAll 74 = .ok (.iload_n 3, 1) := by decide +kernel
theorem dX9_joinAll_75 : decode cX9_joinAll 75 = .ok (.iaload, 1) := by decide +kernel
theorem dX9_joinAll_76 : decode cX9_joinAll 76 = .ok (.aload_n 0, 1) := by decide +kernel
theorem dX9_joinAll_77 : decode cX9_joinAll 77 = .ok (.getfield 96, 3) := by decide +kernel
theorem dX9_joinAll_80 : decode cX9_joinAll 80 = .ok (.iload 4, 2) := by decide +kernel
theorem dX9_joinAll_82 : decode cX9_joinAll 82 = .ok (.iaload, 1) := by decide +kernel
theorem dX9_joinAll_83 : decode cX9_joinAll 83 = .ok (.if_icmp .ge 12, 3) := by decide +kernel
theorem dX9_joinAll_86 : decode cX9_joinAll 86 = .ok (.aload_n 0, 1) := by decide +kernel
theorem dX9_joinAll_87 : decode cX9_joinAll 87 = .ok (.getfield 96, 3) := by decide +kernel
theorem dX9_joinAll_90 : decode cX9_joinAll 90 = .ok (.iload_n 3, 1) := by decide +kernel
theorem dX9_joinAll_91 : decode cX9_joinAll 91 = .ok (.iaload, 1) := by decide +kernel
theorem dX9_joinAll_92 : decode cX9_joinAll 92 = .ok (.goto 10, 3) := by decide +kernel
theorem dX9_joinAll_95 : decode cX9_joinAll 95 = .ok (.aload_n 0, 1) := by decide +kernel
theorem dX9_joinAll_96 : decode cX9_joinAll 96 = .ok (.getfield 96, 3) := by decide +kernel
theorem dX9_joinAll_99 : decode cX9_joinAll 99 = .ok (.iload 4, 2) := by decide +kernel
theorem dX9_joinAll_101 : decode cX9_joinAll 101 = .ok (.iaload, 1) := by decide +kernel
theorem dX9_joinAll_102 : decode cX9_joinAll 102 = .ok (.istore 5, 2) := by decide +kernel
theorem dX9_joinAll_104 : decode cX9_joinAll 104 = .ok (.aload_n 0, 1) := by decide +kernel
theorem dX9_joinAll_105 : decode cX9_joinAll 105 = .ok (.getfield 96, 3) := by decide +kernel
theorem dX9_joinAll_108 : decode cX9_joinAll 108 = .ok (.iload_n 3, 1) := by decide +kernel
theorem dX9_joinAll_109 : decode cX9_joinAll 109 = .ok (.iaload, 1) := by decide +kernel
theorem dX9_joinAll_110 : decode cX9_joinAll 110 = .ok (.aload_n 0, 1) := by decide +kernel
theorem dX9_joinAll_111 : decode cX9_joinAll 111 = .ok (.getfield 96, 3) := by decide +kernel
theorem dX9_joinAll_114 : decode cX9_joinAll 114 = .ok (.iload 4, 2) := by decide +kernel
theorem dX9_joinAll_116 : decode cX9_joinAll 116 = .ok (.iaload, 1) := by decide +kernel
theorem dX9_joinAll_117 : decode cX9_joinAll 117 = .ok (.if_icmp .ge 13, 3) := by decide +kernel
theorem dX9_joinAll_120 : decode cX9_joinAll 120 = .ok (.aload_n 0, 1) := by decide +kernel
theorem dX9_joinAll_121 : decode cX9_joinAll 121 = .ok (.getfield 96, 3) := by decide +kernel
theorem dX9_joinAll_124 : decode cX9_joinAll 124 = .ok (.iload 4, 2) := by decide +kernel
theorem dX9_joinAll_126 : decode cX9_joinAll 126 = .ok (.iaload, 1) := by decide +kernel
theorem dX9_joinAll_127 : decode cX9_joinAll 127 = .ok (.goto 9, 3) := by decide +kernel
theorem dX9_joinAll_130 : decode cX9_joinAll 130 = .ok (.aload_n 0, 1) := by decide +kernel
theorem dX9_joinAll_131 : decode cX9_joinAll 131 = .ok (.getfield 96, 3) := by decide +kernel
theorem dX9_joinAll_134 : decode cX9_joinAll 134 = .ok (.iload_n 3, 1) := by decide +kernel
theorem dX9_joinAll_135 : decode cX9_joinAll 135 = .ok (.iaload, 1) := by decide +kernel
theorem dX9_joinAll_136 : decode cX9_joinAll 136 = .ok (.istore 6, 2) := by decide +kernel
theorem dX9_joinAll_138 : decode cX9_joinAll 138 = .ok (.iconst 0, 1) := by decide +kernel
theorem dX9_joinAll_139 : decode cX9_joinAll 139 = .ok (.istore 7, 2) := by decide +kernel
theorem dX9_joinAll_141 : decode cX9_joinAll 141 = .ok (.iload 7, 2) := by decide +kernel
theorem dX9_joinAll_143 : decode cX9_joinAll 143 = .ok (.aload_n 0, 1) := by decide +kernel
theorem dX9_joinAll_144 : decode cX9_joinAll 144 = .ok (.getfield 7, 3) := by decide +kernel
theorem dX9_joinAll_147 : decode cX9_joinAll 147 = .ok (.if_icmp .ge 40, 3) := by decide +kernel
theorem dX9_joinAll_150 : decode cX9_joinAll 150 = .ok (.aload_n 0, 1) := by decide +kernel
theorem dX9_joinAll_151 : decode cX9_joinAll 151 = .ok (.getfield 96, 3) := by decide +kernel
theorem dX9_joinAll_154 : decode cX9_joinAll 154 = .ok (.iload 7, 2) := by decide +kernel
theorem dX9_joinAll_156 : decode cX9_joinAll 156 = .ok (.aload_n 0, 1) := by decide +kernel
theorem dX9_joinAll_157 : decode cX9_joinAll 157 = .ok (.getfield 96, 3) := by decide +kernel
theorem dX9_joinAll_160 : decode cX9_joinAll 160 = .ok (.iload 7, 2) := by decide +kernel
theorem dX9_joinAll_162 : decode cX9_joinAll 162 = .ok (.iaload, 1) := by decide +kernel
theorem dX9_joinAll_163 : decode cX9_joinAll 163 = .ok (.iload 6, 2) := by decide +kernel
theorem dX9_joinAll_165 : decode cX9_joinAll 165 = .ok (.if_icmp .ne 8, 3) := by decide +kernel
theorem dX9_joinAll_168 : decode cX9_joinAll 168 = .ok (.iload 5, 2) := by decide +kernel
theorem dX9_joinAll_170 : decode cX9_joinAll 170 = .ok (.goto 10, 3) := by decide +kernel
theorem dX9_joinAll_173 : decode cX9_joinAll 173 = .ok (.aload_n 0, 1) := by decide +kernel
theorem dX9_joinAll_174 : decode cX9_joinAll 174 = .ok (.getfield 96, 3) := by decide +kernel
theorem dX9_joinAll_177 : decode cX9_joinAll 177 = .ok (.iload 7, 2) := by decide +kernel
theorem dX9_joinAll_179 : decode cX9_joinAll 179 = .ok (.iaload, 1) := by decide +kernel
theorem dX9_joinAll_180 : decode cX9_joinAll 180 = .ok (.iastore, 1) := by decide +kernel
theorem dX9_joinAll_181 : decode cX9_joinAll 181 = .ok (.iinc 7 1, 3) := by decide +kernel
theorem dX9_joinAll_184 : decode cX9_joinAll 184 = .ok (.goto (-43), 3) := by decide +kernel
theorem dX9_joinAll_187 : decode cX9_joinAll 187 = .ok (.iconst 1, 1) := by decide +kernel
theorem dX9_joinAll_188 : decode cX9_joinAll 188 = .ok (.istore_n 1, 1) := by decide +kernel
theorem dX9_joinAll_189 : decode cX9_joinAll 189 = .ok (.iinc 2 1, 3) := by decide +kernel
theorem dX9_joinAll_192 : decode cX9_joinAll 192 = .ok (.goto (-182), 3) := by decide +kernel
theorem dX9_joinAll_195 : decode cX9_joinAll 195 = .ok (.goto (-193), 3) := by decide +kernel
theorem dX9_joinAll_198 : decode cX9_joinAll 198 = .ok (.return_, 1) := by decide +kernel
theorem dX9_layShown_0 : decode cX9_layShown 0 = .ok (.iconst 0, 1) := by decide +kernel
theorem dX9_layShown_1 : decode cX9_layShown 1 = .ok (.istore_n 1, 1) := by decide +kernel
theorem dX9_layShown_2 : decode cX9_layShown 2 = .ok (.iload_n 1, 1) := by decide +kernel
theorem dX9_layShown_3 : decode cX9_layShown 3 = .ok (.bipush 20, 2) := by decide +kernel
theorem dX9_layShown_5 : decode cX9_layShown 5 = .ok (.if_icmp .ge 16, 3) := by decide +kernel
theorem dX9_layShown_8 : decode cX9_layShown 8 = .ok (.aload_n 0, 1) := by decide +kernel
theorem dX9_layShown_9 : decode cX9_layShown 9 = .ok (.getfield 96, 3) := by decide +kernel
theorem dX9_layShown_12 : decode cX9_layShown 12 = .ok (.iload_n 1, 1) := by decide +kernel
theorem dX9_layShown_13 : decode cX9_layShown 13 = .ok (.iload_n 1, 1) := by decide +kernel
theorem dX9_layShown_14 : decode cX9_layShown 14 = .ok (.iastore, 1) := by decide +kernel
theorem dX9_layShown_15 : decode cX9_layShown 15 = .ok (.iinc 1 1, 3) := by decide +kernel
theorem dX9_layShown_18 : decode cX9_layShown 18 = .ok (.goto (-16), 3) := by decide +kernel
theorem dX9_layShown_21 : decode cX9_layShown 21 = .ok (.iconst 0, 1) := by decide +kernel
theorem dX9_layShown_22 : decode cX9_layShown 22 = .ok (.istore_n 1, 1) := by decide +kernel
theorem dX9_layShown_23 : decode cX9_layShown 23 = .ok (.iload_n 1, 1) := by decide +kernel
theorem dX9_layShown_24 : decode cX9_layShown 24 = .ok (.sipush 400, 3) := by decide +kernel
theorem dX9_layShown_27 : decode cX9_layShown 27 = .ok (.if_icmp .ge 39, 3) := by decide +kernel
theorem dX9_layShown_30 : decode cX9_layShown 30 = .ok (.aload_n 0, 1) := by decide +kernel
theorem dX9_layShown_31 : decode cX9_layShown 31 = .ok (.getfield 93, 3) := by decide +kernel
theorem dX9_layShown_34 : decode cX9_layShown 34 = .ok (.iload_n 1, 1) := by decide +kernel
theorem dX9_layShown_35 : decode cX9_layShown 35 = .ok (.iload_n 1, 1) := by decide +kernel
theorem dX9_layShown_36 : decode cX9_layShown 36 = .ok (.bipush 20, 2) := by decide +kernel
theorem dX9_layShown_38 : decode cX9_layShown 38 = .ok (.idiv, 1) := by decide +kernel
theorem dX9_layShown_39 : decode cX9_layShown 39 = .ok (.iload_n 1, 1) := by decide +kernel
theorem dX9_layShown_40 : decode cX9_layShown 40 = .ok (.bipush 20, 2) := by decide +kernel
theorem dX9_layShown_42 : decode cX9_layShown 42 = .ok (.irem, 1) := by decide +kernel
theorem dX9_layShown_43 : decode cX9_layShown 43 = .ok (.if_icmp .ne 7, 3) := by decide +kernel
theorem dX9_layShown_46 : decode cX9_layShown 46 = .ok (.iconst 0, 1) := by decide +kernel
theorem dX9_layShown_47 : decode cX9_layShown 47 = .ok (.goto 5, 3) := by decide +kernel
theorem dX9_layShown_50 : decode cX9_layShown 50 = .ok (.bipush (-9), 2) := by decide +kernel
theorem dX9_layShown_52 : decode cX9_layShown 52 = .ok (.iastore, 1) := by decide +kernel
theorem dX9_layShown_53 : decode cX9_layShown 53 = .ok (.aload_n 0, 1) := by decide +kernel
theorem dX9_layShown_54 : decode cX9_layShown 54 = .ok (.getfield 102, 3) := by decide +kernel
theorem dX9_layShown_57 : decode cX9_layShown 57 = .ok (.iload_n 1, 1) := by decide +kernel
theorem dX9_layShown_58 : decode cX9_layShown 58 = .ok (.iconst 0, 1) := by decide +kernel
theorem dX9_layShown_59 : decode cX9_layShown 59 = .ok (.bastore, 1) := by decide +kernel
theorem dX9_layShown_60 : decode cX9_layShown 60 = .ok (.iinc 1 1, 3) := by decide +kernel
theorem dX9_layShown_63 : decode cX9_layShown 63 = .ok (.goto (-40), 3) := by decide +kernel
theorem dX9_layShown_66 : decode cX9_layShown 66 = .ok (.aload_n 0, 1) := by decide +kernel
theorem dX9_layShown_67 : decode cX9_layShown 67 = .ok (.invokevirtual 255, 3) := by decide +kernel
theorem dX9_layShown_70 : decode cX9_layShown 70 = .ok (.aload_n 0, 1) := by decide +kernel
theorem dX9_layShown_71 : decode cX9_layShown 71 = .ok (.iconst 0, 1) := by decide +kernel
theorem dX9_layShown_72 : decode cX9_layShown 72 = .ok (.putfield 258, 3) := by decide +kernel
theorem dX9_layShown_75 : decode cX9_layShown 75 = .ok (.iconst 1, 1) := by decide +kernel
theorem dX9_layShown_76 : decode cX9_layShown 76 = .ok (.istore_n 1, 1) := by decide +kernel
theorem dX9_layShown_77 : decode cX9_layShown 77 = .ok (.iload_n 1, 1) := by decide +kernel
theorem dX9_layShown_78 : decode cX9_layShown 78 = .ok (.ifCond .eq 127, 3) := by decide +kernel
theorem dX9_layShown_81 : decode cX9_layShown 81 = .ok (.iconst 0, 1) := by decide +kernel
theorem dX9_layShown_82 : decode cX9_layShown 82 = .ok (.istore_n 1, 1) := by decide +kernel
theorem dX9_layShown_83 : decode cX9_layShown 83 = .ok (.aload_n 0, 1) := by decide +kernel
theorem dX9_layShown_84 : decode cX9_layShown 84 = .ok (.invokevirtual 261, 3) := by decide +kernel
theorem dX9_layShown_87 : decode cX9_layShown 87 = .ok (.aload_n 0, 1) := by decide +kernel
theorem dX9_layShown_88 : decode cX9_layShown 88 = .ok (.invokevirtual 264, 3) := by decide +kernel
theorem dX9_layShown_91 : decode cX9_layShown 91 = .ok (.iconst 0, 1) := by decide +kernel
theorem dX9_layShown_92 : decode cX9_layShown 92 = .ok (.istore_n 2, 1) := by decide +kernel
theorem dX9_layShown_93 : decode cX9_layShown 93 = .ok (.iload_n 2, 1) := by decide +kernel
theorem dX9_layShown_94 : decode cX9_layShown 94 = .ok (.sipush 400, 3) := by decide +kernel
theorem dX9_layShown_97 : decode cX9_layShown 97 = .ok (.if_icmp .ge 87, 3) := by decide +kernel
theorem dX9_layShown_100 : decode cX9_layShown 100 = .ok (.iload_n 2, 1) := by decide +kernel
theorem dX9_layShown_101 : decode cX9_layShown 101 = .ok (.bipush 20, 2) := by decide +kernel
theorem dX9_layShown_103 : decode cX9_layShown 103 = .ok (.idiv, 1) := by decide +kernel
theorem dX9_layShown_104 : decode cX9_layShown 104 = .ok (.aload_n 0, 1) := by decide +kernel
theorem dX9_layShown_105 : decode cX9_layShown 105 = .ok (.getfield 7, 3) := by decide +kernel
theorem dX9_layShown_108 : decode cX9_layShown 108 = .ok (.if_icmp .ge 39, 3) := by decide +kernel
theorem dX9_layShown_111 : decode cX9_layShown 111 = .ok (.iload_n 2, 1) := by decide +kernel
theorem dX9_layShown_112 : decode cX9_layShown 112 = .ok (.bipush 20, 2) := by decide +kernel
theorem dX9_layShown_114 : decode cX9_layShown 114 = .ok (.irem, 1) := by decide +kernel
theorem dX9_layShown_115 : decode cX9_layShown 115 = .ok (.aload_n 0, 1) := by decide +kernel
theorem dX9_layShown_116 : decode cX9_layShown 116 = .ok (.getfield 7, 3) := by decide +kernel
theorem dX9_layShown_119 : decode cX9_layShown 119 = .ok (.if_icmp .ge 28, 3) := by decide +kernel
theorem dX9_layShown_122 : decode cX9_layShown 122 = .ok (.aload_n 0, 1) := by decide +kernel
theorem dX9_layShown_123 : decode cX9_layShown 123 = .ok (.getfield 96, 3) := by decide +kernel
theorem dX9_layShown_126 : decode cX9_layShown 126 = .ok (.iload_n 2, 1) := by decide +kernel
theorem dX9_layShown_127 : decode cX9_layShown 127 = .ok (.bipush 20, 2) := by decide +kernel
theorem dX9_layShown_129 : decode cX9_layShown 129 = .ok (.idiv, 1) := by decide +kernel
theorem dX9_layShown_130 : decode cX9_layShown 130 = .ok (.iaload, 1) := by decide +kernel
theorem dX9_layShown_131 : decode cX9_layShown 131 = .ok (.aload_n 0, 1) := by decide +kernel
theorem dX9_layShown_132 : decode cX9_layShown 132 = .ok (.getfield 96, 3) := by decide +kernel
theorem dX9_layShown_135 : decode cX9_layShown 135 = .ok (.iload_n 2, 1) := by decide +kernel
theorem dX9_layShown_136 : decode cX9_layShown 136 = .ok (.bipush 20, 2) := by decide +kernel
theorem dX9_layShown_138 : decode cX9_layShown 138 = .ok (.irem, 1) := by decide +kernel
theorem dX9_layShown_139 : decode cX9_layShown 139 = .ok (.iaload, 1) := by decide +kernel
theorem dX9_layShown_140 : decode cX9_layShown 140 = .ok (.if_icmp .ne 7, 3) := by decide +kernel
theorem dX9_layShown_143 : decode cX9_layShown 143 = .ok (.iconst 1, 1) := by decide +kernel
theorem dX9_layShown_144 : decode cX9_layShown 144 = .ok (.goto 4, 3) := by decide +kernel
theorem dX9_layShown_147 : decode cX9_layShown 147 = .ok (.iconst 0, 1) := by decide +kernel
theorem dX9_layShown_148 : decode cX9_layShown 148 = .ok (.istore_n 3, 1) := by decide +kernel
theorem dX9_layShown_149 : decode cX9_layShown 149 = .ok (.iload_n 3, 1) := by decide +kernel
theorem dX9_layShown_150 : decode cX9_layShown 150 = .ok (.ifCond .eq 28, 3) := by decide +kernel
theorem dX9_layShown_153 : decode cX9_layShown 153 = .ok (.aload_n 0, 1) := by decide +kernel
theorem dX9_layShown_154 : decode cX9_layShown 154 = .ok (.getfield 93, 3) := by decide +kernel
theorem dX9_layShown_157 : decode cX9_layShown 157 = .ok (.iload_n 2, 1) := by decide +kernel
theorem dX9_layShown_158 : decode cX9_layShown 158 = .ok (.iaload, 1) := by decide +kernel
theorem dX9_layShown_159 : decode cX9_layShown 159 = .ok (.bipush (-9), 2) := by decide +kernel
theorem dX9_layShown_161 : decode cX9_layShown 161 = .ok (.if_icmp .ne 17, 3) := by decide +kernel
theorem dX9_layShown_164 : decode cX9_layShown 164 = .ok (.aload_n 0, 1) := by decide +kernel
theorem dX9_layShown_165 : decode cX9_layShown 165 = .ok (.getfield 93, 3) := by decide +kernel
theorem dX9_layShown_168 : decode cX9_layShown 168 = .ok (.iload_n 2, 1) := by decide +kernel
theorem dX9_layShown_169 : decode cX9_layShown 169 = .ok (.aload_n 0, 1) := by decide +kernel
theorem dX9_layShown_170 : decode cX9_layShown 170 = .ok (.getfield 258, 3) := by decide +kernel
theorem dX9_layShown_173 : decode cX9_layShown 173 = .ok (.iconst 1, 1) := by decide +kernel
theorem dX9_layShown_174 : decode cX9_layShown 174 = .ok (.iadd, 1) := by decide +kernel
theorem dX9_layShown_175 : decode cX9_layShown 175 = .ok (.iastore, 1) := by decide +kernel
theorem dX9_layShown_176 : decode cX9_layShown 176 = .ok (.iconst 1, 1) := by decide +kernel
theorem dX9_layShown_177 : decode cX9_layShown 177 = .ok (.istore_n 1, 1) := by decide +kernel
theorem dX9_layShown_178 : decode cX9_layShown 178 = .ok (.iinc 2 1, 3) := by decide +kernel
theorem dX9_layShown_181 : decode cX9_layShown 181 = .ok (.goto (-88), 3) := by decide +kernel
theorem dX9_layShown_184 : decode cX9_layShown 184 = .ok (.aload_n 0, 1) := by decide +kernel
theorem dX9_layShown_185 : decode cX9_layShown 185 = .ok (.dup, 1) := by decide +kernel
theorem dX9_layShown_186 : decode cX9_layShown 186 = .ok (.getfield 258, 3) := by decide +kernel
theorem dX9_layShown_189 : decode cX9_layShown 189 = .ok (.iload_n 1, 1) := by decide +kernel
theorem dX9_layShown_190 : decode cX9_layShown 190 = .ok (.ifCond .eq 7, 3) := by decide +kernel
theorem dX9_layShown_193 : decode cX9_layShown 193 = .ok (.iconst 1, 1) := by decide +kernel
theorem dX9_layShown_194 : decode cX9_layShown 194 = .ok (.goto 4, 3) := by decide +kernel
theorem dX9_layShown_197 : decode cX9_layShown 197 = .ok (.iconst 0, 1) := by decide +kernel
theorem dX9_layShown_198 : decode cX9_layShown 198 = .ok (.iadd, 1) := by decide +kernel
theorem dX9_layShown_199 : decode cX9_layShown 199 = .ok (.putfield 258, 3) := by decide +kernel
theorem dX9_layShown_202 : decode cX9_layShown 202 = .ok (.goto (-125), 3) := by decide +kernel
theorem dX9_layShown_205 : decode cX9_layShown 205 = .ok (.return_, 1) := by decide +kernel
theorem dX9_shown_0 : decode cX9_shown 0 = .ok (.aload_n 0, 1) := by decide +kernel
theorem dX9_shown_1 : decode cX9_shown 1 = .ok (.iload_n 1, 1) := by decide +kernel
theorem dX9_shown_2 : decode cX9_shown 2 = .ok (.invokevirtual 109, 3) := by decide +kernel
theorem dX9_shown_5 : decode cX9_shown 5 = .ok (.ifCond .eq 11, 3) := by decide +kernel
theorem dX9_shown_8 : decode cX9_shown 8 = .ok (.aload_n 0, 1) := by decide +kernel
theorem dX9_shown_9 : decode cX9_shown 9 = .ok (.iload_n 2, 1) := by decide +kernel
theorem dX9_shown_10 : decode cX9_shown 10 = .ok (.invokevirtual 109, 3) := by decide +kernel
theorem dX9_shown_13 : decode cX9_shown 13 = .ok (.ifCond .ne 5, 3) := by decide +kernel
theorem dX9_shown_16 : decode cX9_shown 16 = .ok (.iconst (-1), 1) := by decide +kernel
theorem dX9_shown_17 : decode cX9_shown 17 = .ok (.ireturn, 1) := by decide +kernel
theorem dX9_shown_18 : decode cX9_shown 18 = .ok (.aload_n 0, 1) := by decide +kernel
theorem dX9_shown_19 : decode cX9_shown 19 = .ok (.invokevirtual 267, 3) := by decide +kernel
theorem dX9_shown_22 : decode cX9_shown 22 = .ok (.aload_n 0, 1) := by decide +kernel
theorem dX9_shown_23 : decode cX9_shown 23 = .ok (.getfield 93, 3) := by decide +kernel
theorem dX9_shown_26 : decode cX9_shown 26 = .ok (.bipush 20, 2) := by decide +kernel
theorem dX9_shown_28 : decode cX9_shown 28 = .ok (.iload_n 1, 1) := by decide +kernel
theorem dX9_shown_29 : decode cX9_shown 29 = .ok (.imul, 1) := by decide +kernel
theorem dX9_shown_30 : decode cX9_shown 30 = .ok (.iload_n 2, 1) := by decide +kernel
theorem dX9_shown_31 : decode cX9_shown 31 = .ok (.iadd, 1) := by decide +kernel
theorem dX9_shown_32 : decode cX9_shown 32 = .ok (.iaload, 1) := by decide +kernel
theorem dX9_shown_33 : decode cX9_shown 33 = .ok (.ireturn, 1) := by decide +kernel
theorem dX9_groups_0 : decode cX9_groups 0 = .ok (.aload_n 0, 1) := by decide +kernel
theorem dX9_groups_1 : decode cX9_groups 1 = .ok (.invokevirtual 267, 3) := by decide +kernel
theorem dX9_groups_4 : decode cX9_groups 4 = .ok (.iconst 0, 1) := by decide +kernel
theorem dX9_groups_5 : decode cX9_groups 5 = .ok (.istore_n 1, 1) := by decide +kernel
theorem dX9_groups_6 : decode cX9_groups 6 = .ok (.iconst 0, 1) := by decide +kernel
theorem dX9_groups_7 : decode cX9_groups 7 = .ok (.istore_n 2, 1) := by decide +kernel
theorem dX9_groups_8 : decode cX9_groups 8 = .ok (.iload_n 2, 1) := by decide +kernel
theorem dX9_groups_9 : decode cX9_groups 9 = .ok (.aload_n 0, 1) := by decide +kernel
theorem dX9_groups_10 : decode cX9_groups 10 = .ok (.getfield 7, 3) := by decide +kernel
theorem dX9_groups_13 : decode cX9_groups 13 = .ok (.if_icmp .ge 27, 3) := by decide +kernel
theorem dX9_groups_16 : decode cX9_groups 16 = .ok (.iload_n 1, 1) := by decide +kernel
theorem dX9_groups_17 : decode cX9_groups 17 = .ok (.aload_n 0, 1) := by decide +kernel
theorem dX9_groups_18 : decode cX9_groups 18 = .ok (.getfield 96, 3) := by decide +kernel
theorem dX9_groups_21 : decode cX9_groups 21 = .ok (.iload_n 2, 1) := by decide +kernel
theorem dX9_groups_22 : decode cX9_groups 22 = .ok (.iaload, 1) := by decide +kernel
theorem dX9_groups_23 : decode cX9_groups 23 = .ok (.iload_n 2, 1) := by decide +kernel
theorem dX9_groups_24 : decode cX9_groups 24 = .ok (.if_icmp .ne 7, 3) := by decide +kernel
theorem dX9_groups_27 : decode cX9_groups 27 = .ok (.iconst 1, 1) := by decide +kernel
theorem dX9_groups_28 : decode cX9_groups 28 = .ok (.goto 4, 3) := by decide +kernel
theorem dX9_groups_31 : decode cX9_groups 31 = .ok (.iconst 0, 1) := by decide +kernel
theorem dX9_groups_32 : decode cX9_groups 32 = .ok (.iadd, 1) := by decide +kernel
theorem dX9_groups_33 : decode cX9_groups 33 = .ok (.istore_n 1, 1) := by decide +kernel
theorem dX9_groups_34 : decode cX9_groups 34 = .ok (.iinc 2 1, 3) := by decide +kernel
theorem dX9_groups_37 : decode cX9_groups 37 = .ok (.goto (-29), 3) := by decide +kernel
theorem dX9_groups_40 : decode cX9_groups 40 = .ok (.iload_n 1, 1) := by decide +kernel
theorem dX9_groups_41 : decode cX9_groups 41 = .ok (.ireturn, 1) := by decide +kernel
theorem dX9_first_0 : decode cX9_first 0 = .ok (.aload_n 0, 1) := by decide +kernel
theorem dX9_first_1 : decode cX9_first 1 = .ok (.iload_n 1, 1) := by decide +kernel
theorem dX9_first_2 : decode cX9_first 2 = .ok (.invokevirtual 109, 3) := by decide +kernel
theorem dX9_first_5 : decode cX9_first 5 = .ok (.ifCond .ne 5, 3) := by decide +kernel
theorem dX9_first_8 : decode cX9_first 8 = .ok (.iconst (-1), 1) := by decide +kernel
theorem dX9_first_9 : decode cX9_first 9 = .ok (.ireturn, 1) := by decide +kernel
theorem dX9_first_10 : decode cX9_first 10 = .ok (.aload_n 0, 1) := by decide +kernel
theorem dX9_first_11 : decode cX9_first 11 = .ok (.invokevirtual 267, 3) := by decide +kernel
theorem dX9_first_14 : decode cX9_first 14 = .ok (.aload_n 0, 1) := by decide +kernel
theorem dX9_first_15 : decode cX9_first 15 = .ok (.getfield 96, 3) := by decide +kernel
theorem dX9_first_18 : decode cX9_first 18 = .ok (.iload_n 1, 1) := by decide +kernel
theorem dX9_first_19 : decode cX9_first 19 = .ok (.iaload, 1) := by decide +kernel
theorem dX9_first_20 : decode cX9_first 20 = .ok (.ireturn, 1) := by decide +kernel
theorem dX9_count_0 : decode cX9_count 0 = .ok (.iconst 0, 1) := by decide +kernel
theorem dX9_count_1 : decode cX9_count 1 = .ok (.istore_n 2, 1) := by decide +kernel
theorem dX9_count_2 : decode cX9_count 2 = .ok (.iconst 0, 1) := by decide +kernel
theorem dX9_count_3 : decode cX9_count 3 = .ok (.istore_n 3, 1) := by decide +kernel
theorem dX9_count_4 : decode cX9_count 4 = .ok (.iload_n 3, 1) := by decide +kernel
theorem dX9_count_5 : decode cX9_count 5 = .ok (.aload_n 0, 1) := by decide +kernel
theorem dX9_count_6 : decode cX9_count 6 = .ok (.getfield 187, 3) := by decide +kernel
theorem dX9_count_9 : decode cX9_count 9 = .ok (.if_icmp .ge 26, 3) := by decide +kernel
theorem dX9_count_12 : decode cX9_count 12 = .ok (.iload_n 2, 1) := by decide +kernel
theorem dX9_count_13 : decode cX9_count 13 = .ok (.aload_n 0, 1) := by decide +kernel
theorem dX9_count_14 : decode cX9_count 14 = .ok (.getfield 63, 3) := by decide +kernel
theorem dX9_count_17 : decode cX9_count 17 = .ok (.iload_n 3, 1) := by decide +kernel
theorem dX9_count_18 : decode cX9_count 18 = .ok (.baload, 1) := by decide +kernel
theorem dX9_count_19 : decode cX9_count 19 = .ok (.ifCond .eq 7, 3) := by decide +kernel
theorem dX9_count_22 : decode cX9_count 22 = .ok (.iconst 0, 1) := by decide +kernel
theorem dX9_count_23 : decode cX9_count 23 = .ok (.goto 4, 3) := by decide +kernel
theorem dX9_count_26 : decode cX9_count 26 = .ok (.iconst 1, 1) := by decide +kernel
theorem dX9_count_27 : decode cX9_count 27 = .ok (.iadd, 1) := by decide +kernel
theorem dX9_count_28 : decode cX9_count 28 = .ok (.istore_n 2, 1) := by decide +kernel
theorem dX9_count_29 : decode cX9_count 29 = .ok (.iinc 3 1, 3) := by decide +kernel
theorem dX9_count_32 : decode cX9_count 32 = .ok (.goto (-28), 3) := by decide +kernel
theorem dX9_count_35 : decode cX9_count 35 = .ok (.aload_n 0, 1) := by decide +kernel
theorem dX9_count_36 : decode cX9_count 36 = .ok (.invokevirtual 267, 3) := by decide +kernel
theorem dX9_count_39 : decode cX9_count 39 = .ok (.iload_n 1, 1) := by decide +kernel
theorem dX9_count_40 : decode cX9_count 40 = .ok (.tableswitch 58 0 4 #[36, 41, 46, 51, 53], 36) := by decide +kernel
theorem dX9_count_76 : decode cX9_count 76 = .ok (.aload_n 0, 1) := by decide +kernel
theorem dX9_count_77 : decode cX9_count 77 = .ok (.getfield 7, 3) := by decide +kernel
theorem dX9_count_80 : decode cX9_count 80 = .ok (.ireturn, 1) := by decide +kernel
theorem dX9_count_81 : decode cX9_count 81 = .ok (.aload_n 0, 1) := by decide +kernel
theorem dX9_count_82 : decode cX9_count 82 = .ok (.getfield 113, 3) := by decide +kernel
theorem dX9_count_85 : decode cX9_count 85 = .ok (.ireturn, 1) := by decide +kernel
theorem dX9_count_86 : decode cX9_count 86 = .ok (.aload_n 0, 1) := by decide +kernel
theorem dX9_count_87 : decode cX9_count 87 = .ok (.getfield 187, 3) := by decide +kernel
theorem dX9_count_90 : decode cX9_count 90 = .ok (.ireturn, 1) := by decide +kernel
theorem dX9_count_91 : decode cX9_count 91 = .ok (.iload_n 2, 1) := by decide +kernel
theorem dX9_count_92 : decode cX9_count 92 = .ok (.ireturn, 1) := by decide +kernel
theorem dX9_count_93 : decode cX9_count 93 = .ok (.aload_n 0, 1) := by decide +kernel
theorem dX9_count_94 : decode cX9_count 94 = .ok (.getfield 258, 3) := by decide +kernel
theorem dX9_count_97 : decode cX9_count 97 = .ok (.ireturn, 1) := by decide +kernel
theorem dX9_count_98 : decode cX9_count 98 = .ok (.bipush (-2), 2) := by decide +kernel
theorem dX9_count_100 : decode cX9_count 100 = .ok (.ireturn, 1) := by decide +kernel
theorem dJ6_bitCount_0f7a4_0 : decode cJ6_bitCount_0f7a4 0 = .ok (.iload_n 0, 1) := by decide +kernel
theorem dJ6_bitCount_0f7a4_1 : decode cJ6_bitCount_0f7a4 1 = .ok (.iload_n 0, 1) := by decide +kernel
theorem dJ6_bitCount_0f7a4_2 : decode cJ6_bitCount_0f7a4 2 = .ok (.iconst 1, 1) := by decide +kernel
theorem dJ6_bitCount_0f7a4_3 : decode cJ6_bitCount_0f7a4 3 = .ok (.iushr, 1) := by decide +kernel
theorem dJ6_bitCount_0f7a4_4 : decode cJ6_bitCount_0f7a4 4 = .ok (.ldc_w 265, 3) := by decide +kernel
theorem dJ6_bitCount_0f7a4_7 : decode cJ6_bitCount_0f7a4 7 = .ok (.iand, 1) := by decide +kernel
theorem dJ6_bitCount_0f7a4_8 : decode cJ6_bitCount_0f7a4 8 = .ok (.isub, 1) := by decide +kernel
theorem dJ6_bitCount_0f7a4_9 : decode cJ6_bitCount_0f7a4 9 = .ok (.istore_n 0, 1) := by decide +kernel
theorem dJ6_bitCount_0f7a4_10 : decode cJ6_bitCount_0f7a4 10 = .ok (.iload_n 0, 1) := by decide +kernel
theorem dJ6_bitCount_0f7a4_11 : decode cJ6_bitCount_0f7a4 11 = .ok (.ldc_w 266, 3) := by decide +kernel
theorem dJ6_bitCount_0f7a4_14 : decode cJ6_bitCount_0f7a4 14 = .ok (.iand, 1) := by decide +kernel
theorem dJ6_bitCount_0f7a4_15 : decode cJ6_bitCount_0f7a4 15 = .ok (.iload_n 0, 1) := by decide +kernel
theorem dJ6_bitCount_0f7a4_16 : decode cJ6_bitCount_0f7a4 16 = .ok (.iconst 2, 1) := by decide +kernel
theorem dJ6_bitCount_0f7a4_17 : decode cJ6_bitCount_0f7a4 17 = .ok (.iushr, 1) := by decide +kernel
theorem dJ6_bitCount_0f7a4_18 : decode cJ6_bitCount_0f7a4 18 = .ok (.ldc_w 266, 3) := by decide +kernel
theorem dJ6_bitCount_0f7a4_21 : decode cJ6_bitCount_0f7a4 21 = .ok (.iand, 1) := by decide +kernel
theorem dJ6_bitCount_0f7a4_22 : decode cJ6_bitCount_0f7a4 22 = .ok (.iadd, 1) := by decide +kernel
theorem dJ6_bitCount_0f7a4_23 : decode cJ6_bitCount_0f7a4 23 = .ok (.istore_n 0, 1) := by decide +kernel
theorem dJ6_bitCount_0f7a4_24 : decode cJ6_bitCount_0f7a4 24 = .ok (.iload_n 0, 1) := by decide +kernel
theorem dJ6_bitCount_0f7a4_25 : decode cJ6_bitCount_0f7a4 25 = .ok (.iload_n 0, 1) := by decide +kernel
theorem dJ6_bitCount_0f7a4_26 : decode cJ6_bitCount_0f7a4 26 = .ok (.iconst 4, 1) := by decide +kernel
theorem dJ6_bitCount_0f7a4_27 : decode cJ6_bitCount_0f7a4 27 = .ok (.iushr, 1) := by decide +kernel
theorem dJ6_bitCount_0f7a4_28 : decode cJ6_bitCount_0f7a4 28 = .ok (.iadd, 1) := by decide +kernel
theorem dJ6_bitCount_0f7a4_29 : decode cJ6_bitCount_0f7a4 29 = .ok (.ldc_w 267, 3) := by decide +kernel
theorem dJ6_bitCount_0f7a4_32 : decode cJ6_bitCount_0f7a4 32 = .ok (.iand, 1) := by decide +kernel
theorem dJ6_bitCount_0f7a4_33 : decode cJ6_bitCount_0f7a4 33 = .ok (.istore_n 0, 1) := by decide +kernel
theorem dJ6_bitCount_0f7a4_34 : decode cJ6_bitCount_0f7a4 34 = .ok (.iload_n 0, 1) := by decide +kernel
theorem dJ6_bitCount_0f7a4_35 : decode cJ6_bitCount_0f7a4 35 = .ok (.iload_n 0, 1) := by decide +kernel
theorem dJ6_bitCount_0f7a4_36 : decode cJ6_bitCount_0f7a4 36 = .ok (.bipush 8, 2) := by decide +kernel
theorem dJ6_bitCount_0f7a4_38 : decode cJ6_bitCount_0f7a4 38 = .ok (.iushr, 1) := by decide +kernel
theorem dJ6_bitCount_0f7a4_39 : decode cJ6_bitCount_0f7a4 39 = .ok (.iadd, 1) := by decide +kernel
theorem dJ6_bitCount_0f7a4_40 : decode cJ6_bitCount_0f7a4 40 = .ok (.istore_n 0, 1) := by decide +kernel
theorem dJ6_bitCount_0f7a4_41 : decode cJ6_bitCount_0f7a4 41 = .ok (.iload_n 0, 1) := by decide +kernel
theorem dJ6_bitCount_0f7a4_42 : decode cJ6_bitCount_0f7a4 42 = .ok (.iload_n 0, 1) := by decide +kernel
theorem dJ6_bitCount_0f7a4_43 : decode cJ6_bitCount_0f7a4 43 = .ok (.bipush 16, 2) := by decide +kernel
theorem dJ6_bitCount_0f7a4_45 : decode cJ6_bitCount_0f7a4 45 = .ok (.iushr, 1) := by decide +kernel
theorem dJ6_bitCount_0f7a4_46 : decode cJ6_bitCount_0f7a4 46 = .ok (.iadd, 1) := by decide +kernel
theorem dJ6_bitCount_0f7a4_47 : decode cJ6_bitCount_0f7a4 47 = .ok (.istore_n 0, 1) := by decide +kernel
theorem dJ6_bitCount_0f7a4_48 : decode cJ6_bitCount_0f7a4 48 = .ok (.iload_n 0, 1) := by decide +kernel
theorem dJ6_bitCount_0f7a4_49 : decode cJ6_bitCount_0f7a4 49 = .ok (.bipush 63, 2) := by decide +kernel
theorem dJ6_bitCount_0f7a4_51 : decode cJ6_bitCount_0f7a4 51 = .ok (.iand, 1) := by decide +kernel
theorem dJ6_bitCount_0f7a4_52 : decode cJ6_bitCount_0f7a4 52 = .ok (.ireturn, 1) := by decide +kernel
theorem dJ9_max_7cf53_0 : decode cJ9_max_7cf53 0 = .ok (.iload_n 0, 1) := by decide +kernel
theorem dJ9_max_7cf53_1 : decode cJ9_max_7cf53 1 = .ok (.iload_n 1, 1) := by decide +kernel
theorem dJ9_max_7cf53_2 : decode cJ9_max_7cf53 2 = .ok (.if_icmp .lt 7, 3) := by decide +kernel
theorem dJ9_max_7cf53_5 : decode cJ9_max_7cf53 5 = .ok (.iload_n 0, 1) := by decide +kernel
theorem dJ9_max_7cf53_6 : decode cJ9_max_7cf53 6 = .ok (.goto 4, 3) := by decide +kernel
theorem dJ9_max_7cf53_9 : decode cJ9_max_7cf53 9 = .ok (.iload_n 1, 1) := by decide +kernel
theorem dJ9_max_7cf53_10 : decode cJ9_max_7cf53 10 = .ok (.ireturn, 1) := by decide +kernel
theorem dJ9_min_7cf53_0 : decode cJ9_min_7cf53 0 = .ok (.iload_n 0, 1) := by decide +kernel
theorem dJ9_min_7cf53_1 : decode cJ9_min_7cf53 1 = .ok (.iload_n 1, 1) := by decide +kernel
theorem dJ9_min_7cf53_2 : decode cJ9_min_7cf53 2 = .ok (.if_icmp .gt 7, 3) := by decide +kernel
theorem dJ9_min_7cf53_5 : decode cJ9_min_7cf53 5 = .ok (.iload_n 0, 1) := by decide +kernel
theorem dJ9_min_7cf53_6 : decode cJ9_min_7cf53 6 = .ok (.goto 4, 3) := by decide +kernel
theorem dJ9_min_7cf53_9 : decode cJ9_min_7cf53 9 = .ok (.iload_n 1, 1) := by decide +kernel
theorem dJ9_min_7cf53_10 : decode cJ9_min_7cf53 10 = .ok (.ireturn, 1) := by decide +kernel
theorem dJ7_fill_53178_0 : decode cJ7_fill_53178 0 = .ok (.iconst 0, 1) := by decide +kernel
theorem dJ7_fill_53178_1 : decode cJ7_fill_53178 1 = .ok (.istore_n 2, 1) := by decide +kernel
theorem dJ7_fill_53178_2 : decode cJ7_fill_53178 2 = .ok (.aload_n 0, 1) := by decide +kernel
theorem dJ7_fill_53178_3 : decode cJ7_fill_53178 3 = .ok (.arraylength, 1) := by decide +kernel
theorem dJ7_fill_53178_4 : decode cJ7_fill_53178 4 = .ok (.istore_n 3, 1) := by decide +kernel
theorem dJ7_fill_53178_5 : decode cJ7_fill_53178 5 = .ok (.iload_n 2, 1) := by decide +kernel
theorem dJ7_fill_53178_6 : decode cJ7_fill_53178 6 = .ok (.iload_n 3, 1) := by decide +kernel
theorem dJ7_fill_53178_7 : decode cJ7_fill_53178 7 = .ok (.if_icmp .ge 13, 3) := by decide +kernel
theorem dJ7_fill_53178_10 : decode cJ7_fill_53178 10 = .ok (.aload_n 0, 1) := by decide +kernel
theorem dJ7_fill_53178_11 : decode cJ7_fill_53178 11 = .ok (.iload_n 2, 1) := by decide +kernel
theorem dJ7_fill_53178_12 : decode cJ7_fill_53178 12 = .ok (.iload_n 1, 1) := by decide +kernel
theorem dJ7_fill_53178_13 : decode cJ7_fill_53178 13 = .ok (.iastore, 1) := by decide +kernel
theorem dJ7_fill_53178_14 : decode cJ7_fill_53178 14 = .ok (.iinc 2 1, 3) := by decide +kernel
theorem dJ7_fill_53178_17 : decode cJ7_fill_53178 17 = .ok (.goto (-12), 3) := by decide +kernel
theorem dJ7_fill_53178_20 : decode cJ7_fill_53178 20 = .ok (.return_, 1) := by decide +kernel
theorem dL_law_0 : decode cL_law 0 = .ok (.new 7, 3) := by decide +kernel
theorem dL_law_3 : decode cL_law 3 = .ok (.dup, 1) := by decide +kernel
theorem dL_law_4 : decode cL_law 4 = .ok (.invokespecial 9, 3) := by decide +kernel
theorem dL_law_7 : decode cL_law 7 = .ok (.astore_n 1, 1) := by decide +kernel
theorem dL_law_8 : decode cL_law 8 = .ok (.new 10, 3) := by decide +kernel
theorem dL_law_11 : decode cL_law 11 = .ok (.dup, 1) := by decide +kernel
theorem dL_law_12 : decode cL_law 12 = .ok (.invokespecial 12, 3) := by decide +kernel
theorem dL_law_15 : decode cL_law 15 = .ok (.astore_n 2, 1) := by decide +kernel
theorem dL_law_16 : decode cL_law 16 = .ok (.iconst 0, 1) := by decide +kernel
theorem dL_law_17 : decode cL_law 17 = .ok (.istore_n 3, 1) := by decide +kernel
theorem dL_law_18 : decode cL_law 18 = .ok (.iload_n 3, 1) := by decide +kernel
theorem dL_law_19 : decode cL_law 19 = .ok (.aload_n 0, 1) := by decide +kernel
theorem dL_law_20 : decode cL_law 20 = .ok (.arraylength, 1) := by decide +kernel
theorem dL_law_21 : decode cL_law 21 = .ok (.iconst 5, 1) := by decide +kernel
theorem dL_law_22 : decode cL_law 22 = .ok (.isub, 1) := by decide +kernel
theorem dL_law_23 : decode cL_law 23 = .ok (.if_icmp .gt 1157, 3) := by decide +kernel
theorem dL_law_26 : decode cL_law 26 = .ok (.aload_n 0, 1) := by decide +kernel
theorem dL_law_27 : decode cL_law 27 = .ok (.iload_n 3, 1) := by decide +kernel
theorem dL_law_28 : decode cL_law 28 = .ok (.iaload, 1) := by decide +kernel
theorem dL_law_29 : decode cL_law 29 = .ok (.bipush 63, 2) := by decide +kernel
theorem dL_law_31 : decode cL_law 31 = .ok (.iand, 1) := by decide +kernel
theorem dL_law_32 : decode cL_law 32 = .ok (.tableswitch 1142 0 33 #[152, 185, 234, 267, 280, 329, 362, 395, 428, 461, 484, 517, 560, 613, 636, 659, 692, 735, 768, 801, 834, 883, 916, 929, 942, 955, 978, 991, 1004, 1027, 1050, 1083, 1096, 1119], 152) := by decide +kernel
theorem dL_law_184 : decode cL_law 184 = .ok (.aload_n 1, 1) := by decide +kernel
theorem dL_law_185 : decode cL_law 185 = .ok (.aload_n 0, 1) := by decide +kernel
theorem dL_law_186 : decode cL_law 186 = .ok (.iload_n 3, 1) := by decide +kernel
theorem dL_law_187 : decode cL_law 187 = .ok (.iconst 1, 1) := by decide +kernel
theorem dL_law_188 : decode cL_law 188 = .ok (.iadd, 1) := by decide +kernel
theorem dL_law_189 : decode cL_law 189 = .ok (.iaload, 1) := by decide +kernel
theorem dL_law_190 : decode cL_law 190 = .ok (.aload_n 0, 1) := by decide +kernel
theorem dL_law_191 : decode cL_law 191 = .ok (.iload_n 3, 1) := by decide +kernel
theorem dL_law_192 : decode cL_law 192 = .ok (.iconst 2, 1) := by decide +kernel
theorem dL_law_193 : decode cL_law 193 = .ok (.iadd, 1) := by decide +kernel
theorem dL_law_194 : decode cL_law 194 = .ok (.iaload, 1) := by decide +kernel
theorem dL_law_195 : decode cL_law 195 = .ok (.invokevirtual 13, 3) := by decide +kernel
theorem dL_law_198 : decode cL_law 198 = .ok (.aload_n 2, 1) := by decide +kernel
theorem dL_law_199 : decode cL_law 199 = .ok (.aload_n 0, 1) := by decide +kernel
theorem dL_law_200 : decode cL_law 200 = .ok (.iload_n 3, 1) := by decide +kernel
theorem dL_law_201 : decode cL_law 201 = .ok (.iconst 1, 1) := by decide +kernel
theorem dL_law_202 : decode cL_law 202 = .ok (.iadd, 1) := by decide +kernel
theorem dL_law_203 : decode cL_law 203 = .ok (.iaload, 1) := by decide +kernel
theorem dL_law_204 : decode cL_law 204 = .ok (.aload_n 0, 1) := by decide +kernel
theorem dL_law_205 : decode cL_law 205 = .ok (.iload_n 3, 1) := by decide +kernel
theorem dL_law_206 : decode cL_law 206 = .ok (.iconst 2, 1) := by decide +kernel
theorem dL_law_207 : decode cL_law 207 = .ok (.iadd, 1) := by decide +kernel
theorem dL_law_208 : decode cL_law 208 = .ok (.iaload, 1) := by decide +kernel
theorem dL_law_209 : decode cL_law 209 = .ok (.invokevirtual 17, 3) := by decide +kernel
theorem dL_law_212 : decode cL_law 212 = .ok (.if_icmp .eq 962, 3) := by decide +kernel
theorem dL_law_215 : decode cL_law 215 = .ok (.iconst 0, 1) := by decide +kernel
theorem dL_law_216 : decode cL_law 216 = .ok (.ireturn, 1) := by decide +kernel
theorem dL_law_217 : decode cL_law 217 = .ok (.aload_n 1, 1) := by decide +kernel
theorem dL_law_218 : decode cL_law 218 = .ok (.aload_n 0, 1) := by decide +kernel
theorem dL_law_219 : decode cL_law 219 = .ok (.iload_n 3, 1) := by decide +kernel
theorem dL_law_220 : decode cL_law 220 = .ok (.iconst 1, 1) := by decide +kernel
theorem dL_law_221 : decode cL_law 221 = .ok (.iadd, 1) := by decide +kernel
theorem dL_law_222 : decode cL_law 222 = .ok (.iaload, 1) := by decide +kernel
theorem dL_law_223 : decode cL_law 223 = .ok (.aload_n 0, 1) := by decide +kernel
theorem dL_law_224 : decode cL_law 224 = .ok (.iload_n 3, 1) := by decide +kernel
theorem dL_law_225 : decode cL_law 225 = .ok (.iconst 2, 1) := by decide +kernel
theorem dL_law_226 : decode cL_law 226 = .ok (.iadd, 1) := by decide +kernel
theorem dL_law_227 : decode cL_law 227 = .ok (.iaload, 1) := by decide +kernel
theorem dL_law_228 : decode cL_law 228 = .ok (.ifCond .eq 7, 3) := by decide +kernel
theorem dL_law_231 : decode cL_law 231 = .ok (.iconst 1, 1) := by decide +kernel
theorem dL_law_232 : decode cL_law 232 = .ok (.goto 4, 3) := by decide +kernel
theorem dL_law_235 : decode cL_law 235 = .ok (.iconst 0, 1) := by decide +kernel
theorem dL_law_236 : decode cL_law 236 = .ok (.invokevirtual 18, 3) := by decide +kernel
theorem dL_law_239 : decode cL_law 239 = .ok (.aload_n 2, 1) := by decide +kernel
theorem dL_law_240 : decode cL_law 240 = .ok (.aload_n 0, 1) := by decide +kernel
theorem dL_law_241 : decode cL_law 241 = .ok (.iload_n 3, 1) := by decide +kernel
theorem dL_law_242 : decode cL_law 242 = .ok (.iconst 1, 1) := by decide +kernel
theorem dL_law_243 : decode cL_law 243 = .ok (.iadd, 1) := by decide +kernel
theorem dL_law_244 : decode cL_law 244 = .ok (.iaload, 1) := by decide +kernel
theorem dL_law_245 : decode cL_law 245 = .ok (.aload_n 0, 1) := by decide +kernel
theorem dL_law_246 : decode cL_law 246 = .ok (.iload_n 3, 1) := by decide +kernel
theorem dL_law_247 : decode cL_law 247 = .ok (.iconst 2, 1) := by decide +kernel
theorem dL_law_248 : decode cL_law 248 = .ok (.iadd, 1) := by decide +kernel
theorem dL_law_249 : decode cL_law 249 = .ok (.iaload, 1) := by decide +kernel
theorem dL_law_250 : decode cL_law 250 = .ok (.ifCond .eq 7, 3) := by decide +kernel
end
section
theorem dL_law_253 : decode cL_law 253 = .ok (.iconst 1, 1) := by decide +kernel
theorem dL_law_254 : decode cL_law 254 = .ok (.goto 4, 3) := by decide +kernel
theorem dL_law_257 : decode cL_law 257 = .ok (.iconst 0, 1) := by decide +kernel
theorem dL_law_258 : decode cL_law 258 = .ok (.invokevirtual 22, 3) := by decide +kernel
theorem dL_law_261 : decode cL_law 261 = .ok (.if_icmp .eq 913, 3) := by decide +kernel
theorem dL_law_264 : decode cL_law 264 = .ok (.iconst 0, 1) := by decide +kernel
theorem dL_law_265 : decode cL_law 265 = .ok (.ireturn, 1) := by decide +kernel
theorem dL_law_266 : decode cL_law 266 = .ok (.aload_n 1, 1) := by decide +kernel
theorem dL_law_267 : decode cL_law 267 = .ok (.aload_n 0, 1) := by decide +kernel
theorem dL_law_268 : decode cL_law 268 = .ok (.iload_n 3, 1) := by decide +kernel
theorem dL_law_269 : decode cL_law 269 = .ok (.iconst 1, 1) := by decide +kernel
theorem dL_law_270 : decode cL_law 270 = .ok (.iadd, 1) := by decide +kernel
theorem dL_law_271 : decode cL_law 271 = .ok (.iaload, 1) := by decide +kernel
theorem dL_law_272 : decode cL_law 272 = .ok (.aload_n 0, 1) := by decide +kernel
theorem dL_law_273 : decode cL_law 273 = .ok (.iload_n 3, 1) := by decide +kernel
theorem dL_law_274 : decode cL_law 274 = .ok (.iconst 2, 1) := by decide +kernel
theorem dL_law_275 : decode cL_law 275 = .ok (.iadd, 1) := by decide +kernel
theorem dL_law_276 : decode cL_law 276 = .ok (.iaload, 1) := by decide +kernel
theorem dL_law_277 : decode cL_law 277 = .ok (.invokevirtual 23, 3) := by decide +kernel
theorem dL_law_280 : decode cL_law 280 = .ok (.aload_n 2, 1) := by decide +kernel
theorem dL_law_281 : decode cL_law 281 = .ok (.aload_n 0, 1) := by decide +kernel
theorem dL_law_282 : decode cL_law 282 = .ok (.iload_n 3, 1) := by decide +kernel
theorem dL_law_283 : decode cL_law 283 = .ok (.iconst 1, 1) := by decide +kernel
theorem dL_law_284 : decode cL_law 284 = .ok (.iadd, 1) := by decide +kernel
theorem dL_law_285 : decode cL_law 285 = .ok (.iaload, 1) := by decide +kernel
theorem dL_law_286 : decode cL_law 286 = .ok (.aload_n 0, 1) := by decide +kernel
theorem dL_law_287 : decode cL_law 287 = .ok (.iload_n 3, 1) := by decide +kernel
theorem dL_law_288 : decode cL_law 288 = .ok (.iconst 2, 1) := by decide +kernel
theorem dL_law_289 : decode cL_law 289 = .ok (.iadd, 1) := by decide +kernel
theorem dL_law_290 : decode cL_law 290 = .ok (.iaload, 1) := by decide +kernel
theorem dL_law_291 : decode cL_law 291 = .ok (.invokevirtual 26, 3) := by decide +kernel
theorem dL_law_294 : decode cL_law 294 = .ok (.if_icmp .eq 880, 3) := by decide +kernel
theorem dL_law_297 : decode cL_law 297 = .ok (.iconst 0, 1) := by decide +kernel
theorem dL_law_298 : decode cL_law 298 = .ok (.ireturn, 1) := by decide +kernel
theorem dL_law_299 : decode cL_law 299 = .ok (.aload_n 1, 1) := by decide +kernel
theorem dL_law_300 : decode cL_law 300 = .ok (.invokevirtual 27, 3) := by decide +kernel
theorem dL_law_303 : decode cL_law 303 = .ok (.aload_n 2, 1) := by decide +kernel
theorem dL_law_304 : decode cL_law 304 = .ok (.invokevirtual 31, 3) := by decide +kernel
theorem dL_law_307 : decode cL_law 307 = .ok (.if_icmp .eq 867, 3) := by decide +kernel
theorem dL_law_310 : decode cL_law 310 = .ok (.iconst 0, 1) := by decide +kernel
theorem dL_law_311 : decode cL_law 311 = .ok (.ireturn, 1) := by decide +kernel
theorem dL_law_312 : decode cL_law 312 = .ok (.aload_n 1, 1) := by decide +kernel
theorem dL_law_313 : decode cL_law 313 = .ok (.aload_n 0, 1) := by decide +kernel
theorem dL_law_314 : decode cL_law 314 = .ok (.iload_n 3, 1) := by decide +kernel
theorem dL_law_315 : decode cL_law 315 = .ok (.iconst 1, 1) := by decide +kernel
theorem dL_law_316 : decode cL_law 316 = .ok (.iadd, 1) := by decide +kernel
theorem dL_law_317 : decode cL_law 317 = .ok (.iaload, 1) := by decide +kernel
theorem dL_law_318 : decode cL_law 318 = .ok (.aload_n 0, 1) := by decide +kernel
theorem dL_law_319 : decode cL_law 319 = .ok (.iload_n 3, 1) := by decide +kernel
theorem dL_law_320 : decode cL_law 320 = .ok (.iconst 2, 1) := by decide +kernel
theorem dL_law_321 : decode cL_law 321 = .ok (.iadd, 1) := by decide +kernel
theorem dL_law_322 : decode cL_law 322 = .ok (.iaload, 1) := by decide +kernel
theorem dL_law_323 : decode cL_law 323 = .ok (.ifCond .eq 7, 3) := by decide +kernel
theorem dL_law_326 : decode cL_law 326 = .ok (.iconst 1, 1) := by decide +kernel
theorem dL_law_327 : decode cL_law 327 = .ok (.goto 4, 3) := by decide +kernel
theorem dL_law_330 : decode cL_law 330 = .ok (.iconst 0, 1) := by decide +kernel
theorem dL_law_331 : decode cL_law 331 = .ok (.invokevirtual 32, 3) := by decide +kernel
theorem dL_law_334 : decode cL_law 334 = .ok (.aload_n 2, 1) := by decide +kernel
theorem dL_law_335 : decode cL_law 335 = .ok (.aload_n 0, 1) := by decide +kernel
theorem dL_law_336 : decode cL_law 336 = .ok (.iload_n 3, 1) := by decide +kernel
theorem dL_law_337 : decode cL_law 337 = .ok (.iconst 1, 1) := by decide +kernel
theorem dL_law_338 : decode cL_law 338 = .ok (.iadd, 1) := by decide +kernel
theorem dL_law_339 : decode cL_law 339 = .ok (.iaload, 1) := by decide +kernel
theorem dL_law_340 : decode cL_law 340 = .ok (.aload_n 0, 1) := by decide +kernel
theorem dL_law_341 : decode cL_law 341 = .ok (.iload_n 3, 1) := by decide +kernel
theorem dL_law_342 : decode cL_law 342 = .ok (.iconst 2, 1) := by decide +kernel
theorem dL_law_343 : decode cL_law 343 = .ok (.iadd, 1) := by decide +kernel
theorem dL_law_344 : decode cL_law 344 = .ok (.iaload, 1) := by decide +kernel
theorem dL_law_345 : decode cL_law 345 = .ok (.ifCond .eq 7, 3) := by decide +kernel
theorem dL_law_348 : decode cL_law 348 = .ok (.iconst 1, 1) := by decide +kernel
theorem dL_law_349 : decode cL_law 349 = .ok (.goto 4, 3) := by decide +kernel
theorem dL_law_352 : decode cL_law 352 = .ok (.iconst 0, 1) := by decide +kernel
theorem dL_law_353 : decode cL_law 353 = .ok (.invokevirtual 35, 3) := by decide +kernel
theorem dL_law_356 : decode cL_law 356 = .ok (.if_icmp .eq 818, 3) := by decide +kernel
theorem dL_law_359 : decode cL_law 359 = .ok (.iconst 0, 1) := by decide +kernel
theorem dL_law_360 : decode cL_law 360 = .ok (.ireturn, 1) := by decide +kernel
theorem dL_law_361 : decode cL_law 361 = .ok (.aload_n 1, 1) := by decide +kernel
theorem dL_law_362 : decode cL_law 362 = .ok (.aload_n 0, 1) := by decide +kernel
theorem dL_law_363 : decode cL_law 363 = .ok (.iload_n 3, 1) := by decide +kernel
theorem dL_law_364 : decode cL_law 364 = .ok (.iconst 1, 1) := by decide +kernel
theorem dL_law_365 : decode cL_law 365 = .ok (.iadd, 1) := by decide +kernel
theorem dL_law_366 : decode cL_law 366 = .ok (.iaload, 1) := by decide +kernel
theorem dL_law_367 : decode cL_law 367 = .ok (.aload_n 0, 1) := by decide +kernel
theorem dL_law_368 : decode cL_law 368 = .ok (.iload_n 3, 1) := by decide +kernel
theorem dL_law_369 : decode cL_law 369 = .ok (.iconst 2, 1) := by decide +kernel
theorem dL_law_370 : decode cL_law 370 = .ok (.iadd, 1) := by decide +kernel
theorem dL_law_371 : decode cL_law 371 = .ok (.iaload, 1) := by decide +kernel
theorem dL_law_372 : decode cL_law 372 = .ok (.invokevirtual 36, 3) := by decide +kernel
theorem dL_law_375 : decode cL_law 375 = .ok (.aload_n 2, 1) := by decide +kernel
theorem dL_law_376 : decode cL_law 376 = .ok (.aload_n 0, 1) := by decide +kernel
theorem dL_law_377 : decode cL_law 377 = .ok (.iload_n 3, 1) := by decide +kernel
theorem dL_law_378 : decode cL_law 378 = .ok (.iconst 1, 1) := by decide +kernel
theorem dL_law_379 : decode cL_law 379 = .ok (.iadd, 1) := by decide +kernel
theorem dL_law_380 : decode cL_law 380 = .ok (.iaload, 1) := by decide +kernel
theorem dL_law_381 : decode cL_law 381 = .ok (.aload_n 0, 1) := by decide +kernel
theorem dL_law_382 : decode cL_law 382 = .ok (.iload_n 3, 1) := by decide +kernel
theorem dL_law_383 : decode cL_law 383 = .ok (.iconst 2, 1) := by decide +kernel
theorem dL_law_384 : decode cL_law 384 = .ok (.iadd, 1) := by decide +kernel
theorem dL_law_385 : decode cL_law 385 = .ok (.iaload, 1) := by decide +kernel
theorem dL_law_386 : decode cL_law 386 = .ok (.invokevirtual 39, 3) := by decide +kernel
theorem dL_law_389 : decode cL_law 389 = .ok (.if_icmp .eq 785, 3) := by decide +kernel
theorem dL_law_392 : decode cL_law 392 = .ok (.iconst 0, 1) := by decide +kernel
theorem dL_law_393 : decode cL_law 393 = .ok (.ireturn, 1) := by decide +kernel
theorem dL_law_394 : decode cL_law 394 = .ok (.aload_n 1, 1) := by decide +kernel
theorem dL_law_395 : decode cL_law 395 = .ok (.aload_n 0, 1) := by decide +kernel
theorem dL_law_396 : decode cL_law 396 = .ok (.iload_n 3, 1) := by decide +kernel
theorem dL_law_397 : decode cL_law 397 = .ok (.iconst 1, 1) := by decide +kernel
theorem dL_law_398 : decode cL_law 398 = .ok (.iadd, 1) := by decide +kernel
theorem dL_law_399 : decode cL_law 399 = .ok (.iaload, 1) := by decide +kernel
theorem dL_law_400 : decode cL_law 400 = .ok (.aload_n 0, 1) := by decide +kernel
theorem dL_law_401 : decode cL_law 401 = .ok (.iload_n 3, 1) := by decide +kernel
theorem dL_law_402 : decode cL_law 402 = .ok (.iconst 2, 1) := by decide +kernel
theorem dL_law_403 : decode cL_law 403 = .ok (.iadd, 1) := by decide +kernel
theorem dL_law_404 : decode cL_law 404 = .ok (.iaload, 1) := by decide +kernel
theorem dL_law_405 : decode cL_law 405 = .ok (.invokevirtual 40, 3) := by decide +kernel
theorem dL_law_408 : decode cL_law 408 = .ok (.aload_n 2, 1) := by decide +kernel
theorem dL_law_409 : decode cL_law 409 = .ok (.aload_n 0, 1) := by decide +kernel
theorem dL_law_410 : decode cL_law 410 = .ok (.iload_n 3, 1) := by decide +kernel
theorem dL_law_411 : decode cL_law 411 = .ok (.iconst 1, 1) := by decide +kernel
theorem dL_law_412 : decode cL_law 412 = .ok (.iadd, 1) := by decide +kernel
theorem dL_law_413 : decode cL_law 413 = .ok (.iaload, 1) := by decide +kernel
theorem dL_law_414 : decode cL_law 414 = .ok (.aload_n 0, 1) := by decide +kernel
theorem dL_law_415 : decode cL_law 415 = .ok (.iload_n 3, 1) := by decide +kernel
theorem dL_law_416 : decode cL_law 416 = .ok (.iconst 2, 1) := by decide +kernel
theorem dL_law_417 : decode cL_law 417 = .ok (.iadd, 1) := by decide +kernel
theorem dL_law_418 : decode cL_law 418 = .ok (.iaload, 1) := by decide +kernel
theorem dL_law_419 : decode cL_law 419 = .ok (.invokevirtual 43, 3) := by decide +kernel
theorem dL_law_422 : decode cL_law 422 = .ok (.if_icmp .eq 752, 3) := by decide +kernel
theorem dL_law_425 : decode cL_law 425 = .ok (.iconst 0, 1) := by decide +kernel
theorem dL_law_426 : decode cL_law 426 = .ok (.ireturn, 1) := by decide +kernel
theorem dL_law_427 : decode cL_law 427 = .ok (.aload_n 1, 1) := by decide +kernel
theorem dL_law_428 : decode cL_law 428 = .ok (.aload_n 0, 1) := by decide +kernel
theorem dL_law_429 : decode cL_law 429 = .ok (.iload_n 3, 1) := by decide +kernel
theorem dL_law_430 : decode cL_law 430 = .ok (.iconst 1, 1) := by decide +kernel
theorem dL_law_431 : decode cL_law 431 = .ok (.iadd, 1) := by decide +kernel
theorem dL_law_432 : decode cL_law 432 = .ok (.iaload, 1) := by decide +kernel
theorem dL_law_433 : decode cL_law 433 = .ok (.aload_n 0, 1) := by decide +kernel
theorem dL_law_434 : decode cL_law 434 = .ok (.iload_n 3, 1) := by decide +kernel
theorem dL_law_435 : decode cL_law 435 = .ok (.iconst 2, 1) := by decide +kernel
theorem dL_law_436 : decode cL_law 436 = .ok (.iadd, 1) := by decide +kernel
theorem dL_law_437 : decode cL_law 437 = .ok (.iaload, 1) := by decide +kernel
theorem dL_law_438 : decode cL_law 438 = .ok (.invokevirtual 44, 3) := by decide +kernel
theorem dL_law_441 : decode cL_law 441 = .ok (.aload_n 2, 1) := by decide +kernel
theorem dL_law_442 : decode cL_law 442 = .ok (.aload_n 0, 1) := by decide +kernel
theorem dL_law_443 : decode cL_law 443 = .ok (.iload_n 3, 1) := by decide +kernel
theorem dL_law_444 : decode cL_law 444 = .ok (.iconst 1, 1) := by decide +kernel
theorem dL_law_445 : decode cL_law 445 = .ok (.iadd, 1) := by decide +kernel
theorem dL_law_446 : decode cL_law 446 = .ok (.iaload, 1) := by decide +kernel
theorem dL_law_447 : decode cL_law 447 = .ok (.aload_n 0, 1) := by decide +kernel
theorem dL_law_448 : decode cL_law 448 = .ok (.iload_n 3, 1) := by decide +kernel
theorem dL_law_449 : decode cL_law 449 = .ok (.iconst 2, 1) := by decide +kernel
theorem dL_law_450 : decode cL_law 450 = .ok (.iadd, 1) := by decide +kernel
theorem dL_law_451 : decode cL_law 451 = .ok (.iaload, 1) := by decide +kernel
theorem dL_law_452 : decode cL_law 452 = .ok (.invokevirtual 47, 3) := by decide +kernel
theorem dL_law_455 : decode cL_law 455 = .ok (.if_icmp .eq 719, 3) := by decide +kernel
theorem dL_law_458 : decode cL_law 458 = .ok (.iconst 0, 1) := by decide +kernel
theorem dL_law_459 : decode cL_law 459 = .ok (.ireturn, 1) := by decide +kernel
theorem dL_law_460 : decode cL_law 460 = .ok (.aload_n 1, 1) := by decide +kernel
theorem dL_law_461 : decode cL_law 461 = .ok (.aload_n 0, 1) := by decide +kernel
theorem dL_law_462 : decode cL_law 462 = .ok (.iload_n 3, 1) := by decide +kernel
theorem dL_law_463 : decode cL_law 463 = .ok (.iconst 1, 1) := by decide +kernel
theorem dL_law_464 : decode cL_law 464 = .ok (.iadd, 1) := by decide +kernel
theorem dL_law_465 : decode cL_law 465 = .ok (.iaload, 1) := by decide +kernel
theorem dL_law_466 : decode cL_law 466 = .ok (.aload_n 0, 1) := by decide +kernel
theorem dL_law_467 : decode cL_law 467 = .ok (.iload_n 3, 1) := by decide +kernel
theorem dL_law_468 : decode cL_law 468 = .ok (.iconst 2, 1) := by decide +kernel
theorem dL_law_469 : decode cL_law 469 = .ok (.iadd, 1) := by decide +kernel
theorem dL_law_470 : decode cL_law 470 = .ok (.iaload, 1) := by decide +kernel
theorem dL_law_471 : decode cL_law 471 = .ok (.invokevirtual 48, 3) := by decide +kernel
theorem dL_law_474 : decode cL_law 474 = .ok (.aload_n 2, 1) := by decide +kernel
theorem dL_law_475 : decode cL_law 475 = .ok (.aload_n 0, 1) := by decide +kernel
theorem dL_law_476 : decode cL_law 476 = .ok (.iload_n 3, 1) := by decide +kernel
theorem dL_law_477 : decode cL_law 477 = .ok (.iconst 1, 1) := by decide +kernel
theorem dL_law_478 : decode cL_law 478 = .ok (.iadd, 1) := by decide +kernel
theorem dL_law_479 : decode cL_law 479 = .ok (.iaload, 1) := by decide +kernel
theorem dL_law_480 : decode cL_law 480 = .ok (.aload_n 0, 1) := by decide +kernel
theorem dL_law_481 : decode cL_law 481 = .ok (.iload_n 3, 1) := by decide +kernel
theorem dL_law_482 : decode cL_law 482 = .ok (.iconst 2, 1) := by decide +kernel
theorem dL_law_483 : decode cL_law 483 = .ok (.iadd, 1) := by decide +kernel
theorem dL_law_484 : decode cL_law 484 = .ok (.iaload, 1) := by decide +kernel
theorem dL_law_485 : decode cL_law 485 = .ok (.invokevirtual 51, 3) := by decide +kernel
theorem dL_law_488 : decode cL_law 488 = .ok (.if_icmp .eq 686, 3) := by decide +kernel
theorem dL_law_491 : decode cL_law 491 = .ok (.iconst 0, 1) := by decide +kernel
theorem dL_law_492 : decode cL_law 492 = .ok (.ireturn, 1) := by decide +kernel
theorem dL_law_493 : decode cL_law 493 = .ok (.aload_n 1, 1) := by decide +kernel
theorem dL_law_494 : decode cL_law 494 = .ok (.aload_n 0, 1) := by decide +kernel
theorem dL_law_495 : decode cL_law 495 = .ok (.iload_n 3, 1) := by decide +kernel
theorem dL_law_496 : decode cL_law 496 = .ok (.iconst 1, 1) := by decide +kernel
theorem dL_law_497 : decode cL_law 497 = .ok (.iadd, 1) := by decide +kernel
theorem dL_law_498 : decode cL_law 498 = .ok (.iaload, 1) := by decide +kernel
theorem dL_law_499 : decode cL_law 499 = .ok (.invokevirtual 52, 3) := by decide +kernel
theorem dL_law_502 : decode cL_law 502 = .ok (.aload_n 2, 1) := by decide +kernel
theorem dL_law_503 : decode cL_law 503 = .ok (.aload_n 0, 1) := by decide +kernel
theorem dL_law_504 : decode cL_law 504 = .ok (.iload_n 3, 1) := by decide +kernel
theorem dL_law_505 : decode cL_law 505 = .ok (.iconst 1, 1) := by decide +kernel
theorem dL_law_506 : decode cL_law 506 = .ok (.iadd, 1) := by decide +kernel
theorem dL_law_507 : decode cL_law 507 = .ok (.iaload, 1) := by decide +kernel
theorem dL_law_508 : decode cL_law 508 = .ok (.invokevirtual 56, 3) := by decide +kernel
theorem dL_law_511 : decode cL_law 511 = .ok (.if_icmp .eq 663, 3) := by decide +kernel
theorem dL_law_514 : decode cL_law 514 = .ok (.iconst 0, 1) := by decide +kernel
theorem dL_law_515 : decode cL_law 515 = .ok (.ireturn, 1) := by decide +kernel
theorem dL_law_516 : decode cL_law 516 = .ok (.aload_n 1, 1) := by decide +kernel
theorem dL_law_517 : decode cL_law 517 = .ok (.aload_n 0, 1) := by decide +kernel
theorem dL_law_518 : decode cL_law 518 = .ok (.iload_n 3, 1) := by decide +kernel
theorem dL_law_519 : decode cL_law 519 = .ok (.iconst 1, 1) := by decide +kernel
theorem dL_law_520 : decode cL_law 520 = .ok (.iadd, 1) := by decide +kernel
theorem dL_law_521 : decode cL_law 521 = .ok (.iaload, 1) := by decide +kernel
theorem dL_law_522 : decode cL_law 522 = .ok (.aload_n 0, 1) := by decide +kernel
theorem dL_law_523 : decode cL_law 523 = .ok (.iload_n 3, 1) := by decide +kernel
theorem dL_law_524 : decode cL_law 524 = .ok (.iconst 2, 1) := by decide +kernel
theorem dL_law_525 : decode cL_law 525 = .ok (.iadd, 1) := by decide +kernel
theorem dL_law_526 : decode cL_law 526 = .ok (.iaload, 1) := by decide +kernel
theorem dL_law_527 : decode cL_law 527 = .ok (.invokevirtual 57, 3) := by decide +kernel
theorem dL_law_530 : decode cL_law 530 = .ok (.aload_n 2, 1) := by decide +kernel
theorem dL_law_531 : decode cL_law 531 = .ok (.aload_n 0, 1) := by decide +kernel
theorem dL_law_532 : decode cL_law 532 = .ok (.iload_n 3, 1) := by decide +kernel
theorem dL_law_533 : decode cL_law 533 = .ok (.iconst 1, 1) := by decide +kernel
theorem dL_law_534 : decode cL_law 534 = .ok (.iadd, 1) := by decide +kernel
theorem dL_law_535 : decode cL_law 535 = .ok (.iaload, 1) := by decide +kernel
theorem dL_law_536 : decode cL_law 536 = .ok (.aload_n 0, 1) := by decide +kernel
theorem dL_law_537 : decode cL_law 537 = .ok (.iload_n 3, 1) := by decide +kernel
theorem dL_law_538 : decode cL_law 538 = .ok (.iconst 2, 1) := by decide +kernel
theorem dL_law_539 : decode cL_law 539 = .ok (.iadd, 1) := by decide +kernel
theorem dL_law_540 : decode cL_law 540 = .ok (.iaload, 1) := by decide +kernel
theorem dL_law_541 : decode cL_law 541 = .ok (.invokevirtual 60, 3) := by decide +kernel
theorem dL_law_544 : decode cL_law 544 = .ok (.if_icmp .eq 630, 3) := by decide +kernel
theorem dL_law_547 : decode cL_law 547 = .ok (.iconst 0, 1) := by decide +kernel
theorem dL_law_548 : decode cL_law 548 = .ok (.ireturn, 1) := by decide +kernel
theorem dL_law_549 : decode cL_law 549 = .ok (.aload_n 1, 1) := by decide +kernel
theorem dL_law_550 : decode cL_law 550 = .ok (.aload_n 0, 1) := by decide +kernel
theorem dL_law_551 : decode cL_law 551 = .ok (.iload_n 3, 1) := by decide +kernel
theorem dL_law_552 : decode cL_law 552 = .ok (.iconst 1, 1) := by decide +kernel
theorem dL_law_553 : decode cL_law 553 = .ok (.iadd, 1) := by decide +kernel
theorem dL_law_554 : decode cL_law 554 = .ok (.iaload, 1) := by decide +kernel
theorem dL_law_555 : decode cL_law 555 = .ok (.aload_n 0, 1) := by decide +kernel
theorem dL_law_556 : decode cL_law 556 = .ok (.iload_n 3, 1) := by decide +kernel
theorem dL_law_557 : decode cL_law 557 = .ok (.iconst 2, 1) := by decide +kernel
theorem dL_law_558 : decode cL_law 558 = .ok (.iadd, 1) := by decide +kernel
theorem dL_law_559 : decode cL_law 559 = .ok (.iaload, 1) := by decide +kernel
theorem dL_law_560 : decode cL_law 560 = .ok (.aload_n 0, 1) := by decide +kernel
theorem dL_law_561 : decode cL_law 561 = .ok (.iload_n 3, 1) := by decide +kernel
theorem dL_law_562 : decode cL_law 562 = .ok (.iconst 3, 1) := by decide +kernel
theorem dL_law_563 : decode cL_law 563 = .ok (.iadd, 1) := by decide +kernel
theorem dL_law_564 : decode cL_law 564 = .ok (.iaload, 1) := by decide +kernel
theorem dL_law_565 : decode cL_law 565 = .ok (.invokevirtual 61, 3) := by decide +kernel
theorem dL_law_568 : decode cL_law 568 = .ok (.aload_n 2, 1) := by decide +kernel
theorem dL_law_569 : decode cL_law 569 = .ok (.aload_n 0, 1) := by decide +kernel
theorem dL_law_570 : decode cL_law 570 = .ok (.iload_n 3, 1) := by decide +kernel
theorem dL_law_571 : decode cL_law 571 = .ok (.iconst 1, 1) := by decide +kernel
theorem dL_law_572 : decode cL_law 572 = .ok (.iadd, 1) := by decide +kernel
theorem dL_law_573 : decode cL_law 573 = .ok (.iaload, 1) := by decide +kernel
theorem dL_law_574 : decode cL_law 574 = .ok (.aload_n 0, 1) := by decide +kernel
theorem dL_law_575 : decode cL_law 575 = .ok (.iload_n 3, 1) := by decide +kernel
theorem dL_law_576 : decode cL_law 576 = .ok (.iconst 2, 1) := by decide +kernel
theorem dL_law_577 : decode cL_law 577 = .ok (.iadd, 1) := by decide +kernel
theorem dL_law_578 : decode cL_law 578 = .ok (.iaload, 1) := by decide +kernel
theorem dL_law_579 : decode cL_law 579 = .ok (.aload_n 0, 1) := by decide +kernel
theorem dL_law_580 : decode cL_law 580 = .ok (.iload_n 3, 1) := by decide +kernel
theorem dL_law_581 : decode cL_law 581 = .ok (.iconst 3, 1) := by decide +kernel
theorem dL_law_582 : decode cL_law 582 = .ok (.iadd, 1) := by decide +kernel
theorem dL_law_583 : decode cL_law 583 = .ok (.iaload, 1) := by decide +kernel
theorem dL_law_584 : decode cL_law 584 = .ok (.invokevirtual 65, 3) := by decide +kernel
theorem dL_law_587 : decode cL_law 587 = .ok (.if_icmp .eq 587, 3) := by decide +kernel
theorem dL_law_590 : decode cL_law 590 = .ok (.iconst 0, 1) := by decide +kernel
theorem dL_law_591 : decode cL_law 591 = .ok (.ireturn, 1) := by decide +kernel
theorem dL_law_592 : decode cL_law 592 = .ok (.aload_n 1, 1) := by decide +kernel
theorem dL_law_593 : decode cL_law 593 = .ok (.aload_n 0, 1) := by decide +kernel
theorem dL_law_594 : decode cL_law 594 = .ok (.iload_n 3, 1) := by decide +kernel
theorem dL_law_595 : decode cL_law 595 = .ok (.iconst 1, 1) := by decide +kernel
theorem dL_law_596 : decode cL_law 596 = .ok (.iadd, 1) := by decide +kernel
theorem dL_law_597 : decode cL_law 597 = .ok (.iaload, 1) := by decide +kernel
theorem dL_law_598 : decode cL_law 598 = .ok (.aload_n 0, 1) := by decide +kernel
theorem dL_law_599 : decode cL_law 599 = .ok (.iload_n 3, 1) := by decide +kernel
theorem dL_law_600 : decode cL_law 600 = .ok (.iconst 2, 1) := by decide +kernel
theorem dL_law_601 : decode cL_law 601 = .ok (.iadd, 1) := by decide +kernel
theorem dL_law_602 : decode cL_law 602 = .ok (.iaload, 1) := by decide +kernel
theorem dL_law_603 : decode cL_law 603 = .ok (.aload_n 0, 1) := by decide +kernel
theorem dL_law_604 : decode cL_law 604 = .ok (.iload_n 3, 1) := by decide +kernel
theorem dL_law_605 : decode cL_law 605 = .ok (.iconst 3, 1) := by decide +kernel
theorem dL_law_606 : decode cL_law 606 = .ok (.iadd, 1) := by decide +kernel
theorem dL_law_607 : decode cL_law 607 = .ok (.iaload, 1) := by decide +kernel
theorem dL_law_608 : decode cL_law 608 = .ok (.aload_n 0, 1) := by decide +kernel
theorem dL_law_609 : decode cL_law 609 = .ok (.iload_n 3, 1) := by decide +kernel
theorem dL_law_610 : decode cL_law 610 = .ok (.iconst 4, 1) := by decide +kernel
theorem dL_law_611 : decode cL_law 611 = .ok (.iadd, 1) := by decide +kernel
theorem dL_law_612 : decode cL_law 612 = .ok (.iaload, 1) := by decide +kernel
theorem dL_law_613 : decode cL_law 613 = .ok (.invokevirtual 66, 3) := by decide +kernel
theorem dL_law_616 : decode cL_law 616 = .ok (.aload_n 2, 1) := by decide +kernel
theorem dL_law_617 : decode cL_law 617 = .ok (.aload_n 0, 1) := by decide +kernel
theorem dL_law_618 : decode cL_law 618 = .ok (.iload_n 3, 1) := by decide +kernel
theorem dL_law_619 : decode cL_law 619 = .ok (.iconst 1, 1) := by decide +kernel
theorem dL_law_620 : decode cL_law 620 = .ok (.iadd, 1) := by decide +kernel
theorem dL_law_621 : decode cL_law 621 = .ok (.iaload, 1) := by decide +kernel
theorem dL_law_622 : decode cL_law 622 = .ok (.aload_n 0, 1) := by decide +kernel
theorem dL_law_623 : decode cL_law 623 = .ok (.iload_n 3, 1) := by decide +kernel
theorem dL_law_624 : decode cL_law 624 = .ok (.iconst 2, 1) := by decide +kernel
theorem dL_law_625 : decode cL_law 625 = .ok (.iadd, 1) := by decide +kernel
theorem dL_law_626 : decode cL_law 626 = .ok (.iaload, 1) := by decide +kernel
theorem dL_law_627 : decode cL_law 627 = .ok (.aload_n 0, 1) := by decide +kernel
theorem dL_law_628 : decode cL_law 628 = .ok (.iload_n 3, 1) := by decide +kernel
theorem dL_law_629 : decode cL_law 629 = .ok (.iconst 3, 1) := by decide +kernel
theorem dL_law_630 : decode cL_law 630 = .ok (.iadd, 1) := by decide +kernel
theorem dL_law_631 : decode cL_law 631 = .ok (.iaload, 1) := by decide +kernel
theorem dL_law_632 : decode cL_law 632 = .ok (.aload_n 0, 1) := by decide +kernel
theorem dL_law_633 : decode cL_law 633 = .ok (.iload_n 3, 1) := by decide +kernel
theorem dL_law_634 : decode cL_law 634 = .ok (.iconst 4, 1) := by decide +kernel
theorem dL_law_635 : decode cL_law 635 = .ok (.iadd, 1) := by decide +kernel
theorem dL_law_636 : decode cL_law 636 = .ok (.iaload, 1) := by decide +kernel
theorem dL_law_637 : decode cL_law 637 = .ok (.invokevirtual 70, 3) := by decide +kernel
theorem dL_law_640 : decode cL_law 640 = .ok (.if_icmp .eq 534, 3) := by decide +kernel
theorem dL_law_643 : decode cL_law 643 = .ok (.iconst 0, 1) := by decide +kernel
theorem dL_law_644 : decode cL_law 644 = .ok (.ireturn, 1) := by decide +kernel
theorem dL_law_645 : decode cL_law 645 = .ok (.aload_n 1, 1) := by decide +kernel
theorem dL_law_646 : decode cL_law 646 = .ok (.aload_n 0, 1) := by decide +kernel
theorem dL_law_647 : decode cL_law 647 = .ok (.iload_n 3, 1) := by decide +kernel
theorem dL_law_648 : decode cL_law 648 = .ok (.iconst 1, 1) := by decide +kernel
theorem dL_law_649 : decode cL_law 649 = .ok (.iadd, 1) := by decide +kernel
theorem dL_law_650 : decode cL_law 650 = .ok (.iaload, 1) := by decide +kernel
theorem dL_law_651 : decode cL_law 651 = .ok (.invokevirtual 71, 3) := by decide +kernel
theorem dL_law_654 : decode cL_law 654 = .ok (.aload_n 2, 1) := by decide +kernel
theorem dL_law_655 : decode cL_law 655 = .ok (.aload_n 0, 1) := by decide +kernel
theorem dL_law_656 : decode cL_law 656 = .ok (.iload_n 3, 1) := by decide +kernel
theorem dL_law_657 : decode cL_law 657 = .ok (.iconst 1, 1) := by decide +kernel
theorem dL_law_658 : decode cL_law 658 = .ok (.iadd, 1) := by decide +kernel
theorem dL_law_659 : decode cL_law 659 = .ok (.iaload, 1) := by decide +kernel
theorem dL_law_660 : decode cL_law 660 = .ok (.invokevirtual 74, 3) := by decide +kernel
theorem dL_law_663 : decode cL_law 663 = .ok (.if_icmp .eq 511, 3) := by decide +kernel
theorem dL_law_666 : decode cL_law 666 = .ok (.iconst 0, 1) := by decide +kernel
theorem dL_law_667 : decode cL_law 667 = .ok (.ireturn, 1) := by decide +kernel
theorem dL_law_668 : decode cL_law 668 = .ok (.aload_n 1, 1) := by decide +kernel
theorem dL_law_669 : decode cL_law 669 = .ok (.aload_n 0, 1) := by decide +kernel
theorem dL_law_670 : decode cL_law 670 = .ok (.iload_n 3, 1) := by decide +kernel
theorem dL_law_671 : decode cL_law 671 = .ok (.iconst 1, 1) := by decide +kernel
theorem dL_law_672 : decode cL_law 672 = .ok (.iadd, 1) := by decide +kernel
theorem dL_law_673 : decode cL_law 673 = .ok (.iaload, 1) := by decide +kernel
theorem dL_law_674 : decode cL_law 674 = .ok (.invokevirtual 75, 3) := by decide +kernel
theorem dL_law_677 : decode cL_law 677 = .ok (.aload_n 2, 1) := by decide +kernel
theorem dL_law_678 : decode cL_law 678 = .ok (.aload_n 0, 1) := by decide +kernel
theorem dL_law_679 : decode cL_law 679 = .ok (.iload_n 3, 1) := by decide +kernel
theorem dL_law_680 : decode cL_law 680 = .ok (.iconst 1, 1) := by decide +kernel
theorem dL_law_681 : decode cL_law 681 = .ok (.iadd, 1) := by decide +kernel
theorem dL_law_682 : decode cL_law 682 = .ok (.iaload, 1) := by decide +kernel
theorem dL_law_683 : decode cL_law 683 = .ok (.invokevirtual 78, 3) := by decide +kernel
theorem dL_law_686 : decode cL_law 686 = .ok (.if_icmp .eq 488, 3) := by decide +kernel
theorem dL_law_689 : decode cL_law 689 = .ok (.iconst 0, 1) := by decide +kernel
theorem dL_law_690 : decode cL_law 690 = .ok (.ireturn, 1) := by decide +kernel
theorem dL_law_691 : decode cL_law 691 = .ok (.aload_n 1, 1) := by decide +kernel
theorem dL_law_692 : decode cL_law 692 = .ok (.aload_n 0, 1) := by decide +kernel
theorem dL_law_693 : decode cL_law 693 = .ok (.iload_n 3, 1) := by decide +kernel
theorem dL_law_694 : decode cL_law 694 = .ok (.iconst 1, 1) := by decide +kernel
theorem dL_law_695 : decode cL_law 695 = .ok (.iadd, 1) := by decide +kernel
theorem dL_law_696 : decode cL_law 696 = .ok (.iaload, 1) := by decide +kernel
theorem dL_law_697 : decode cL_law 697 = .ok (.aload_n 0, 1) := by decide +kernel
theorem dL_law_698 : decode cL_law 698 = .ok (.iload_n 3, 1) := by decide +kernel
theorem dL_law_699 : decode cL_law 699 = .ok (.iconst 2, 1) := by decide +kernel
theorem dL_law_700 : decode cL_law 700 = .ok (.iadd, 1) := by decide +kernel
theorem dL_law_701 : decode cL_law 701 = .ok (.iaload, 1) := by decide +kernel
theorem dL_law_702 : decode cL_law 702 = .ok (.invokevirtual 79, 3) := by decide +kernel
theorem dL_law_705 : decode cL_law 705 = .ok (.aload_n 2, 1) := by decide +kernel
theorem dL_law_706 : decode cL_law 706 = .ok (.aload_n 0, 1) := by decide +kernel
theorem dL_law_707 : decode cL_law 707 = .ok (.iload_n 3, 1) := by decide +kernel
theorem dL_law_708 : decode cL_law 708 = .ok (.iconst 1, 1) := by decide +kernel
theorem dL_law_709 : decode cL_law 709 = .ok (.iadd, 1) := by decide +kernel
theorem dL_law_710 : decode cL_law 710 = .ok (.iaload, 1) := by decide +kernel
theorem dL_law_711 : decode cL_law 711 = .ok (.aload_n 0, 1) := by decide +kernel
theorem dL_law_712 : decode cL_law 712 = .ok (.iload_n 3, 1) := by decide +kernel
theorem dL_law_713 : decode cL_law 713 = .ok (.iconst 2, 1) := by decide +kernel
theorem dL_law_714 : decode cL_law 714 = .ok (.iadd, 1) := by decide +kernel
theorem dL_law_715 : decode cL_law 715 = .ok (.iaload, 1) := by decide +kernel
theorem dL_law_716 : decode cL_law 716 = .ok (.invokevirtual 82, 3) := by decide +kernel
theorem dL_law_719 : decode cL_law 719 = .ok (.if_icmp .eq 455, 3) := by decide +kernel
theorem dL_law_722 : decode cL_law 722 = .ok (.iconst 0, 1) := by decide +kernel
theorem dL_law_723 : decode cL_law 723 = .ok (.ireturn, 1) := by decide +kernel
theorem dL_law_724 : decode cL_law 724 = .ok (.aload_n 1, 1) := by decide +kernel
theorem dL_law_725 : decode cL_law 725 = .ok (.aload_n 0, 1) := by decide +kernel
theorem dL_law_726 : decode cL_law 726 = .ok (.iload_n 3, 1) := by decide +kernel
theorem dL_law_727 : decode cL_law 727 = .ok (.iconst 1, 1) := by decide +kernel
theorem dL_law_728 : decode cL_law 728 = .ok (.iadd, 1) := by decide +kernel
theorem dL_law_729 : decode cL_law 729 = .ok (.iaload, 1) := by decide +kernel
theorem dL_law_730 : decode cL_law 730 = .ok (.aload_n 0, 1) := by decide +kernel
theorem dL_law_731 : decode cL_law 731 = .ok (.iload_n 3, 1) := by decide +kernel
theorem dL_law_732 : decode cL_law 732 = .ok (.iconst 2, 1) := by decide +kernel
theorem dL_law_733 : decode cL_law 733 = .ok (.iadd, 1) := by decide +kernel
theorem dL_law_734 : decode cL_law 734 = .ok (.iaload, 1) := by decide +kernel
theorem dL_law_735 : decode cL_law 735 = .ok (.aload_n 0, 1) := by decide +kernel
theorem dL_law_736 : decode cL_law 736 = .ok (.iload_n 3, 1) := by decide +kernel
theorem dL_law_737 : decode cL_law 737 = .ok (.iconst 3, 1) := by decide +kernel
theorem dL_law_738 : decode cL_law 738 = .ok (.iadd, 1) := by decide +kernel
theorem dL_law_739 : decode cL_law 739 = .ok (.iaload, 1) := by decide +kernel
theorem dL_law_740 : decode cL_law 740 = .ok (.invokevirtual 83, 3) := by decide +kernel
theorem dL_law_743 : decode cL_law 743 = .ok (.aload_n 2, 1) := by decide +kernel
theorem dL_law_744 : decode cL_law 744 = .ok (.aload_n 0, 1) := by decide +kernel
theorem dL_law_745 : decode cL_law 745 = .ok (.iload_n 3, 1) := by decide +kernel
theorem dL_law_746 : decode cL_law 746 = .ok (.iconst 1, 1) := by decide +kernel
theorem dL_law_747 : decode cL_law 747 = .ok (.iadd, 1) := by decide +kernel
theorem dL_law_748 : decode cL_law 748 = .ok (.iaload, 1) := by decide +kernel
theorem dL_law_749 : decode cL_law 749 = .ok (.aload_n 0, 1) := by decide +kernel
theorem dL_law_750 : decode cL_law 750 = .ok (.iload_n 3, 1) := by decide +kernel
theorem dL_law_751 : decode cL_law 751 = .ok (.iconst 2, 1) := by decide +kernel
theorem dL_law_752 : decode cL_law 752 = .ok (.iadd, 1) := by decide +kernel
theorem dL_law_753 : decode cL_law 753 = .ok (.iaload, 1) := by decide +kernel
theorem dL_law_754 : decode cL_law 754 = .ok (.aload_n 0, 1) := by decide +kernel
theorem dL_law_755 : decode cL_law 755 = .ok (.iload_n 3, 1) := by decide +kernel
theorem dL_law_756 : decode cL_law 756 = .ok (.iconst 3, 1) := by decide +kernel
theorem dL_law_757 : decode cL_law 757 = .ok (.iadd, 1) := by decide +kernel
theorem dL_law_758 : decode cL_law 758 = .ok (.iaload, 1) := by decide +kernel
theorem dL_law_759 : decode cL_law 759 = .ok (.invokevirtual 86, 3) := by decide +kernel
theorem dL_law_762 : decode cL_law 762 = .ok (.if_icmp .eq 412, 3) := by decide +kernel
theorem dL_law_765 : decode cL_law 765 = .ok (.iconst 0, 1) := by decide +kernel
theorem dL_law_766 : decode cL_law 766 = .ok (.ireturn, 1) := by decide +kernel
theorem dL_law_767 : decode cL_law 767 = .ok (.aload_n 1, 1) := by decide +kernel
theorem dL_law_768 : decode cL_law 768 = .ok (.aload_n 0, 1) := by decide +kernel
theorem dL_law_769 : decode cL_law 769 = .ok (.iload_n 3, 1) := by decide +kernel
theorem dL_law_770 : decode cL_law 770 = .ok (.iconst 1, 1) := by decide +kernel
theorem dL_law_771 : decode cL_law 771 = .ok (.iadd, 1) := by decide +kernel
theorem dL_law_772 : decode cL_law 772 = .ok (.iaload, 1) := by decide +kernel
theorem dL_law_773 : decode cL_law 773 = .ok (.aload_n 0, 1) := by decide +kernel
theorem dL_law_774 : decode cL_law 774 = .ok (.iload_n 3, 1) := by decide +kernel
theorem dL_law_775 : decode cL_law 775 = .ok (.iconst 2, 1) := by decide +kernel
theorem dL_law_776 : decode cL_law 776 = .ok (.iadd, 1) := by decide +kernel
theorem dL_law_777 : decode cL_law 777 = .ok (.iaload, 1) := by decide +kernel
theorem dL_law_778 : decode cL_law 778 = .ok (.invokevirtual 87, 3) := by decide +kernel
theorem dL_law_781 : decode cL_law 781 = .ok (.aload_n 2, 1) := by decide +kernel
theorem dL_law_782 : decode cL_law 782 = .ok (.aload_n 0, 1) := by decide +kernel
theorem dL_law_783 : decode cL_law 783 = .ok (.iload_n 3, 1) := by decide +kernel
theorem dL_law_784 : decode cL_law 784 = .ok (.iconst 1, 1) := by decide +kernel
theorem dL_law_785 : decode cL_law 785 = .ok (.iadd, 1) := by decide +kernel
theorem dL_law_786 : decode cL_law 786 = .ok (.iaload, 1) := by decide +kernel
theorem dL_law_787 : decode cL_law 787 = .ok (.aload_n 0, 1) := by decide +kernel
theorem dL_law_788 : decode cL_law 788 = .ok (.iload_n 3, 1) := by decide +kernel
theorem dL_law_789 : decode cL_law 789 = .ok (.iconst 2, 1) := by decide +kernel
theorem dL_law_790 : decode cL_law 790 = .ok (.iadd, 1) := by decide +kernel
theorem dL_law_791 : decode cL_law 791 = .ok (.iaload, 1) := by decide +kernel
theorem dL_law_792 : decode cL_law 792 = .ok (.invokevirtual 90, 3) := by decide +kernel
theorem dL_law_795 : decode cL_law 795 = .ok (.if_icmp .eq 379, 3) := by decide +kernel
theorem dL_law_798 : decode cL_law 798 = .ok (.iconst 0, 1) := by decide +kernel
theorem dL_law_799 : decode cL_law 799 = .ok (.ireturn, 1) := by decide +kernel
theorem dL_law_800 : decode cL_law 800 = .ok (.aload_n 1, 1) := by decide +kernel
theorem dL_law_801 : decode cL_law 801 = .ok (.aload_n 0, 1) := by decide +kernel
theorem dL_law_802 : decode cL_law 802 = .ok (.iload_n 3, 1) := by decide +kernel
theorem dL_law_803 : decode cL_law 803 = .ok (.iconst 1, 1) := by decide +kernel
theorem dL_law_804 : decode cL_law 804 = .ok (.iadd, 1) := by decide +kernel
theorem dL_law_805 : decode cL_law 805 = .ok (.iaload, 1) := by decide +kernel
theorem dL_law_806 : decode cL_law 806 = .ok (.aload_n 0, 1) := by decide +kernel
theorem dL_law_807 : decode cL_law 807 = .ok (.iload_n 3, 1) := by decide +kernel
theorem dL_law_808 : decode cL_law 808 = .ok (.iconst 2, 1) := by decide +kernel
theorem dL_law_809 : decode cL_law 809 = .ok (.iadd, 1) := by decide +kernel
theorem dL_law_810 : decode cL_law 810 = .ok (.iaload, 1) := by decide +kernel
theorem dL_law_811 : decode cL_law 811 = .ok (.invokevirtual 91, 3) := by decide +kernel
theorem dL_law_814 : decode cL_law 814 = .ok (.aload_n 2, 1) := by decide +kernel
theorem dL_law_815 : decode cL_law 815 = .ok (.aload_n 0, 1) := by decide +kernel
theorem dL_law_816 : decode cL_law 816 = .ok (.iload_n 3, 1) := by decide +kernel
theorem dL_law_817 : decode cL_law 817 = .ok (.iconst 1, 1) := by decide +kernel
theorem dL_law_818 : decode cL_law 818 = .ok (.iadd, 1) := by decide +kernel
theorem dL_law_819 : decode cL_law 819 = .ok (.iaload, 1) := by decide +kernel
theorem dL_law_820 : decode cL_law 820 = .ok (.aload_n 0, 1) := by decide +kernel
theorem dL_law_821 : decode cL_law 821 = .ok (.iload_n 3, 1) := by decide +kernel
theorem dL_law_822 : decode cL_law 822 = .ok (.iconst 2, 1) := by decide +kernel
theorem dL_law_823 : decode cL_law 823 = .ok (.iadd, 1) := by decide +kernel
theorem dL_law_824 : decode cL_law 824 = .ok (.iaload, 1) := by decide +kernel
theorem dL_law_825 : decode cL_law 825 = .ok (.invokevirtual 94, 3) := by decide +kernel
theorem dL_law_828 : decode cL_law 828 = .ok (.if_icmp .eq 346, 3) := by decide +kernel
theorem dL_law_831 : decode cL_law 831 = .ok (.iconst 0, 1) := by decide +kernel
theorem dL_law_832 : decode cL_law 832 = .ok (.ireturn, 1) := by decide +kernel
theorem dL_law_833 : decode cL_law 833 = .ok (.aload_n 1, 1) := by decide +kernel
theorem dL_law_834 : decode cL_law 834 = .ok (.aload_n 0, 1) := by decide +kernel
theorem dL_law_835 : decode cL_law 835 = .ok (.iload_n 3, 1) := by decide +kernel
theorem dL_law_836 : decode cL_law 836 = .ok (.iconst 1, 1) := by decide +kernel
theorem dL_law_837 : decode cL_law 837 = .ok (.iadd, 1) := by decide +kernel
theorem dL_law_838 : decode cL_law 838 = .ok (.iaload, 1) := by decide +kernel
theorem dL_law_839 : decode cL_law 839 = .ok (.aload_n 0, 1) := by decide +kernel
theorem dL_law_840 : decode cL_law 840 = .ok (.iload_n 3, 1) := by decide +kernel
theorem dL_law_841 : decode cL_law 841 = .ok (.iconst 2, 1) := by decide +kernel
theorem dL_law_842 : decode cL_law 842 = .ok (.iadd, 1) := by decide +kernel
theorem dL_law_843 : decode cL_law 843 = .ok (.iaload, 1) := by decide +kernel
theorem dL_law_844 : decode cL_law 844 = .ok (.invokevirtual 95, 3) := by decide +kernel
theorem dL_law_847 : decode cL_law 847 = .ok (.aload_n 2, 1) := by decide +kernel
theorem dL_law_848 : decode cL_law 848 = .ok (.aload_n 0, 1) := by decide +kernel
theorem dL_law_849 : decode cL_law 849 = .ok (.iload_n 3, 1) := by decide +kernel
theorem dL_law_850 : decode cL_law 850 = .ok (.iconst 1, 1) := by decide +kernel
theorem dL_law_851 : decode cL_law 851 = .ok (.iadd, 1) := by decide +kernel
theorem dL_law_852 : decode cL_law 852 = .ok (.iaload, 1) := by decide +kernel
theorem dL_law_853 : decode cL_law 853 = .ok (.aload_n 0, 1) := by decide +kernel
theorem dL_law_854 : decode cL_law 854 = .ok (.iload_n 3, 1) := by decide +kernel
theorem dL_law_855 : decode cL_law 855 = .ok (.iconst 2, 1) := by decide +kernel
theorem dL_law_856 : decode cL_law 856 = .ok (.iadd, 1) := by decide +kernel
theorem dL_law_857 : decode cL_law 857 = .ok (.iaload, 1) := by decide +kernel
theorem dL_law_858 : decode cL_law 858 = .ok (.invokevirtual 98, 3) := by decide +kernel
theorem dL_law_861 : decode cL_law 861 = .ok (.if_icmp .eq 313, 3) := by decide +kernel
theorem dL_law_864 : decode cL_law 864 = .ok (.iconst 0, 1) := by decide +kernel
theorem dL_law_865 : decode cL_law 865 = .ok (.ireturn, 1) := by decide +kernel
theorem dL_law_866 : decode cL_law 866 = .ok (.aload_n 1, 1) := by decide +kernel
theorem dL_law_867 : decode cL_law 867 = .ok (.aload_n 0, 1) := by decide +kernel
theorem dL_law_868 : decode cL_law 868 = .ok (.iload_n 3, 1) := by decide +kernel
theorem dL_law_869 : decode cL_law 869 = .ok (.iconst 1, 1) := by decide +kernel
theorem dL_law_870 : decode cL_law 870 = .ok (.iadd, 1) := by decide +kernel
theorem dL_law_871 : decode cL_law 871 = .ok (.iaload, 1) := by decide +kernel
theorem dL_law_872 : decode cL_law 872 = .ok (.aload_n 0, 1) := by decide +kernel
theorem dL_law_873 : decode cL_law 873 = .ok (.iload_n 3, 1) := by decide +kernel
theorem dL_law_874 : decode cL_law 874 = .ok (.iconst 2, 1) := by decide +kernel
theorem dL_law_875 : decode cL_law 875 = .ok (.iadd, 1) := by decide +kernel
theorem dL_law_876 : decode cL_law 876 = .ok (.iaload, 1) := by decide +kernel
theorem dL_law_877 : decode cL_law 877 = .ok (.ifCond .eq 7, 3) := by decide +kernel
theorem dL_law_880 : decode cL_law 880 = .ok (.iconst 1, 1) := by decide +kernel
theorem dL_law_881 : decode cL_law 881 = .ok (.goto 4, 3) := by decide +kernel
theorem dL_law_884 : decode cL_law 884 = .ok (.iconst 0, 1) := by decide +kernel
theorem dL_law_885 : decode cL_law 885 = .ok (.invokevirtual 99, 3) := by decide +kernel
theorem dL_law_888 : decode cL_law 888 = .ok (.aload_n 2, 1) := by decide +kernel
theorem dL_law_889 : decode cL_law 889 = .ok (.aload_n 0, 1) := by decide +kernel
theorem dL_law_890 : decode cL_law 890 = .ok (.iload_n 3, 1) := by decide +kernel
theorem dL_law_891 : decode cL_law 891 = .ok (.iconst 1, 1) := by decide +kernel
theorem dL_law_892 : decode cL_law 892 = .ok (.iadd, 1) := by decide +kernel
theorem dL_law_893 : decode cL_law 893 = .ok (.iaload, 1) := by decide +kernel
theorem dL_law_894 : decode cL_law 894 = .ok (.aload_n 0, 1) := by decide +kernel
theorem dL_law_895 : decode cL_law 895 = .ok (.iload_n 3, 1) := by decide +kernel
theorem dL_law_896 : decode cL_law 896 = .ok (.iconst 2, 1) := by decide +kernel
theorem dL_law_897 : decode cL_law 897 = .ok (.iadd, 1) := by decide +kernel
theorem dL_law_898 : decode cL_law 898 = .ok (.iaload, 1) := by decide +kernel
theorem dL_law_899 : decode cL_law 899 = .ok (.ifCond .eq 7, 3) := by decide +kernel
theorem dL_law_902 : decode cL_law 902 = .ok (.iconst 1, 1) := by decide +kernel
theorem dL_law_903 : decode cL_law 903 = .ok (.goto 4, 3) := by decide +kernel
theorem dL_law_906 : decode cL_law 906 = .ok (.iconst 0, 1) := by decide +kernel
theorem dL_law_907 : decode cL_law 907 = .ok (.invokevirtual 102, 3) := by decide +kernel
theorem dL_law_910 : decode cL_law 910 = .ok (.if_icmp .eq 264, 3) := by decide +kernel
theorem dL_law_913 : decode cL_law 913 = .ok (.iconst 0, 1) := by decide +kernel
theorem dL_law_914 : decode cL_law 914 = .ok (.ireturn, 1) := by decide +kernel
theorem dL_law_915 : decode cL_law 915 = .ok (.aload_n 1, 1) := by decide +kernel
theorem dL_law_916 : decode cL_law 916 = .ok (.aload_n 0, 1) := by decide +kernel
theorem dL_law_917 : decode cL_law 917 = .ok (.iload_n 3, 1) := by decide +kernel
theorem dL_law_918 : decode cL_law 918 = .ok (.iconst 1, 1) := by decide +kernel
theorem dL_law_919 : decode cL_law 919 = .ok (.iadd, 1) := by decide +kernel
theorem dL_law_920 : decode cL_law 920 = .ok (.iaload, 1) := by decide +kernel
theorem dL_law_921 : decode cL_law 921 = .ok (.aload_n 0, 1) := by decide +kernel
theorem dL_law_922 : decode cL_law 922 = .ok (.iload_n 3, 1) := by decide +kernel
theorem dL_law_923 : decode cL_law 923 = .ok (.iconst 2, 1) := by decide +kernel
theorem dL_law_924 : decode cL_law 924 = .ok (.iadd, 1) := by decide +kernel
theorem dL_law_925 : decode cL_law 925 = .ok (.iaload, 1) := by decide +kernel
theorem dL_law_926 : decode cL_law 926 = .ok (.invokevirtual 103, 3) := by decide +kernel
theorem dL_law_929 : decode cL_law 929 = .ok (.aload_n 2, 1) := by decide +kernel
theorem dL_law_930 : decode cL_law 930 = .ok (.aload_n 0, 1) := by decide +kernel
theorem dL_law_931 : decode cL_law 931 = .ok (.iload_n 3, 1) := by decide +kernel
theorem dL_law_932 : decode cL_law 932 = .ok (.iconst 1, 1) := by decide +kernel
theorem dL_law_933 : decode cL_law 933 = .ok (.iadd, 1) := by decide +kernel
theorem dL_law_934 : decode cL_law 934 = .ok (.iaload, 1) := by decide +kernel
theorem dL_law_935 : decode cL_law 935 = .ok (.aload_n 0, 1) := by decide +kernel
theorem dL_law_936 : decode cL_law 936 = .ok (.iload_n 3, 1) := by decide +kernel
theorem dL_law_937 : decode cL_law 937 = .ok (.iconst 2, 1) := by decide +kernel
theorem dL_law_938 : decode cL_law 938 = .ok (.iadd, 1) := by decide +kernel
theorem dL_law_939 : decode cL_law 939 = .ok (.iaload, 1) := by decide +kernel
theorem dL_law_940 : decode cL_law 940 = .ok (.invokevirtual 106, 3) := by decide +kernel
theorem dL_law_943 : decode cL_law 943 = .ok (.if_icmp .eq 231, 3) := by decide +kernel
theorem dL_law_946 : decode cL_law 946 = .ok (.iconst 0, 1) := by decide +kernel
theorem dL_law_947 : decode cL_law 947 = .ok (.ireturn, 1) := by decide +kernel
theorem dL_law_948 : decode cL_law 948 = .ok (.aload_n 1, 1) := by decide +kernel
theorem dL_law_949 : decode cL_law 949 = .ok (.invokevirtual 107, 3) := by decide +kernel
theorem dL_law_952 : decode cL_law 952 = .ok (.aload_n 2, 1) := by decide +kernel
theorem dL_law_953 : decode cL_law 953 = .ok (.invokevirtual 110, 3) := by decide +kernel
theorem dL_law_956 : decode cL_law 956 = .ok (.if_icmp .eq 218, 3) := by decide +kernel
theorem dL_law_959 : decode cL_law 959 = .ok (.iconst 0, 1) := by decide +kernel
theorem dL_law_960 : decode cL_law 960 = .ok (.ireturn, 1) := by decide +kernel
theorem dL_law_961 : decode cL_law 961 = .ok (.aload_n 1, 1) := by decide +kernel
theorem dL_law_962 : decode cL_law 962 = .ok (.invokevirtual 111, 3) := by decide +kernel
theorem dL_law_965 : decode cL_law 965 = .ok (.aload_n 2, 1) := by decide +kernel
theorem dL_law_966 : decode cL_law 966 = .ok (.invokevirtual 114, 3) := by decide +kernel
theorem dL_law_969 : decode cL_law 969 = .ok (.if_icmp .eq 205, 3) := by decide +kernel
theorem dL_law_972 : decode cL_law 972 = .ok (.iconst 0, 1) := by decide +kernel
theorem dL_law_973 : decode cL_law 973 = .ok (.ireturn, 1) := by decide +kernel
theorem dL_law_974 : decode cL_law 974 = .ok (.aload_n 1, 1) := by decide +kernel
theorem dL_law_975 : decode cL_law 975 = .ok (.invokevirtual 115, 3) := by decide +kernel
theorem dL_law_978 : decode cL_law 978 = .ok (.aload_n 2, 1) := by decide +kernel
theorem dL_law_979 : decode cL_law 979 = .ok (.invokevirtual 118, 3) := by decide +kernel
theorem dL_law_982 : decode cL_law 982 = .ok (.if_icmp .eq 192, 3) := by decide +kernel
theorem dL_law_985 : decode cL_law 985 = .ok (.iconst 0, 1) := by decide +kernel
theorem dL_law_986 : decode cL_law 986 = .ok (.ireturn, 1) := by decide +kernel
theorem dL_law_987 : decode cL_law 987 = .ok (.aload_n 1, 1) := by decide +kernel
theorem dL_law_988 : decode cL_law 988 = .ok (.aload_n 0, 1) := by decide +kernel
theorem dL_law_989 : decode cL_law 989 = .ok (.iload_n 3, 1) := by decide +kernel
theorem dL_law_990 : decode cL_law 990 = .ok (.iconst 1, 1) := by decide +kernel
theorem dL_law_991 : decode cL_law 991 = .ok (.iadd, 1) := by decide +kernel
theorem dL_law_992 : decode cL_law 992 = .ok (.iaload, 1) := by decide +kernel
theorem dL_law_993 : decode cL_law 993 = .ok (.invokevirtual 119, 3) := by decide +kernel
theorem dL_law_996 : decode cL_law 996 = .ok (.aload_n 2, 1) := by decide +kernel
theorem dL_law_997 : decode cL_law 997 = .ok (.aload_n 0, 1) := by decide +kernel
theorem dL_law_998 : decode cL_law 998 = .ok (.iload_n 3, 1) := by decide +kernel
theorem dL_law_999 : decode cL_law 999 = .ok (.iconst 1, 1) := by decide +kernel
theorem dL_law_1000 : decode cL_law 1000 = .ok (.iadd, 1) := by decide +kernel
theorem dL_law_1001 : decode cL_law 1001 = .ok (.iaload, 1) := by decide +kernel
theorem dL_law_1002 : decode cL_law 1002 = .ok (.invokevirtual 122, 3) := by decide +kernel
theorem dL_law_1005 : decode cL_law 1005 = .ok (.if_icmp .eq 169, 3) := by decide +kernel
theorem dL_law_1008 : decode cL_law 1008 = .ok (.iconst 0, 1) := by decide +kernel
theorem dL_law_1009 : decode cL_law 1009 = .ok (.ireturn, 1) := by decide +kernel
theorem dL_law_1010 : decode cL_law 1010 = .ok (.aload_n 1, 1) := by decide +kernel
theorem dL_law_1011 : decode cL_law 1011 = .ok (.invokevirtual 123, 3) := by decide +kernel
theorem dL_law_1014 : decode cL_law 1014 = .ok (.aload_n 2, 1) := by decide +kernel
theorem dL_law_1015 : decode cL_law 1015 = .ok (.invokevirtual 126, 3) := by decide +kernel
theorem dL_law_1018 : decode cL_law 1018 = .ok (.if_icmp .eq 156, 3) := by decide +kernel
theorem dL_law_1021 : decode cL_law 1021 = .ok (.iconst 0, 1) := by decide +kernel
theorem dL_law_1022 : decode cL_law 1022 = .ok (.ireturn, 1) := by decide +kernel
theorem dL_law_1023 : decode cL_law 1023 = .ok (.aload_n 1, 1) := by decide +kernel
theorem dL_law_1024 : decode cL_law 1024 = .ok (.invokevirtual 127, 3) := by decide +kernel
theorem dL_law_1027 : decode cL_law 1027 = .ok (.aload_n 2, 1) := by decide +kernel
theorem dL_law_1028 : decode cL_law 1028 = .ok (.invokevirtual 130, 3) := by decide +kernel
theorem dL_law_1031 : decode cL_law 1031 = .ok (.if_icmp .eq 143, 3) := by decide +kernel
theorem dL_law_1034 : decode cL_law 1034 = .ok (.iconst 0, 1) := by decide +kernel
theorem dL_law_1035 : decode cL_law 1035 = .ok (.ireturn, 1) := by decide +kernel
theorem dL_law_1036 : decode cL_law 1036 = .ok (.aload_n 1, 1) := by decide +kernel
theorem dL_law_1037 : decode cL_law 1037 = .ok (.aload_n 0, 1) := by decide +kernel
theorem dL_law_1038 : decode cL_law 1038 = .ok (.iload_n 3, 1) := by decide +kernel
theorem dL_law_1039 : decode cL_law 1039 = .ok (.iconst 1, 1) := by decide +kernel
theorem dL_law_1040 : decode cL_law 1040 = .ok (.iadd, 1) := by decide +kernel
theorem dL_law_1041 : decode cL_law 1041 = .ok (.iaload, 1) := by decide +kernel
theorem dL_law_1042 : decode cL_law 1042 = .ok (.invokevirtual 131, 3) := by decide +kernel
theorem dL_law_1045 : decode cL_law 1045 = .ok (.aload_n 2, 1) := by decide +kernel
theorem dL_law_1046 : decode cL_law 1046 = .ok (.aload_n 0, 1) := by decide +kernel
theorem dL_law_1047 : decode cL_law 1047 = .ok (.iload_n 3, 1) := by decide +kernel
theorem dL_law_1048 : decode cL_law 1048 = .ok (.iconst 1, 1) := by decide +kernel
theorem dL_law_1049 : decode cL_law 1049 = .ok (.iadd, 1) := by decide +kernel
theorem dL_law_1050 : decode cL_law 1050 = .ok (.iaload, 1) := by decide +kernel
theorem dL_law_1051 : decode cL_law 1051 = .ok (.invokevirtual 134, 3) := by decide +kernel
theorem dL_law_1054 : decode cL_law 1054 = .ok (.if_icmp .eq 120, 3) := by decide +kernel
theorem dL_law_1057 : decode cL_law 1057 = .ok (.iconst 0, 1) := by decide +kernel
theorem dL_law_1058 : decode cL_law 1058 = .ok (.ireturn, 1) := by decide +kernel
theorem dL_law_1059 : decode cL_law 1059 = .ok (.aload_n 1, 1) := by decide +kernel
theorem dL_law_1060 : decode cL_law 1060 = .ok (.aload_n 0, 1) := by decide +kernel
theorem dL_law_1061 : decode cL_law 1061 = .ok (.iload_n 3, 1) := by decide +kernel
theorem dL_law_1062 : decode cL_law 1062 = .ok (.iconst 1, 1) := by decide +kernel
theorem dL_law_1063 : decode cL_law 1063 = .ok (.iadd, 1) := by decide +kernel
theorem dL_law_1064 : decode cL_law 1064 = .ok (.iaload, 1) := by decide +kernel
theorem dL_law_1065 : decode cL_law 1065 = .ok (.invokevirtual 135, 3) := by decide +kernel
theorem dL_law_1068 : decode cL_law 1068 = .ok (.aload_n 2, 1) := by decide +kernel
theorem dL_law_1069 : decode cL_law 1069 = .ok (.aload_n 0, 1) := by decide +kernel
theorem dL_law_1070 : decode cL_law 1070 = .ok (.iload_n 3, 1) := by decide +kernel
theorem dL_law_1071 : decode cL_law 1071 = .ok (.iconst 1, 1) := by decide +kernel
theorem dL_law_1072 : decode cL_law 1072 = .ok (.iadd, 1) := by decide +kernel
theorem dL_law_1073 : decode cL_law 1073 = .ok (.iaload, 1) := by decide +kernel
theorem dL_law_1074 : decode cL_law 1074 = .ok (.invokevirtual 138, 3) := by decide +kernel
theorem dL_law_1077 : decode cL_law 1077 = .ok (.if_icmp .eq 97, 3) := by decide +kernel
theorem dL_law_1080 : decode cL_law 1080 = .ok (.iconst 0, 1) := by decide +kernel
theorem dL_law_1081 : decode cL_law 1081 = .ok (.ireturn, 1) := by decide +kernel
theorem dL_law_1082 : decode cL_law 1082 = .ok (.aload_n 1, 1) := by decide +kernel
theorem dL_law_1083 : decode cL_law 1083 = .ok (.aload_n 0, 1) := by decide +kernel
theorem dL_law_1084 : decode cL_law 1084 = .ok (.iload_n 3, 1) := by decide +kernel
theorem dL_law_1085 : decode cL_law 1085 = .ok (.iconst 1, 1) := by decide +kernel
theorem dL_law_1086 : decode cL_law 1086 = .ok (.iadd, 1) := by decide +kernel
theorem dL_law_1087 : decode cL_law 1087 = .ok (.iaload, 1) := by decide +kernel
theorem dL_law_1088 : decode cL_law 1088 = .ok (.aload_n 0, 1) := by decide +kernel
theorem dL_law_1089 : decode cL_law 1089 = .ok (.iload_n 3, 1) := by decide +kernel
theorem dL_law_1090 : decode cL_law 1090 = .ok (.iconst 2, 1) := by decide +kernel
theorem dL_law_1091 : decode cL_law 1091 = .ok (.iadd, 1) := by decide +kernel
theorem dL_law_1092 : decode cL_law 1092 = .ok (.iaload, 1) := by decide +kernel
theorem dL_law_1093 : decode cL_law 1093 = .ok (.invokevirtual 139, 3) := by decide +kernel
theorem dL_law_1096 : decode cL_law 1096 = .ok (.aload_n 2, 1) := by decide +kernel
theorem dL_law_1097 : decode cL_law 1097 = .ok (.aload_n 0, 1) := by decide +kernel
theorem dL_law_1098 : decode cL_law 1098 = .ok (.iload_n 3, 1) := by decide +kernel
theorem dL_law_1099 : decode cL_law 1099 = .ok (.iconst 1, 1) := by decide +kernel
theorem dL_law_1100 : decode cL_law 1100 = .ok (.iadd, 1) := by decide +kernel
theorem dL_law_1101 : decode cL_law 1101 = .ok (.iaload, 1) := by decide +kernel
theorem dL_law_1102 : decode cL_law 1102 = .ok (.aload_n 0, 1) := by decide +kernel
theorem dL_law_1103 : decode cL_law 1103 = .ok (.iload_n 3, 1) := by decide +kernel
theorem dL_law_1104 : decode cL_law 1104 = .ok (.iconst 2, 1) := by decide +kernel
theorem dL_law_1105 : decode cL_law 1105 = .ok (.iadd, 1) := by decide +kernel
theorem dL_law_1106 : decode cL_law 1106 = .ok (.iaload, 1) := by decide +kernel
theorem dL_law_1107 : decode cL_law 1107 = .ok (.invokevirtual 142, 3) := by decide +kernel
theorem dL_law_1110 : decode cL_law 1110 = .ok (.if_icmp .eq 64, 3) := by decide +kernel
theorem dL_law_1113 : decode cL_law 1113 = .ok (.iconst 0, 1) := by decide +kernel
theorem dL_law_1114 : decode cL_law 1114 = .ok (.ireturn, 1) := by decide +kernel
theorem dL_law_1115 : decode cL_law 1115 = .ok (.aload_n 1, 1) := by decide +kernel
theorem dL_law_1116 : decode cL_law 1116 = .ok (.invokevirtual 143, 3) := by decide +kernel
theorem dL_law_1119 : decode cL_law 1119 = .ok (.aload_n 2, 1) := by decide +kernel
theorem dL_law_1120 : decode cL_law 1120 = .ok (.invokevirtual 146, 3) := by decide +kernel
theorem dL_law_1123 : decode cL_law 1123 = .ok (.if_icmp .eq 51, 3) := by decide +kernel
theorem dL_law_1126 : decode cL_law 1126 = .ok (.iconst 0, 1) := by decide +kernel
theorem dL_law_1127 : decode cL_law 1127 = .ok (.ireturn, 1) := by decide +kernel
theorem dL_law_1128 : decode cL_law 1128 = .ok (.aload_n 1, 1) := by decide +kernel
theorem dL_law_1129 : decode cL_law 1129 = .ok (.aload_n 0, 1) := by decide +kernel
theorem dL_law_1130 : decode cL_law 1130 = .ok (.iload_n 3, 1) := by decide +kernel
theorem dL_law_1131 : decode cL_law 1131 = .ok (.iconst 1, 1) := by decide +kernel
theorem dL_law_1132 : decode cL_law 1132 = .ok (.iadd, 1) := by decide +kernel
theorem dL_law_1133 : decode cL_law 1133 = .ok (.iaload, 1) := by decide +kernel
theorem dL_law_1134 : decode cL_law 1134 = .ok (.invokevirtual 147, 3) := by decide +kernel
theorem dL_law_1137 : decode cL_law 1137 = .ok (.aload_n 2, 1) := by decide +kernel
theorem dL_law_1138 : decode cL_law 1138 = .ok (.aload_n 0, 1) := by decide +kernel
theorem dL_law_1139 : decode cL_law 1139 = .ok (.iload_n 3, 1) := by decide +kernel
theorem dL_law_1140 : decode cL_law 1140 = .ok (.iconst 1, 1) := by decide +kernel
theorem dL_law_1141 : decode cL_law 1141 = .ok (.iadd, 1) := by decide +kernel
theorem dL_law_1142 : decode cL_law 1142 = .ok (.iaload, 1) := by decide +kernel
theorem dL_law_1143 : decode cL_law 1143 = .ok (.invokevirtual 150, 3) := by decide +kernel
theorem dL_law_1146 : decode cL_law 1146 = .ok (.if_icmp .eq 28, 3) := by decide +kernel
theorem dL_law_1149 : decode cL_law 1149 = .ok (.iconst 0, 1) := by decide +kernel
theorem dL_law_1150 : decode cL_law 1150 = .ok (.ireturn, 1) := by decide +kernel
theorem dL_law_1151 : decode cL_law 1151 = .ok (.aload_n 1, 1) := by decide +kernel
theorem dL_law_1152 : decode cL_law 1152 = .ok (.aload_n 0, 1) := by decide +kernel
theorem dL_law_1153 : decode cL_law 1153 = .ok (.iload_n 3, 1) := by decide +kernel
theorem dL_law_1154 : decode cL_law 1154 = .ok (.iconst 1, 1) := by decide +kernel
theorem dL_law_1155 : decode cL_law 1155 = .ok (.iadd, 1) := by decide +kernel
theorem dL_law_1156 : decode cL_law 1156 = .ok (.iaload, 1) := by decide +kernel
theorem dL_law_1157 : decode cL_law 1157 = .ok (.invokevirtual 151, 3) := by decide +kernel
theorem dL_law_1160 : decode cL_law 1160 = .ok (.aload_n 2, 1) := by decide +kernel
theorem dL_law_1161 : decode cL_law 1161 = .ok (.aload_n 0, 1) := by decide +kernel
theorem dL_law_1162 : decode cL_law 1162 = .ok (.iload_n 3, 1) := by decide +kernel
theorem dL_law_1163 : decode cL_law 1163 = .ok (.iconst 1, 1) := by decide +kernel
theorem dL_law_1164 : decode cL_law 1164 = .ok (.iadd, 1) := by decide +kernel
theorem dL_law_1165 : decode cL_law 1165 = .ok (.iaload, 1) := by decide +kernel
theorem dL_law_1166 : decode cL_law 1166 = .ok (.invokevirtual 154, 3) := by decide +kernel
theorem dL_law_1169 : decode cL_law 1169 = .ok (.if_icmp .eq 5, 3) := by decide +kernel
theorem dL_law_1172 : decode cL_law 1172 = .ok (.iconst 0, 1) := by decide +kernel
theorem dL_law_1173 : decode cL_law 1173 = .ok (.ireturn, 1) := by decide +kernel
theorem dL_law_1174 : decode cL_law 1174 = .ok (.iinc 3 5, 3) := by decide +kernel
theorem dL_law_1177 : decode cL_law 1177 = .ok (.goto (-1159), 3) := by decide +kernel
theorem dL_law_1180 : decode cL_law 1180 = .ok (.iconst 1, 1) := by decide +kernel
theorem dL_law_1181 : decode cL_law 1181 = .ok (.ireturn, 1) := by decide +kernel
end
section
/-! the machine of ONE static world: cells by number, their ints by place -/
abbrev zMem : Type := Nat → Nat → Int
/-- an int, a long, a reference to the cell of a number -/
abbrev zAV : Type := Int ⊕ (Int ⊕ Nat)
abbrev zi (x : Int) : zAV := .inl x
abbrev zl (x : Int) : zAV := .inr (.inl x)
abbrev zr (c : Nat) : zAV := .inr (.inr c)
/-- a method: its class, code, locals, answer, name -/
abbrev zD : Type := String × ByteArray × Nat × Option FieldType × MethodName
abbrev zrng (x : Int) : Prop := -2147483648 ≤ x ∧ x ≤ 2147483647
abbrev zrngL (x : Int) : Prop := -9223372036854775808 ≤ x ∧ x ≤ 9223372036854775807
def zcv (as : Nat → Nat) (v : zAV) : Value := match v with
  | .inl x => .int (Int32.ofInt x)
  | .inr (.inl x) => .long (Int64.ofInt x)
  | .inr (.inr c) => .ref (as c)
def zmu (M : zMem) (c i : Nat) (v : Int) : zMem := fun c' => if c' = c then (fun i' => if i' = i then v else M c i') else M c'
def zR (M : zMem) : Prop := (∀ c i, c ≠ 29 → zrng (M c i)) ∧ ∀ i, zrngL (M 29 i)
theorem zmu_same (M : zMem) (c i : Nat) (v : Int) : zmu M c i v c i = v := by simp [zmu]
theorem zmu_ne (M : zMem) (c i : Nat) (v : Int) {j : Nat} (h : j ≠ i) : zmu M c i v c j = M c j := by simp [zmu, h]
theorem zmu_other (M : zMem) (c i : Nat) (v : Int) {c' : Nat} (h : c' ≠ c) : zmu M c i v c' = M c' := by simp [zmu, h]
theorem zR.mu {M : zMem} (h : zR M) {c i : Nat} {v : Int} (hc : c ≠ 29) (hv : zrng v) : zR (zmu M c i v) := by
  refine ⟨fun c' i' h' => ?_, fun i' => ?_⟩
  · by_cases e : c' = c
    · subst e
      by_cases e2 : i' = i
      · subst e2; rw [zmu_same]; exact hv
      · rw [zmu_ne _ _ _ _ e2]; exact h.1 _ _ h'
    · rw [zmu_other _ _ _ _ e]; exact h.1 _ _ h'
  · rw [zmu_other _ _ _ _ (Ne.symm hc)]; exact h.2 i'
theorem zR.muL {M : zMem} (h : zR M) {i : Nat} {v : Int} (hv : zrngL v) : zR (zmu M 29 i v) := by
  refine ⟨fun c' i' h' => ?_, fun i' => ?_⟩
  · rw [zmu_other _ _ _ _ h']; exact h.1 _ _ h'
  · by_cases e2 : i' = i
    · subst e2; rw [zmu_same]; exact hv
    · rw [zmu_ne _ _ _ _ e2]; exact h.2 _
/-- all words of the tables that last -/
def zAll : List Cond := lw_tbl.filter goodWord
theorem zAll_good {w : Cond} (h : w ∈ zAll) : (w.onTables && w.keeps) = true ∨ ∃ ty, w = .arrayClass ty := good_of_word (List.mem_filter.mp h).2
theorem zAll_of {w : Cond} (i : Nat) (h : lw_tbl[i]? = some w) (hg : goodWord w = true) : w ∈ zAll := List.mem_filter.mpr ⟨List.mem_of_getElem? h, hg⟩
def zws (μ : zD) : List Cond := Cond.code μ.2.2.2.2 μ.2.1 μ.2.2.1 μ.2.2.2.1 :: zAll
def zrm (d : Nat) : Room := { frames := d, cells := 0, slots := 0, locals := 30 * d }
theorem zws_good {Ts : List Cond} {μ : zD} (hT : ∀ w ∈ zAll, w ∈ Ts) (hc : Cond.code μ.2.2.2.2 μ.2.1 μ.2.2.1 μ.2.2.2.1 ∈ zAll) : GoodIn Ts (zws μ) := by
  intro w hw
  have : w ∈ zAll := by
    rcases List.mem_cons.mp hw with h | h
    · rw [h]; exact hc
    · exact h
  exact ⟨hT w this, zAll_good this⟩
/-- what the world may write: its cells, and what is new -/
def zA (as : Nat → Nat) (sz : Nat) : Nat → Prop := fun q => (∃ c, c < 65 ∧ q = as c) ∨ sz ≤ q
/-- the locals, by place; a long counts while nothing is told of the place behind it -/
def zL (as : Nat → Nat) (lsA : Array Slot) (nL : Nat) (ls : List (Option zAV)) : Prop :=
  lsA.size = nL ∧ lv_wf lsA ∧ ls.length = nL ∧ ∀ (i : Nat) (v : zAV), ls[i]? = some (some v) → (v.isLeft = true ∨ (∃ c, v = zr c) ∨ ls[i + 1]? = some none) → lsA[i]? = some (.val (zcv as v))
/-- the static world: an array of ints (0), of longs (1), of booleans (2) and its length, or an object: its class, and which cell a field holds -/
def zshapes : List ((Nat × Nat) ⊕ (Nat × List (Option Nat))) := [
  .inr (7, [some 1, some 2, some 3, some 4, some 5, some 6, some 7, some 8]),
  .inr (6, [some 10, some 11, some 12, none]),
  .inr (2, [some 13, some 14, none]),
  .inr (5, [some 15, some 16, none]),
  .inr (0, [some 17, some 18, some 19, some 20, none, none, none, some 3]),
  .inr (1, [some 21, some 22, some 23, some 24, some 25, some 26, none]),
  .inr (4, [some 1, some 4, some 5, some 3, some 27, some 28, none, none, none, none, some 29, some 30, none, none]),
  .inr (3, [some 31, some 32, some 33, some 34, none, none]),
  .inl (0, 3),
  .inr (8, [none, some 35, some 36, some 37, none, some 38, some 39, none, none, some 40, some 41, some 42, some 43, some 44, some 45, none, some 46, some 47, none, some 48, some 49, some 50, some 51, some 52, some 53, none, some 54, some 55, some 56, some 57, some 58, some 59, some 60, some 61, some 62, some 63, some 64, none]),
  .inl (0, 20),
  .inl (0, 20),
  .inl (0, 20),
  .inl (0, 6),
  .inl (0, 6),
  .inl (0, 9),
  .inl (0, 20),
  .inl (0, 3341),
  .inl (0, 3341),
  .inl (0, 3341),
  .inl (0, 3341),
  .inl (0, 12),
  .inl (0, 12),
  .inl (0, 12),
  .inl (0, 12),
  .inl (0, 12),
  .inl (2, 12),
  .inl (0, 40),
  .inl (0, 40),
  .inl (1, 6682),
  .inl (0, 40),
  .inl (0, 20),
  .inl (0, 20),
  .inl (0, 400),
  .inl (0, 20),
  .inl (0, 20),
  .inl (0, 20),
  .inl (0, 400),
  .inl (0, 6),
  .inl (0, 6),
  .inl (0, 9),
  .inl (0, 20),
  .inl (2, 20),
  .inl (0, 19700),
  .inl (0, 19700),
  .inl (0, 3),
  .inl (0, 19700),
  .inl (0, 41),
  .inl (0, 13),
  .inl (0, 13),
  .inl (0, 13),
  .inl (2, 13),
  .inl (2, 117),
  .inl (2, 4680),
  .inl (0, 3),
  .inl (0, 12),
  .inl (0, 2),
  .inl (0, 12),
  .inl (0, 12),
  .inl (0, 6),
  .inl (0, 6),
  .inl (0, 400),
  .inl (0, 20),
  .inl (0, 20),
  .inl (2, 400)]
def zsh (c : Nat) : (Nat × Nat) ⊕ (Nat × List (Option Nat)) := zshapes.getD c (.inl (0, 0))
def zro (c j : Nat) : Int := match c with
  | 70 => ([0, 1, 16, 19683] : List Int).getD j 0
  | 71 => ([0, 1, 2, 1, 0, 2, 0, 2, 1, 2, 1, 0, 1, 2, 0, 2, 0, 1] : List Int).getD j 0
  | 72 => ([0, 1, 2, 1, 0, 2, 0, 2, 1, 2, 1, 0, 2, 0, 1, 1, 2, 0] : List Int).getD j 0
  | 73 => ([1, 1, 2, 6] : List Int).getD j 0
  | 74 => ([0, 0, 1, 11, 3341] : List Int).getD j 0
  | _ => 0
/-- the tables that nobody writes -/
def zX (as : Nat → Nat) (A : Nat → Prop) (U : State) (H : Heap) : Prop := (va_Z "SmallWorlds" "TABLES" "[I" (.ref (as 70)) A U H ∧ va_T .int (as 70) 4 (fun j => .int (Int32.ofInt (zro 70 j))) A U H) ∧ (va_Z "SmallWorlds$Table" "NEW_NAME" "[I" (.ref (as 71)) A U H ∧ va_T .int (as 71) 18 (fun j => .int (Int32.ofInt (zro 71 j))) A U H) ∧ (va_Z "SmallWorlds$Table" "OLD_NAME" "[I" (.ref (as 72)) A U H ∧ va_T .int (as 72) 18 (fun j => .int (Int32.ofInt (zro 72 j))) A U H) ∧ (va_Z "SmallWorlds$Table" "RENAMINGS" "[I" (.ref (as 73)) A U H ∧ va_T .int (as 73) 4 (fun j => .int (Int32.ofInt (zro 73 j))) A U H) ∧ (va_Z "SmallWorlds$Catalog" "START" "[I" (.ref (as 74)) A U H ∧ va_T .int (as 74) 5 (fun j => .int (Int32.ofInt (zro 74 j))) A U H)
/-- the words of nest mates -/
def zN (U : State) : Prop := va_Nw (.methodLinkNest "SmallWorlds" 18 ⟨"SmallWorlds$Page", "<init>", "()V"⟩ "SmallWorlds") U ∧ va_Nw (.methodLinkNest "SmallWorlds" 25 ⟨"SmallWorlds$Table", "<init>", "()V"⟩ "SmallWorlds") U ∧ va_Nw (.methodLinkNest "SmallWorlds" 41 ⟨"SmallWorlds$Notions", "<init>", "()V"⟩ "SmallWorlds") U ∧ va_Nw (.methodLinkNest "SmallWorlds" 57 ⟨"SmallWorlds$Rounds", "<init>", "()V"⟩ "SmallWorlds") U ∧ va_Nw (.methodLinkNest "SmallWorlds$Table" 24 ⟨"SmallWorlds", "isSize", "(I)Z"⟩ "SmallWorlds") U ∧ va_Nw (.fieldLinkNest "SmallWorlds$Catalog" 60 "SmallWorlds" "TABLES" "[I" "SmallWorlds") U
/-- what cell c holds -/
def zE (as : Nat → Nat) (cA : Nat → ClassId) (M : zMem) (c : Nat) : va_E := match zsh c with
  | .inl (0, n) => .inl (cA 0, n, .inl (fun i => Int32.ofInt (M c i)))
  | .inl (1, n) => .inl (cA 1, n, .inr (.inl (fun i => Int64.ofInt (M c i))))
  | .inl (_, n) => .inl (cA 2, n, .inl (fun i => Int32.ofInt (M c i)))
  | .inr (ci, rs) => .inr (ci, rs.zipIdx.map (fun q => match q.1 with | some c' => Value.ref (as c') | none => Value.int (Int32.ofInt (M c q.2))))
def zw (as : Nat → Nat) (cA : Nat → ClassId) (M : zMem) : va_W := (List.range 65).map (fun c => (as c, zE as cA M c))
def ztys (cA : Nat → ClassId) : List (ClassId × FieldType) := [(cA 0, .int), (cA 1, .long), (cA 2, .boolean)]
theorem zw_at (as : Nat → Nat) (cA : Nat → ClassId) (M : zMem) {c : Nat} (h : c < 65) : (zw as cA M)[c]? = some (as c, zE as cA M c) := by
  simp [zw, List.getElem?_map, List.getElem?_range h]
theorem zw_set (as : Nat → Nat) (cA : Nat → ClassId) (M M' : zMem) {c : Nat} (e : va_E) (h : c < 65) (he : e = zE as cA M' c) (ho : ∀ c', c' ≠ c → M' c' = M c') : (zw as cA M).set c (as c, e) = zw as cA M' := by
  subst he
  apply List.ext_getElem?
  intro k
  by_cases hk : k = c
  · subst hk
    rw [List.getElem?_set_self (by simpa [zw] using h), zw_at _ _ _ h]
  · rw [List.getElem?_set_ne (Ne.symm hk)]
    by_cases h2 : k < 65
    · rw [zw_at _ _ _ h2, zw_at _ _ _ h2]
      simp only [zE, ho k hk]
    · rw [List.getElem?_eq_none (by simpa [zw] using h2), List.getElem?_eq_none (by simpa [zw] using h2)]
theorem zE_i (as : Nat → Nat) (cA : Nat → ClassId) (M : zMem) {c n : Nat} (h : zsh c = .inl (0, n)) : zE as cA M c = .inl (cA 0, n, .inl (fun i => Int32.ofInt (M c i))) := by simp [zE, h]
theorem zE_l (as : Nat → Nat) (cA : Nat → ClassId) (M : zMem) {c n : Nat} (h : zsh c = .inl (1, n)) : zE as cA M c = .inl (cA 1, n, .inr (.inl (fun i => Int64.ofInt (M c i)))) := by simp [zE, h]
theorem zE_z (as : Nat → Nat) (cA : Nat → ClassId) (M : zMem) {c n : Nat} (h : zsh c = .inl (2, n)) : zE as cA M c = .inl (cA 2, n, .inl (fun i => Int32.ofInt (M c i))) := by simp [zE, h]
def zfs (as : Nat → Nat) (M : zMem) (c : Nat) (rs : List (Option Nat)) : List Value := rs.zipIdx.map (fun q => match q.1 with | some c' => Value.ref (as c') | none => Value.int (Int32.ofInt (M c q.2)))
theorem zE_o (as : Nat → Nat) (cA : Nat → ClassId) (M : zMem) {c ci : Nat} {rs : List (Option Nat)} (h : zsh c = .inr (ci, rs)) : zE as cA M c = .inr (ci, zfs as M c rs) := by simp [zE, h, zfs]
theorem zfs_ref {as : Nat → Nat} {M : zMem} {c k c' : Nat} {rs : List (Option Nat)} (h : rs[k]? = some (some c')) : (zfs as M c rs)[k]? = some (Value.ref (as c')) := by
  simp [zfs, List.getElem?_map, List.getElem?_zipIdx, h]
theorem zfs_int {as : Nat → Nat} {M : zMem} {c k : Nat} {rs : List (Option Nat)} (h : rs[k]? = some none) : (zfs as M c rs)[k]? = some (Value.int (Int32.ofInt (M c k))) := by
  simp [zfs, List.getElem?_map, List.getElem?_zipIdx, h]
theorem zfs_set {as : Nat → Nat} {M : zMem} {c k : Nat} {rs : List (Option Nat)} (v : Int) (h : rs[k]? = some none) : (zfs as M c rs).set k (Value.int (Int32.ofInt v)) = zfs as (zmu M c k v) c rs := by
  have hk : k < rs.length := (List.getElem?_eq_some_iff.mp h).1
  apply List.ext_getElem?
  intro j
  by_cases hj : j = k
  · subst hj
    rw [List.getElem?_set_self (by simpa [zfs] using hk), zfs_int h, zmu_same]
  · rw [List.getElem?_set_ne (Ne.symm hj)]
    simp only [zfs, List.getElem?_map, List.getElem?_zipIdx]
    cases hr : rs[j]? with
    | none => simp
    | some r =>
      cases r with
      | none => simp [zmu, hj]
      | some c' => simp
theorem zupd (M : zMem) (c j : Nat) (v : Int) : upd (fun i => Int32.ofInt (M c i)) j (Int32.ofInt v) = fun i => Int32.ofInt (zmu M c j v c i) := by
  funext i
  by_cases h : i = j
  · subst h; simp [upd, zmu]
  · simp [upd, zmu, h]
theorem zupdL (M : zMem) (c j : Nat) (v : Int) : vp_updL (fun i => Int64.ofInt (M c i)) j (Int64.ofInt v) = fun i => Int64.ofInt (zmu M c j v c i) := by
  funext i
  by_cases h : i = j
  · subst h; simp [vp_updL, zmu]
  · simp [vp_updL, zmu, h]
/-- the tables' side of a state -/
def zCx (dC : Nat → ClassId) (dI : Nat → Nat → Nat) (as : Nat → Nat) (cA : Nat → ClassId) (A : Nat → Prop) (U : State) (H : Heap) : Prop := va_K (dC, dI) vwCl (ztys cA) U ∧ zX as A U H ∧ zN U
theorem zX.moved {as : Nat → Nat} {A : Nat → Prop} {u U : State} {H : Heap} (hvm : u.vm.Alike U.vm) (h : zX as A u H) : zX as A U H := by
  obtain ⟨⟨a1, a2⟩, ⟨b1, b2⟩, ⟨c1, c2⟩, ⟨d1, d2⟩, e1, e2⟩ := h
  exact ⟨⟨a1.moved hvm, a2.moved hvm⟩, ⟨b1.moved hvm, b2.moved hvm⟩, ⟨c1.moved hvm, c2.moved hvm⟩, ⟨d1.moved hvm, d2.moved hvm⟩, e1.moved hvm, e2.moved hvm⟩
theorem zX.kept {as : Nat → Nat} {A : Nat → Prop} {U : State} {H H1 : Heap} (h : zX as A U H) (hq : ∀ a : Nat, a < H.size → ¬ A a → H1[a]? = H[a]?) : zX as A U H1 := by
  obtain ⟨⟨a1, a2⟩, ⟨b1, b2⟩, ⟨c1, c2⟩, ⟨d1, d2⟩, e1, e2⟩ := h
  exact ⟨⟨a1.kept hq, a2.kept hq⟩, ⟨b1.kept hq, b2.kept hq⟩, ⟨c1.kept hq, c2.kept hq⟩, ⟨d1.kept hq, d2.kept hq⟩, e1.kept hq, e2.kept hq⟩
theorem zX.narrow {as : Nat → Nat} {A B : Nat → Prop} {U : State} {H : Heap} (h : zX as A U H) (hAB : ∀ q, B q → A q) : zX as B U H := by
  obtain ⟨⟨a1, a2⟩, ⟨b1, b2⟩, ⟨c1, c2⟩, ⟨d1, d2⟩, e1, e2⟩ := h
  exact ⟨⟨a1.narrow hAB, a2.narrow hAB⟩, ⟨b1.narrow hAB, b2.narrow hAB⟩, ⟨c1.narrow hAB, c2.narrow hAB⟩, ⟨d1.narrow hAB, d2.narrow hAB⟩, e1.narrow hAB, e2.narrow hAB⟩
theorem zN.warm {s U : State} (hW : s.WarmedH U.vm) (h : zN s) : zN U := by
  obtain ⟨h1, h2, h3, h4, h5, h6⟩ := h
  exact ⟨h1.warmM hW, h2.warmM hW, h3.warmM hW, h4.warmM hW, h5.warmM hW, h6.warmF hW⟩
theorem zN.same {s U : State} (hW : s.vm = U.vm) (h : zN s) : zN U := by
  obtain ⟨h1, h2, h3, h4, h5, h6⟩ := h
  exact ⟨h1.same rfl hW, h2.same rfl hW, h3.same rfl hW, h4.same rfl hW, h5.same rfl hW, h6.same rfl hW⟩
/-- a method's world behind it -/
def zB (dC : Nat → ClassId) (dI : Nat → Nat → Nat) (as : Nat → Nat) (cA : Nat → ClassId) (A : Nat → Prop) (M : zMem) (t : State) : Prop := va_P (dC, dI) vwCl (zw as cA M) t.heap ∧ va_D A (zw as cA M)
def zQ (ret : Option FieldType) (dC : Nat → ClassId) (dI : Nat → Nat → Nat) (as : Nat → Nat) (cA : Nat → ClassId) (A : Nat → Prop) (post : Int → zMem → Prop) : Array Value → State → Outcome → State → Prop := match ret with
  | none => va_Qv (fun u : zMem => post 0 u ∧ zR u) (fun u t => zB dC dI as cA A u t) A
  | some _ => va_Qi (fun (r : Int32) (u : Int × zMem) => r = Int32.ofInt u.1 ∧ post u.1 u.2 ∧ zR u.2) (fun u t => zB dC dI as cA A u.2 t) A
def zPc (dC : Nat → ClassId) (dI : Nat → Nat → Nat) (as : Nat → Nat) (cA : Nat → ClassId) (sz : Nat) (av : List zAV) (M : zMem) : Array Value → State → Prop := va_Pc (av.map (zcv as)) (fun U => U.heap.size = sz ∧ va_P (dC, dI) vwCl (zw as cA M) U.heap ∧ zCx dC dI as cA (zA as sz) U U.heap ∧ va_D (fun _ => True) (zw as cA M))
/-- A METHOD'S CONTRACT over the static world -/
def zSp (μ : zD) (d : Nat) (av : List zAV) (M : zMem) (post : Int → zMem → Prop) : Prop := zR M → ∀ (l : Launch) (dC : Nat → ClassId) (dI : Nat → Nat → Nat) (as : Nat → Nat) (cA : Nat → ClassId) (sz : Nat),
  Met l μ.2.2.2.2 (zws μ) (zrm d) (zPc dC dI as cA sz av M) (zQ μ.2.2.2.1 dC dI as cA (zA as sz) post) 0 0 (zA as sz)
/-- what a method's walk stands on -/
def zC (μ : zD) (dC : Nat → ClassId) (dI : Nat → Nat → Nat) (as : Nat → Nat) (cA : Nat → ClassId) (p : Program) (s : State) (m : MethodId) (args : Array Value) (meth : Method) (c : Code) : Prop :=
  p.tables.exec = Jvm.exec ∧ c.code = μ.2.1 ∧ c.maxLocals = μ.2.2.1 ∧ s.vm.findClass μ.1 = some m.cls ∧ (∀ w ∈ zAll, w.before args s = true) ∧ meth.sig.returnType = μ.2.2.2.1 ∧ meth.locks = false ∧ zCx dC dI as cA (zA as s.heap.size) s s.heap
/-- THE WALK: from pc, with locals ls, stack st and the world M, the method comes to its end, and post holds -/
def zV (μ : zD) (d pc : Nat) (ls : List (Option zAV)) (st : List zAV) (M : zMem) (post : Int → zMem → Prop) : Prop :=
  zR M → ∀ (l : Launch) (dC : Nat → ClassId) (dI : Nat → Nat → Nat) (as : Nat → Nat) (cA : Nat → ClassId) (p : Program) (e : Env) (s : State) (m : MethodId) (args : Array Value) (below : List Frame) (meth : Method) (c : Code) (H : Heap) (locs : List Loc) (lsA : Array Slot),
    zC μ dC dI as cA p s m args meth c → va_P (dC, dI) vwCl (zw as cA M) H → va_D (zA as s.heap.size) (zw as cA M) → va_S (zA as s.heap.size) s.heap H locs → zL as lsA μ.2.2.1 ls →
    W p l e (zrm d) s m args below meth c H locs 0 0 (MQ below (zQ μ.2.2.2.1 dC dI as cA (zA as s.heap.size) post) args s 0 0 (zA as s.heap.size)) (F0 m pc lsA (st.map (zcv as)))
end
section
/-! the rules: a row an instruction -/
theorem zSp_of_V {μ : zD} {d : Nat} {av : List zAV} {M : zMem} {post : Int → zMem → Prop} (ls0 : List (Option zAV)) (hy : plainName μ.2.2.2.2.cls = true) (ho : μ.2.2.2.2.cls = μ.1)
    (hls : ∀ as : Nat → Nat, (lg_sl (av.map (zcv as))).length ≤ μ.2.2.1) (hz : ∀ (as : Nat → Nat) (lsA : Array Slot), lv_has lsA μ.2.2.1 (lv_args 0 (av.map (zcv as))) → zL as lsA μ.2.2.1 ls0)
    (k : zV μ d 0 ls0 [] M post) : zSp μ d av M post := by
  intro hR l dC dI as cA sz
  refine Met.ofW (cc := μ.2.1) (maxL := μ.2.2.1) (ret := μ.2.2.2.1) hy rfl ?_
  intro p e s m args below meth c s₁ B hml hv
  obtain ⟨rfl, hsz, hP, hK, hD0⟩ := hv
  subst hsz
  have hts := atoms_spec (ws := zws μ) B.pre
  have hown : s.vm.findClass μ.1 = some m.cls := by rw [← ho]; exact findClass_of_methodNamed B.named
  have hD : va_D (zA as s.heap.size) (zw as cA M) := ⟨hD0.1, fun k q hk => by
    have hl : k < 65 := by
      have := (List.getElem?_eq_some_iff.mp hk).1
      simpa [zw] using this
    rw [zw_at as cA M hl] at hk
    cases hk
    exact Or.inl ⟨k, hl, rfl⟩⟩
  have hl := lv_entry (av.map (zcv as)) (n := μ.2.2.1) (hls as)
  rw [lg_entry_eq]
  exact k hR l dC dI as cA p e s m _ below meth c s.heap [] _ ⟨B.exec, B.bytes, hml, hown, fun w hw => hts w (List.mem_cons_of_mem _ hw), B.returns, B.notSynchronized, hK⟩ hP hD va_S.rf (hz as _ hl)
theorem z_withR {μ : zD} {d pc : Nat} {ls : List (Option zAV)} {st : List zAV} {M : zMem} {post : Int → zMem → Prop} (k : zR M → zV μ d pc ls st M post) : zV μ d pc ls st M post := fun hR => k hR hR
/-- forget what is told of some places -/
theorem zL.set {as : Nat → Nat} {lsA : Array Slot} {nL i : Nat} {ls : List (Option zAV)} {v : zAV} (h : zL as lsA nL ls) (hi : i < nL) (hc : (zcv as v).category = 1) : ∃ lsA', storeLocals lsA i (zcv as v) = some lsA' ∧ zL as lsA' nL (ls.set i (some v)) := by
  obtain ⟨h1, h2, h3, h4⟩ := h
  obtain ⟨ls', e', g1, g2, g3⟩ := lv_store1 (l := []) (v := zcv as v) ⟨h1, h2, fun q hq => by cases hq⟩ hi hc
  refine ⟨ls', e', g1, g2, by rw [List.length_set]; exact h3, fun j w hj hw => ?_⟩
  by_cases hji : j = i
  · subst hji
    rw [List.getElem?_set_self (by rw [h3]; exact hi)] at hj
    cases hj
    exact g3 (j, zcv as v) List.mem_cons_self
  · rw [List.getElem?_set_ne (Ne.symm hji)] at hj
    have hw' : w.isLeft = true ∨ (∃ c, w = zr c) ∨ (ls[j + 1]? = some none ∧ j + 1 ≠ i) := by
      rcases hw with hw | hw | hw
      · exact Or.inl hw
      · exact Or.inr (Or.inl hw)
      · refine Or.inr (Or.inr ?_)
        by_cases hji2 : j + 1 = i
        · rw [hji2, List.getElem?_set_self (by rw [h3]; exact hi)] at hw
          cases hw
        · rw [List.getElem?_set_ne (Ne.symm hji2)] at hw
          exact ⟨hw, hji2⟩
    have hat : lsA[j]? = some (.val (zcv as w)) := h4 j w hj (hw'.imp id (Or.imp id And.left))
    obtain ⟨ls'', e'', -, -, q3⟩ := lv_store1 (l := [(j, zcv as w)]) (v := zcv as v) ⟨h1, h2, fun q hq => by rw [List.mem_singleton.mp hq]; exact hat⟩ hi hc
    cases e'.symm.trans e''
    refine q3 (j, zcv as w) (List.mem_cons_of_mem _ (List.mem_filter.mpr ⟨List.mem_singleton.mpr rfl, ?_⟩))
    have hne : (j == i) = false := by simpa using hji
    simp only [hne, Bool.not_false, Bool.true_and]
    rcases hw' with h | ⟨c, rfl⟩ | ⟨-, h⟩
    · cases w with
      | inl x => simp [zcv, Value.category]
      | inr x => simp at h
    · simp [zcv, Value.category]
    · have : (j + 1 == i) = false := by simpa using h
      simp [this]
theorem zL.set2 {as : Nat → Nat} {lsA : Array Slot} {nL i : Nat} {ls : List (Option zAV)} {x : Int} (h : zL as lsA nL ls) (hi : i + 1 < nL) : ∃ lsA', storeLocals lsA i (zcv as (zl x)) = some lsA' ∧ zL as lsA' nL ((ls.set i (some (zl x))).set (i + 1) none) := by
  obtain ⟨h1, h2, h3, h4⟩ := h
  obtain ⟨ls', e', g1, g2, g3⟩ := lv_store2 (l := []) (v := zcv as (zl x)) ⟨h1, h2, fun q hq => by cases hq⟩ hi rfl
  refine ⟨ls', e', g1, g2, by rw [List.length_set, List.length_set]; exact h3, fun j w hj hw => ?_⟩
  by_cases hj1 : j = i + 1
  · subst hj1
    rw [List.getElem?_set_self (by rw [List.length_set, h3]; exact hi)] at hj
    cases hj
  rw [List.getElem?_set_ne (Ne.symm hj1)] at hj
  by_cases hji : j = i
  · subst hji
    rw [List.getElem?_set_self (by rw [h3]; omega)] at hj
    cases hj
    exact g3 (j, zcv as (zl x)) List.mem_cons_self
  · rw [List.getElem?_set_ne (Ne.symm hji)] at hj
    have hw' : w.isLeft = true ∨ (∃ c, w = zr c) ∨ (ls[j + 1]? = some none ∧ j + 1 ≠ i) := by
      rcases hw with hw | hw | hw
      · exact Or.inl hw
      · exact Or.inr (Or.inl hw)
      · refine Or.inr (Or.inr ?_)
        by_cases hji2 : j + 1 = i
        · rw [hji2, List.getElem?_set_ne (by omega), List.getElem?_set_self (by rw [h3]; omega)] at hw
          cases hw
        · rw [List.getElem?_set_ne (by omega), List.getElem?_set_ne (Ne.symm hji2)] at hw
          exact ⟨hw, hji2⟩
    have hat : lsA[j]? = some (.val (zcv as w)) := h4 j w hj (hw'.imp id (Or.imp id And.left))
    obtain ⟨ls'', e'', -, -, q3⟩ := lv_store2 (l := [(j, zcv as w)]) (v := zcv as (zl x)) ⟨h1, h2, fun q hq => by rw [List.mem_singleton.mp hq]; exact hat⟩ hi rfl
    cases e'.symm.trans e''
    refine q3 (j, zcv as w) (List.mem_cons_of_mem _ (List.mem_filter.mpr ⟨List.mem_singleton.mpr rfl, ?_⟩))
    have hne : (j == i) = false := by simpa using hji
    have hne1 : (j == i + 1) = false := by simpa using hj1
    simp only [hne, hne1, Bool.not_false, Bool.true_and]
    rcases hw' with h | ⟨c, rfl⟩ | ⟨-, h⟩
    · cases w with
      | inl x => simp [zcv, Value.category]
      | inr x => simp at h
    · simp [zcv, Value.category]
    · have : (j + 1 == i) = false := by simpa using h
      simp [this]
end
section
theorem z_toInt {x : Int} (h : zrng x) : (Int32.ofInt x).toInt = x := Int32.toInt_ofInt_of_le (by omega) (by omega)
theorem z_toIntL {x : Int} (h : zrngL x) : (Int64.ofInt x).toInt = x := Int64.toInt_ofInt_of_le (by omega) (by omega)
theorem z_eq {x y : Int} (hx : zrng x) (hy : zrng y) : Int32.ofInt x = Int32.ofInt y ↔ x = y := by rw [← Int32.toInt_inj, z_toInt hx, z_toInt hy]
theorem z_lt {x y : Int} (hx : zrng x) (hy : zrng y) : Int32.ofInt x < Int32.ofInt y ↔ x < y := by rw [Int32.lt_iff_toInt_lt, z_toInt hx, z_toInt hy]
theorem z_le {x y : Int} (hx : zrng x) (hy : zrng y) : Int32.ofInt x ≤ Int32.ofInt y ↔ x ≤ y := by rw [Int32.le_iff_toInt_le, z_toInt hx, z_toInt hy]
theorem z_rng0 : zrng 0 := by omega
theorem z_in {x : Int} {j n : Nat} (hx : x = (j : Int)) (hj : j < n) (hn : n < 2147483648) : vp_in (Int32.ofInt x) n ∧ (Int32.ofInt x).toNatClampNeg = j := by
  subst hx
  have e : Int32.ofInt (j : Int) = nI j := rfl
  rw [e]
  exact ⟨vp_in_nI hj (by omega), nI_clamp (by omega)⟩
theorem z_div {x y : Int} (hx : 0 ≤ x ∧ x ≤ 2147483647) (hy : 0 < y ∧ y ≤ 2147483647) : Int32.ofInt x / Int32.ofInt y = Int32.ofInt (x / y) := by
  obtain ⟨a, rfl⟩ := Int.eq_ofNat_of_zero_le hx.1
  obtain ⟨b, rfl⟩ := Int.eq_ofNat_of_zero_le (Int.le_of_lt hy.1)
  exact pk_div (a := a) (d := b) (by omega) (by omega) (by omega)
theorem z_rem {x y : Int} (hx : 0 ≤ x ∧ x ≤ 2147483647) (hy : 0 < y ∧ y ≤ 2147483647) : Int32.ofInt x - Int32.ofInt x / Int32.ofInt y * Int32.ofInt y = Int32.ofInt (x % y) := by
  obtain ⟨a, rfl⟩ := Int.eq_ofNat_of_zero_le hx.1
  obtain ⟨b, rfl⟩ := Int.eq_ofNat_of_zero_le (Int.le_of_lt hy.1)
  exact pk_rem (a := a) (d := b) (by omega) (by omega) (by omega)
def zAnd (x y : Int) : Int := (Int32.ofInt x &&& Int32.ofInt y).toInt
def zOr (x y : Int) : Int := (Int32.ofInt x ||| Int32.ofInt y).toInt
def zXor (x y : Int) : Int := (Int32.ofInt x ^^^ Int32.ofInt y).toInt
def zShl (x y : Int) : Int := (Int32.ofInt x <<< (Int32.ofInt y &&& 31)).toInt
def zShr (x y : Int) : Int := (Int32.ofInt x >>> (Int32.ofInt y &&& 31)).toInt
def zUshr (x y : Int) : Int := ((Int32.ofInt x).toUInt32 >>> ((Int32.ofInt y).toUInt32 &&& Int32.toUInt32 31)).toInt32.toInt
def zAndL (x y : Int) : Int := (Int64.ofInt x &&& Int64.ofInt y).toInt
def zOrL (x y : Int) : Int := (Int64.ofInt x ||| Int64.ofInt y).toInt
def zShlL (x y : Int) : Int := (Int64.ofInt x <<< ((Int32.ofInt y).toInt64 &&& 63)).toInt
def zShrL (x y : Int) : Int := (Int64.ofInt x >>> ((Int32.ofInt y).toInt64 &&& 63)).toInt
theorem z_iconst {μ : zD} {d pc : Nat} {ls : List (Option zAV)} {st : List zAV} {M : zMem} {post : Int → zMem → Prop} {n : Int} (hd : decode μ.2.1 pc = .ok (.iconst n, 1)) (k : zV μ d (pc + 1) ls (zi n :: st) M post) : zV μ d pc ls (st) M post := by
  intro hR l dC dI as cA p e s m args below meth c H locs lsA hC hP hD hS hL
  exact lv_iconst hC.1 hC.2.1 hd rfl (k hR l dC dI as cA p e s m args below meth c H locs lsA hC hP hD hS hL)
theorem z_bipush {μ : zD} {d pc : Nat} {ls : List (Option zAV)} {st : List zAV} {M : zMem} {post : Int → zMem → Prop} {n : Int} (hd : decode μ.2.1 pc = .ok (.bipush n, 2)) (hn : (Int8.ofInt n).toInt32 = Int32.ofInt n) (k : zV μ d (pc + 2) ls (zi n :: st) M post) : zV μ d pc ls (st) M post := by
  intro hR l dC dI as cA p e s m args below meth c H locs lsA hC hP hD hS hL
  exact lv_bipush hC.1 hC.2.1 hd hn (k hR l dC dI as cA p e s m args below meth c H locs lsA hC hP hD hS hL)
theorem z_sipush {μ : zD} {d pc : Nat} {ls : List (Option zAV)} {st : List zAV} {M : zMem} {post : Int → zMem → Prop} {n : Int} (hd : decode μ.2.1 pc = .ok (.sipush n, 3)) (hn : (Int16.ofInt n).toInt32 = Int32.ofInt n) (k : zV μ d (pc + 3) ls (zi n :: st) M post) : zV μ d pc ls (st) M post := by
  intro hR l dC dI as cA p e s m args below meth c H locs lsA hC hP hD hS hL
  exact lv_sipush hC.1 hC.2.1 hd hn (k hR l dC dI as cA p e s m args below meth c H locs lsA hC hP hD hS hL)
theorem z_lconst {μ : zD} {d pc : Nat} {ls : List (Option zAV)} {st : List zAV} {M : zMem} {post : Int → zMem → Prop} {n : Fin 2} (x : Int) (hd : decode μ.2.1 pc = .ok (.lconst n, 1)) (hn : Int64.ofNat (n : Nat) = Int64.ofInt x) (k : zV μ d (pc + 1) ls (zl x :: st) M post) : zV μ d pc ls (st) M post := by
  intro hR l dC dI as cA p e s m args below meth c H locs lsA hC hP hD hS hL
  exact lv_lconst hC.1 hC.2.1 hd hn (k hR l dC dI as cA p e s m args below meth c H locs lsA hC hP hD hS hL)
theorem z_ldc {μ : zD} {d pc : Nat} {ls : List (Option zAV)} {st : List zAV} {M : zMem} {post : Int → zMem → Prop} {n : Nat} {v : Int32} (x : Int) (hw : Cond.constant μ.1 n v ∈ zAll) (hv : v = Int32.ofInt x) (hd : decode μ.2.1 pc = .ok (.ldc n, 2)) (k : zV μ d (pc + 2) ls (zi x :: st) M post) : zV μ d pc ls (st) M post := by
  intro hR l dC dI as cA p e s m args below meth c H locs lsA hC hP hD hS hL
  subst hv
  exact lv_ldc hC.1 hC.2.1 hC.2.2.2.1 (hC.2.2.2.2.1 _ hw) hd (k hR l dC dI as cA p e s m args below meth c H locs lsA hC hP hD hS hL)
theorem z_ldcw {μ : zD} {d pc : Nat} {ls : List (Option zAV)} {st : List zAV} {M : zMem} {post : Int → zMem → Prop} {n : Nat} {v : Int32} (x : Int) (hw : Cond.constant μ.1 n v ∈ zAll) (hv : v = Int32.ofInt x) (hd : decode μ.2.1 pc = .ok (.ldc_w n, 3)) (k : zV μ d (pc + 3) ls (zi x :: st) M post) : zV μ d pc ls (st) M post := by
  intro hR l dC dI as cA p e s m args below meth c H locs lsA hC hP hD hS hL
  subst hv
  exact lv_ldcw hC.1 hC.2.1 hC.2.2.2.1 (hC.2.2.2.2.1 _ hw) hd (k hR l dC dI as cA p e s m args below meth c H locs lsA hC hP hD hS hL)
theorem z_ldc2 {μ : zD} {d pc : Nat} {ls : List (Option zAV)} {st : List zAV} {M : zMem} {post : Int → zMem → Prop} {n : Nat} {v : Int64} (x : Int) (hw : Cond.constantLong μ.1 n v ∈ zAll) (hv : v = Int64.ofInt x) (hd : decode μ.2.1 pc = .ok (.ldc2_w n, 3)) (k : zV μ d (pc + 3) ls (zl x :: st) M post) : zV μ d pc ls (st) M post := by
  intro hR l dC dI as cA p e s m args below meth c H locs lsA hC hP hD hS hL
  subst hv
  exact lv_ldc2 hC.1 hC.2.1 hC.2.2.2.1 (hC.2.2.2.2.1 _ hw) hd (k hR l dC dI as cA p e s m args below meth c H locs lsA hC hP hD hS hL)
theorem z_iload_n {μ : zD} {d pc : Nat} {ls : List (Option zAV)} {st : List zAV} {M : zMem} {post : Int → zMem → Prop} {n : Fin 4} {i : Nat} {x : Int} (hi : (n : Nat) = i) (hd : decode μ.2.1 pc = .ok (.iload_n n, 1)) (hl : ls[i]? = some (some (zi x))) (k : zV μ d (pc + 1) ls (zi x :: st) M post) : zV μ d pc ls (st) M post := by
  intro hR l dC dI as cA p e s m args below meth c H locs lsA hC hP hD hS hL
  exact lv_iload_n hC.1 hC.2.1 hd hi (hL.2.2.2 _ _ hl (Or.inl rfl)) (k hR l dC dI as cA p e s m args below meth c H locs lsA hC hP hD hS hL)
theorem z_iload {μ : zD} {d pc : Nat} {ls : List (Option zAV)} {st : List zAV} {M : zMem} {post : Int → zMem → Prop} {i : Nat} {x : Int} (hd : decode μ.2.1 pc = .ok (.iload i, 2)) (hl : ls[i]? = some (some (zi x))) (k : zV μ d (pc + 2) ls (zi x :: st) M post) : zV μ d pc ls (st) M post := by
  intro hR l dC dI as cA p e s m args below meth c H locs lsA hC hP hD hS hL
  exact lv_iload hC.1 hC.2.1 hd (hL.2.2.2 _ _ hl (Or.inl rfl)) (k hR l dC dI as cA p e s m args below meth c H locs lsA hC hP hD hS hL)
theorem z_aload_n {μ : zD} {d pc : Nat} {ls : List (Option zAV)} {st : List zAV} {M : zMem} {post : Int → zMem → Prop} {n : Fin 4} {i : Nat} {x : Nat} (hi : (n : Nat) = i) (hd : decode μ.2.1 pc = .ok (.aload_n n, 1)) (hl : ls[i]? = some (some (zr x))) (k : zV μ d (pc + 1) ls (zr x :: st) M post) : zV μ d pc ls (st) M post := by
  intro hR l dC dI as cA p e s m args below meth c H locs lsA hC hP hD hS hL
  exact lv_aload_n hC.1 hC.2.1 hd hi (hL.2.2.2 _ _ hl (Or.inr (Or.inl ⟨x, rfl⟩))) (k hR l dC dI as cA p e s m args below meth c H locs lsA hC hP hD hS hL)
theorem z_aload {μ : zD} {d pc : Nat} {ls : List (Option zAV)} {st : List zAV} {M : zMem} {post : Int → zMem → Prop} {i : Nat} {x : Nat} (hd : decode μ.2.1 pc = .ok (.aload i, 2)) (hl : ls[i]? = some (some (zr x))) (k : zV μ d (pc + 2) ls (zr x :: st) M post) : zV μ d pc ls (st) M post := by
  intro hR l dC dI as cA p e s m args below meth c H locs lsA hC hP hD hS hL
  exact lv_aload hC.1 hC.2.1 hd (hL.2.2.2 _ _ hl (Or.inr (Or.inl ⟨x, rfl⟩))) (k hR l dC dI as cA p e s m args below meth c H locs lsA hC hP hD hS hL)
theorem z_lload_n {μ : zD} {d pc : Nat} {ls : List (Option zAV)} {st : List zAV} {M : zMem} {post : Int → zMem → Prop} {n : Fin 4} {i : Nat} {x : Int} (hi : (n : Nat) = i) (hd : decode μ.2.1 pc = .ok (.lload_n n, 1)) (hl : ls[i]? = some (some (zl x))) (hl2 : ls[i + 1]? = some none) (k : zV μ d (pc + 1) ls (zl x :: st) M post) : zV μ d pc ls (st) M post := by
  intro hR l dC dI as cA p e s m args below meth c H locs lsA hC hP hD hS hL
  exact lv_lload_n hC.1 hC.2.1 hd hi (hL.2.2.2 _ _ hl (Or.inr (Or.inr hl2))) (k hR l dC dI as cA p e s m args below meth c H locs lsA hC hP hD hS hL)
theorem z_lload {μ : zD} {d pc : Nat} {ls : List (Option zAV)} {st : List zAV} {M : zMem} {post : Int → zMem → Prop} {i : Nat} {x : Int} (hd : decode μ.2.1 pc = .ok (.lload i, 2)) (hl : ls[i]? = some (some (zl x))) (hl2 : ls[i + 1]? = some none) (k : zV μ d (pc + 2) ls (zl x :: st) M post) : zV μ d pc ls (st) M post := by
  intro hR l dC dI as cA p e s m args below meth c H locs lsA hC hP hD hS hL
  exact lv_lload hC.1 hC.2.1 hd (hL.2.2.2 _ _ hl (Or.inr (Or.inr hl2))) (k hR l dC dI as cA p e s m args below meth c H locs lsA hC hP hD hS hL)
theorem z_istore_n {μ : zD} {d pc : Nat} {ls : List (Option zAV)} {st : List zAV} {M : zMem} {post : Int → zMem → Prop} {n : Fin 4} {i : Nat} {x : Int} (hi : (n : Nat) = i) (hd : decode μ.2.1 pc = .ok (.istore_n n, 1)) (hn : i < ls.length) (k : zV μ d (pc + 1) (ls.set i (some (zi x))) st M post) : zV μ d pc ls (zi x :: st) M post := by
  intro hR l dC dI as cA p e s m args below meth c H locs lsA hC hP hD hS hL
  subst hi
  obtain ⟨lsA', e', hz'⟩ := hL.set (v := zi x) (by rw [← hL.2.2.1]; exact hn) rfl
  have k := k hR l dC dI as cA p e s m args below meth c H locs lsA' hC hP hD hS hz'
  intro T hT X
  obtain ⟨t, a, b⟩ := k T hT X
  refine ⟨t, ?_, b⟩
  simp only [zcv] at e'
  simp only [List.map, zcv]
  jvm_step X.here [X.here.top, ↓top_set X.here.top, hC.1, hC.2.1, hd, e', Value.isRef]
  exact a
theorem z_istore {μ : zD} {d pc : Nat} {ls : List (Option zAV)} {st : List zAV} {M : zMem} {post : Int → zMem → Prop} {i : Nat} {x : Int} (hd : decode μ.2.1 pc = .ok (.istore i, 2)) (hn : i < ls.length) (k : zV μ d (pc + 2) (ls.set i (some (zi x))) st M post) : zV μ d pc ls (zi x :: st) M post := by
  intro hR l dC dI as cA p e s m args below meth c H locs lsA hC hP hD hS hL
  obtain ⟨lsA', e', hz'⟩ := hL.set (v := zi x) (by rw [← hL.2.2.1]; exact hn) rfl
  have k := k hR l dC dI as cA p e s m args below meth c H locs lsA' hC hP hD hS hz'
  intro T hT X
  obtain ⟨t, a, b⟩ := k T hT X
  refine ⟨t, ?_, b⟩
  simp only [zcv] at e'
  simp only [List.map, zcv]
  jvm_step X.here [X.here.top, ↓top_set X.here.top, hC.1, hC.2.1, hd, e', Value.isRef]
  exact a
theorem z_astore_n {μ : zD} {d pc : Nat} {ls : List (Option zAV)} {st : List zAV} {M : zMem} {post : Int → zMem → Prop} {n : Fin 4} {i : Nat} {x : Nat} (hi : (n : Nat) = i) (hd : decode μ.2.1 pc = .ok (.astore_n n, 1)) (hn : i < ls.length) (k : zV μ d (pc + 1) (ls.set i (some (zr x))) st M post) : zV μ d pc ls (zr x :: st) M post := by
  intro hR l dC dI as cA p e s m args below meth c H locs lsA hC hP hD hS hL
  subst hi
  obtain ⟨lsA', e', hz'⟩ := hL.set (v := zr x) (by rw [← hL.2.2.1]; exact hn) rfl
  have k := k hR l dC dI as cA p e s m args below meth c H locs lsA' hC hP hD hS hz'
  intro T hT X
  obtain ⟨t, a, b⟩ := k T hT X
  refine ⟨t, ?_, b⟩
  simp only [zcv] at e'
  simp only [List.map, zcv]
  jvm_step X.here [X.here.top, ↓top_set X.here.top, hC.1, hC.2.1, hd, e', Value.isRef]
  exact a
theorem z_astore {μ : zD} {d pc : Nat} {ls : List (Option zAV)} {st : List zAV} {M : zMem} {post : Int → zMem → Prop} {i : Nat} {x : Nat} (hd : decode μ.2.1 pc = .ok (.astore i, 2)) (hn : i < ls.length) (k : zV μ d (pc + 2) (ls.set i (some (zr x))) st M post) : zV μ d pc ls (zr x :: st) M post := by
  intro hR l dC dI as cA p e s m args below meth c H locs lsA hC hP hD hS hL
  obtain ⟨lsA', e', hz'⟩ := hL.set (v := zr x) (by rw [← hL.2.2.1]; exact hn) rfl
  have k := k hR l dC dI as cA p e s m args below meth c H locs lsA' hC hP hD hS hz'
  intro T hT X
  obtain ⟨t, a, b⟩ := k T hT X
  refine ⟨t, ?_, b⟩
  simp only [zcv] at e'
  simp only [List.map, zcv]
  jvm_step X.here [X.here.top, ↓top_set X.here.top, hC.1, hC.2.1, hd, e', Value.isRef]
  exact a
theorem z_lstore_n {μ : zD} {d pc : Nat} {ls : List (Option zAV)} {st : List zAV} {M : zMem} {post : Int → zMem → Prop} {n : Fin 4} {i : Nat} {x : Int} (hi : (n : Nat) = i) (hd : decode μ.2.1 pc = .ok (.lstore_n n, 1)) (hn : i + 1 < ls.length) (k : zV μ d (pc + 1) ((ls.set i (some (zl x))).set (i + 1) none) st M post) : zV μ d pc ls (zl x :: st) M post := by
  intro hR l dC dI as cA p e s m args below meth c H locs lsA hC hP hD hS hL
  subst hi
  obtain ⟨lsA', e', hz'⟩ := hL.set2 (x := x) (by rw [← hL.2.2.1]; exact hn)
  have k := k hR l dC dI as cA p e s m args below meth c H locs lsA' hC hP hD hS hz'
  intro T hT X
  obtain ⟨t, a, b⟩ := k T hT X
  refine ⟨t, ?_, b⟩
  simp only [zcv] at e'
  simp only [List.map, zcv]
  jvm_step X.here [X.here.top, ↓top_set X.here.top, hC.1, hC.2.1, hd, e', Value.isRef]
  exact a
theorem z_lstore {μ : zD} {d pc : Nat} {ls : List (Option zAV)} {st : List zAV} {M : zMem} {post : Int → zMem → Prop} {i : Nat} {x : Int} (hd : decode μ.2.1 pc = .ok (.lstore i, 2)) (hn : i + 1 < ls.length) (k : zV μ d (pc + 2) ((ls.set i (some (zl x))).set (i + 1) none) st M post) : zV μ d pc ls (zl x :: st) M post := by
  intro hR l dC dI as cA p e s m args below meth c H locs lsA hC hP hD hS hL
  obtain ⟨lsA', e', hz'⟩ := hL.set2 (x := x) (by rw [← hL.2.2.1]; exact hn)
  have k := k hR l dC dI as cA p e s m args below meth c H locs lsA' hC hP hD hS hz'
  intro T hT X
  obtain ⟨t, a, b⟩ := k T hT X
  refine ⟨t, ?_, b⟩
  simp only [zcv] at e'
  simp only [List.map, zcv]
  jvm_step X.here [X.here.top, ↓top_set X.here.top, hC.1, hC.2.1, hd, e', Value.isRef]
  exact a
theorem z_iinc {μ : zD} {d pc : Nat} {ls : List (Option zAV)} {st : List zAV} {M : zMem} {post : Int → zMem → Prop} {i : Nat} {n x : Int} (hd : decode μ.2.1 pc = .ok (.iinc i n, 3)) (hl : ls[i]? = some (some (zi x))) (k : zV μ d (pc + 3) (ls.set i (some (zi (x + n)))) st M post) : zV μ d pc ls st M post := by
  intro hR l dC dI as cA p e s m args below meth c H locs lsA hC hP hD hS hL
  have hg := hL.2.2.2 _ _ hl (Or.inl rfl)
  have hn : i < μ.2.2.1 := by rw [← hL.2.2.1]; exact (List.getElem?_eq_some_iff.mp hl).1
  obtain ⟨lsA', e', hz'⟩ := hL.set (v := zi (x + n)) hn rfl
  have k := k hR l dC dI as cA p e s m args below meth c H locs lsA' hC hP hD hS hz'
  intro T hT X
  obtain ⟨t, a, b⟩ := k T hT X
  refine ⟨t, ?_, b⟩
  simp only [zcv, Int32.ofInt_add] at e' hg
  jvm_step X.here [X.here.top, ↓top_set X.here.top, hC.1, hC.2.1, hd, hg, e']
  exact a
theorem z_iadd {μ : zD} {d pc : Nat} {ls : List (Option zAV)} {st : List zAV} {M : zMem} {post : Int → zMem → Prop} {x y : Int}  (hd : decode μ.2.1 pc = .ok (.iadd, 1)) (k : zV μ d (pc + 1) ls (zi (x + y) :: st) M post) : zV μ d pc ls (zi y :: zi x :: st) M post := by
  intro hR l dC dI as cA p e s m args below meth c H locs lsA hC hP hD hS hL
  have k := k hR l dC dI as cA p e s m args below meth c H locs lsA hC hP hD hS hL
  simp only [List.map, zcv] at k ⊢
  refine lv_iadd hC.1 hC.2.1 hd ?_
  rw [← Int32.ofInt_add]
  exact k
theorem z_isub {μ : zD} {d pc : Nat} {ls : List (Option zAV)} {st : List zAV} {M : zMem} {post : Int → zMem → Prop} {x y : Int}  (hd : decode μ.2.1 pc = .ok (.isub, 1)) (k : zV μ d (pc + 1) ls (zi (x - y) :: st) M post) : zV μ d pc ls (zi y :: zi x :: st) M post := by
  intro hR l dC dI as cA p e s m args below meth c H locs lsA hC hP hD hS hL
  have k := k hR l dC dI as cA p e s m args below meth c H locs lsA hC hP hD hS hL
  simp only [List.map, zcv] at k ⊢
  refine lv_isub hC.1 hC.2.1 hd ?_
  rw [← Int32.ofInt_sub]
  exact k
theorem z_imul {μ : zD} {d pc : Nat} {ls : List (Option zAV)} {st : List zAV} {M : zMem} {post : Int → zMem → Prop} {x y : Int}  (hd : decode μ.2.1 pc = .ok (.imul, 1)) (k : zV μ d (pc + 1) ls (zi (x * y) :: st) M post) : zV μ d pc ls (zi y :: zi x :: st) M post := by
  intro hR l dC dI as cA p e s m args below meth c H locs lsA hC hP hD hS hL
  have k := k hR l dC dI as cA p e s m args below meth c H locs lsA hC hP hD hS hL
  simp only [List.map, zcv] at k ⊢
  refine lv_imul hC.1 hC.2.1 hd ?_
  rw [← Int32.ofInt_mul]
  exact k
theorem z_idiv {μ : zD} {d pc : Nat} {ls : List (Option zAV)} {st : List zAV} {M : zMem} {post : Int → zMem → Prop} {x y : Int}  (hx : 0 ≤ x ∧ x ≤ 2147483647) (hy : 0 < y ∧ y ≤ 2147483647) (hd : decode μ.2.1 pc = .ok (.idiv, 1)) (k : zV μ d (pc + 1) ls (zi (x / y) :: st) M post) : zV μ d pc ls (zi y :: zi x :: st) M post := by
  intro hR l dC dI as cA p e s m args below meth c H locs lsA hC hP hD hS hL
  have k := k hR l dC dI as cA p e s m args below meth c H locs lsA hC hP hD hS hL
  simp only [List.map, zcv] at k ⊢
  refine lv_idiv hC.1 hC.2.1 hd (fun q => by have h9 := (z_eq (x := y) (y := 0) (by omega) (by omega)).mp q; omega) ?_
  rw [z_div hx hy]
  exact k
theorem z_irem {μ : zD} {d pc : Nat} {ls : List (Option zAV)} {st : List zAV} {M : zMem} {post : Int → zMem → Prop} {x y : Int}  (hx : 0 ≤ x ∧ x ≤ 2147483647) (hy : 0 < y ∧ y ≤ 2147483647) (hd : decode μ.2.1 pc = .ok (.irem, 1)) (k : zV μ d (pc + 1) ls (zi (x % y) :: st) M post) : zV μ d pc ls (zi y :: zi x :: st) M post := by
  intro hR l dC dI as cA p e s m args below meth c H locs lsA hC hP hD hS hL
  have k := k hR l dC dI as cA p e s m args below meth c H locs lsA hC hP hD hS hL
  simp only [List.map, zcv] at k ⊢
  refine lv_irem hC.1 hC.2.1 hd (fun q => by have h9 := (z_eq (x := y) (y := 0) (by omega) (by omega)).mp q; omega) ?_
  rw [z_rem hx hy]
  exact k
theorem z_iand {μ : zD} {d pc : Nat} {ls : List (Option zAV)} {st : List zAV} {M : zMem} {post : Int → zMem → Prop} {x y : Int}  (hd : decode μ.2.1 pc = .ok (.iand, 1)) (k : zV μ d (pc + 1) ls (zi (zAnd x y) :: st) M post) : zV μ d pc ls (zi y :: zi x :: st) M post := by
  intro hR l dC dI as cA p e s m args below meth c H locs lsA hC hP hD hS hL
  have k := k hR l dC dI as cA p e s m args below meth c H locs lsA hC hP hD hS hL
  simp only [List.map, zcv] at k ⊢
  refine lv_iand hC.1 hC.2.1 hd ?_
  simp only [zAnd, Int32.ofInt_toInt] at k
  exact k
theorem z_ior {μ : zD} {d pc : Nat} {ls : List (Option zAV)} {st : List zAV} {M : zMem} {post : Int → zMem → Prop} {x y : Int}  (hd : decode μ.2.1 pc = .ok (.ior, 1)) (k : zV μ d (pc + 1) ls (zi (zOr x y) :: st) M post) : zV μ d pc ls (zi y :: zi x :: st) M post := by
  intro hR l dC dI as cA p e s m args below meth c H locs lsA hC hP hD hS hL
  have k := k hR l dC dI as cA p e s m args below meth c H locs lsA hC hP hD hS hL
  simp only [List.map, zcv] at k ⊢
  refine lv_ior hC.1 hC.2.1 hd ?_
  simp only [zOr, Int32.ofInt_toInt] at k
  exact k
theorem z_ixor {μ : zD} {d pc : Nat} {ls : List (Option zAV)} {st : List zAV} {M : zMem} {post : Int → zMem → Prop} {x y : Int}  (hd : decode μ.2.1 pc = .ok (.ixor, 1)) (k : zV μ d (pc + 1) ls (zi (zXor x y) :: st) M post) : zV μ d pc ls (zi y :: zi x :: st) M post := by
  intro hR l dC dI as cA p e s m args below meth c H locs lsA hC hP hD hS hL
  have k := k hR l dC dI as cA p e s m args below meth c H locs lsA hC hP hD hS hL
  simp only [List.map, zcv] at k ⊢
  refine lv_ixor hC.1 hC.2.1 hd ?_
  simp only [zXor, Int32.ofInt_toInt] at k
  exact k
theorem z_ishl {μ : zD} {d pc : Nat} {ls : List (Option zAV)} {st : List zAV} {M : zMem} {post : Int → zMem → Prop} {x y : Int}  (hd : decode μ.2.1 pc = .ok (.ishl, 1)) (k : zV μ d (pc + 1) ls (zi (zShl x y) :: st) M post) : zV μ d pc ls (zi y :: zi x :: st) M post := by
  intro hR l dC dI as cA p e s m args below meth c H locs lsA hC hP hD hS hL
  have k := k hR l dC dI as cA p e s m args below meth c H locs lsA hC hP hD hS hL
  simp only [List.map, zcv] at k ⊢
  refine lv_ishl hC.1 hC.2.1 hd ?_
  simp only [zShl, Int32.ofInt_toInt] at k
  exact k
theorem z_ishr {μ : zD} {d pc : Nat} {ls : List (Option zAV)} {st : List zAV} {M : zMem} {post : Int → zMem → Prop} {x y : Int}  (hd : decode μ.2.1 pc = .ok (.ishr, 1)) (k : zV μ d (pc + 1) ls (zi (zShr x y) :: st) M post) : zV μ d pc ls (zi y :: zi x :: st) M post := by
  intro hR l dC dI as cA p e s m args below meth c H locs lsA hC hP hD hS hL
  have k := k hR l dC dI as cA p e s m args below meth c H locs lsA hC hP hD hS hL
  simp only [List.map, zcv] at k ⊢
  refine lv_ishr hC.1 hC.2.1 hd ?_
  simp only [zShr, Int32.ofInt_toInt] at k
  exact k
theorem z_iushr {μ : zD} {d pc : Nat} {ls : List (Option zAV)} {st : List zAV} {M : zMem} {post : Int → zMem → Prop} {x y : Int}  (hd : decode μ.2.1 pc = .ok (.iushr, 1)) (k : zV μ d (pc + 1) ls (zi (zUshr x y) :: st) M post) : zV μ d pc ls (zi y :: zi x :: st) M post := by
  intro hR l dC dI as cA p e s m args below meth c H locs lsA hC hP hD hS hL
  have k := k hR l dC dI as cA p e s m args below meth c H locs lsA hC hP hD hS hL
  simp only [List.map, zcv] at k ⊢
  refine lv_iushr hC.1 hC.2.1 hd rfl ?_
  simp only [zUshr, Int32.ofInt_toInt] at k
  exact k
theorem z_land {μ : zD} {d pc : Nat} {ls : List (Option zAV)} {st : List zAV} {M : zMem} {post : Int → zMem → Prop} {x y : Int}  (hd : decode μ.2.1 pc = .ok (.land, 1)) (k : zV μ d (pc + 1) ls (zl (zAndL x y) :: st) M post) : zV μ d pc ls (zl y :: zl x :: st) M post := by
  intro hR l dC dI as cA p e s m args below meth c H locs lsA hC hP hD hS hL
  have k := k hR l dC dI as cA p e s m args below meth c H locs lsA hC hP hD hS hL
  simp only [List.map, zcv] at k ⊢
  refine lv_land hC.1 hC.2.1 hd ?_
  simp only [zAndL, Int64.ofInt_toInt] at k
  exact k
theorem z_lor {μ : zD} {d pc : Nat} {ls : List (Option zAV)} {st : List zAV} {M : zMem} {post : Int → zMem → Prop} {x y : Int}  (hd : decode μ.2.1 pc = .ok (.lor, 1)) (k : zV μ d (pc + 1) ls (zl (zOrL x y) :: st) M post) : zV μ d pc ls (zl y :: zl x :: st) M post := by
  intro hR l dC dI as cA p e s m args below meth c H locs lsA hC hP hD hS hL
  have k := k hR l dC dI as cA p e s m args below meth c H locs lsA hC hP hD hS hL
  simp only [List.map, zcv] at k ⊢
  refine lv_lor hC.1 hC.2.1 hd ?_
  simp only [zOrL, Int64.ofInt_toInt] at k
  exact k
theorem z_lshl {μ : zD} {d pc : Nat} {ls : List (Option zAV)} {st : List zAV} {M : zMem} {post : Int → zMem → Prop} {x y : Int} (hd : decode μ.2.1 pc = .ok (.lshl, 1)) (k : zV μ d (pc + 1) ls (zl (zShlL x y) :: st) M post) : zV μ d pc ls (zi y :: zl x :: st) M post := by
  intro hR l dC dI as cA p e s m args below meth c H locs lsA hC hP hD hS hL
  have k := k hR l dC dI as cA p e s m args below meth c H locs lsA hC hP hD hS hL
  simp only [List.map, zcv] at k ⊢
  refine lv_lshl hC.1 hC.2.1 hd rfl ?_
  simp only [zShlL, Int64.ofInt_toInt] at k
  exact k
theorem z_lshr {μ : zD} {d pc : Nat} {ls : List (Option zAV)} {st : List zAV} {M : zMem} {post : Int → zMem → Prop} {x y : Int} (hd : decode μ.2.1 pc = .ok (.lshr, 1)) (k : zV μ d (pc + 1) ls (zl (zShrL x y) :: st) M post) : zV μ d pc ls (zi y :: zl x :: st) M post := by
  intro hR l dC dI as cA p e s m args below meth c H locs lsA hC hP hD hS hL
  have k := k hR l dC dI as cA p e s m args below meth c H locs lsA hC hP hD hS hL
  simp only [List.map, zcv] at k ⊢
  refine lv_lshr hC.1 hC.2.1 hd rfl ?_
  simp only [zShrL, Int64.ofInt_toInt] at k
  exact k
theorem z_i2l {μ : zD} {d pc : Nat} {ls : List (Option zAV)} {st : List zAV} {M : zMem} {post : Int → zMem → Prop} {x : Int} (hx : zrng x) (hd : decode μ.2.1 pc = .ok (.i2l, 1)) (k : zV μ d (pc + 1) ls (zl x :: st) M post) : zV μ d pc ls (zi x :: st) M post := by
  intro hR l dC dI as cA p e s m args below meth c H locs lsA hC hP hD hS hL
  exact lv_i2l hC.1 hC.2.1 hd (by rw [← Int64.toInt_inj, Int32.toInt_toInt64, z_toInt hx, z_toIntL (by omega)]) (k hR l dC dI as cA p e s m args below meth c H locs lsA hC hP hD hS hL)
theorem z_l2i {μ : zD} {d pc : Nat} {ls : List (Option zAV)} {st : List zAV} {M : zMem} {post : Int → zMem → Prop} {x : Int} (hx : zrng x) (hd : decode μ.2.1 pc = .ok (.l2i, 1)) (k : zV μ d (pc + 1) ls (zi x :: st) M post) : zV μ d pc ls (zl x :: st) M post := by
  intro hR l dC dI as cA p e s m args below meth c H locs lsA hC hP hD hS hL
  exact lv_l2i hC.1 hC.2.1 hd (by rw [← Int32.toInt_inj, Int64.toInt_toInt32, z_toIntL (by omega), z_toInt hx]; exact Int.bmod_eq_of_le (by omega) (by omega)) (k hR l dC dI as cA p e s m args below meth c H locs lsA hC hP hD hS hL)
theorem z_lcmp {μ : zD} {d pc : Nat} {ls : List (Option zAV)} {st : List zAV} {M : zMem} {post : Int → zMem → Prop} {x y : Int} (hx : zrngL x) (hy : zrngL y) (hd : decode μ.2.1 pc = .ok (.lcmp, 1)) (k : zV μ d (pc + 1) ls (zi (if y < x then 1 else if x = y then 0 else -1) :: st) M post) : zV μ d pc ls (zl y :: zl x :: st) M post := by
  intro hR l dC dI as cA p e s m args below meth c H locs lsA hC hP hD hS hL
  have k := k hR l dC dI as cA p e s m args below meth c H locs lsA hC hP hD hS hL
  simp only [List.map, zcv] at k ⊢
  refine W.lcmp hC.1 hC.2.1 hd ?_
  have e1 : (Int64.ofInt y < Int64.ofInt x) ↔ y < x := by rw [Int64.lt_iff_toInt_lt, z_toIntL hx, z_toIntL hy]
  have e2 : (Int64.ofInt x = Int64.ofInt y) ↔ x = y := by rw [← Int64.toInt_inj, z_toIntL hx, z_toIntL hy]
  have e3 : lg_cmp (Int64.ofInt x) (Int64.ofInt y) = Int32.ofInt (if y < x then 1 else if x = y then 0 else -1) := by
    unfold lg_cmp
    simp only [e1, e2]
    split
    · rfl
    · split <;> rfl
  rw [e3]
  exact k
theorem z_dup {μ : zD} {d pc : Nat} {ls : List (Option zAV)} {st : List zAV} {M : zMem} {post : Int → zMem → Prop} {v : zAV} (hv : ∀ as, (zcv as v).category = 1) (hd : decode μ.2.1 pc = .ok (.dup, 1)) (k : zV μ d (pc + 1) ls (v :: v :: st) M post) : zV μ d pc ls (v :: st) M post := by
  intro hR l dC dI as cA p e s m args below meth c H locs lsA hC hP hD hS hL
  exact lv_dup hC.1 hC.2.1 hd (hv as) (k hR l dC dI as cA p e s m args below meth c H locs lsA hC hP hD hS hL)
theorem z_pop {μ : zD} {d pc : Nat} {ls : List (Option zAV)} {st : List zAV} {M : zMem} {post : Int → zMem → Prop} {v : zAV} (hv : ∀ as, (zcv as v).category = 1) (hd : decode μ.2.1 pc = .ok (.pop, 1)) (k : zV μ d (pc + 1) ls st M post) : zV μ d pc ls (v :: st) M post := by
  intro hR l dC dI as cA p e s m args below meth c H locs lsA hC hP hD hS hL
  exact lv_pop hC.1 hC.2.1 hd (hv as) (k hR l dC dI as cA p e s m args below meth c H locs lsA hC hP hD hS hL)
theorem z_dup_x1 {μ : zD} {d pc : Nat} {ls : List (Option zAV)} {st : List zAV} {M : zMem} {post : Int → zMem → Prop} {v w : zAV} (hv : ∀ as, (zcv as v).category = 1) (hw : ∀ as, (zcv as w).category = 1) (hd : decode μ.2.1 pc = .ok (.dup_x1, 1)) (k : zV μ d (pc + 1) ls (v :: w :: v :: st) M post) : zV μ d pc ls (v :: w :: st) M post := by
  intro hR l dC dI as cA p e s m args below meth c H locs lsA hC hP hD hS hL
  exact lv_dup_x1 hC.1 hC.2.1 hd (hv as) (hw as) (k hR l dC dI as cA p e s m args below meth c H locs lsA hC hP hD hS hL)
theorem z_dup2 {μ : zD} {d pc : Nat} {ls : List (Option zAV)} {st : List zAV} {M : zMem} {post : Int → zMem → Prop} {v w : zAV} (hv : ∀ as, (zcv as v).category = 1) (hw : ∀ as, (zcv as w).category = 1) (hd : decode μ.2.1 pc = .ok (.dup2, 1)) (k : zV μ d (pc + 1) ls (v :: w :: v :: w :: st) M post) : zV μ d pc ls (v :: w :: st) M post := by
  intro hR l dC dI as cA p e s m args below meth c H locs lsA hC hP hD hS hL
  exact lv_dup2_11 hC.1 hC.2.1 hd (hv as) (hw as) (k hR l dC dI as cA p e s m args below meth c H locs lsA hC hP hD hS hL)
theorem z_if_eq {μ : zD} {d pc : Nat} {ls : List (Option zAV)} {st : List zAV} {M : zMem} {post : Int → zMem → Prop} {x off : Int} {tgt : Nat} (hx : zrng x) (hd : decode μ.2.1 pc = .ok (.ifCond .eq off, 3)) (ht : (pc : Int) + off = (tgt : Int)) (kt : x = 0 → zV μ d tgt ls st M post) (kf : ¬ x = 0 → zV μ d (pc + 3) ls st M post) : zV μ d pc ls (zi x :: st) M post := by
  intro hR l dC dI as cA p e s m args below meth c H locs lsA hC hP hD hS hL
  exact lv_if_eq hC.1 hC.2.1 hd ht (fun q => kt ((z_eq hx z_rng0).mp q) hR l dC dI as cA p e s m args below meth c H locs lsA hC hP hD hS hL) (fun q => kf (fun z => q ((z_eq hx z_rng0).mpr z)) hR l dC dI as cA p e s m args below meth c H locs lsA hC hP hD hS hL)
theorem z_icmp_eq {μ : zD} {d pc : Nat} {ls : List (Option zAV)} {st : List zAV} {M : zMem} {post : Int → zMem → Prop} {x y off : Int} {tgt : Nat} (hx : zrng x) (hy : zrng y) (hd : decode μ.2.1 pc = .ok (.if_icmp .eq off, 3)) (ht : (pc : Int) + off = (tgt : Int)) (kt : x = y → zV μ d tgt ls st M post) (kf : ¬ x = y → zV μ d (pc + 3) ls st M post) : zV μ d pc ls (zi y :: zi x :: st) M post := by
  intro hR l dC dI as cA p e s m args below meth c H locs lsA hC hP hD hS hL
  exact lv_icmp_eq hC.1 hC.2.1 hd ht (fun q => kt ((z_eq hx hy).mp q) hR l dC dI as cA p e s m args below meth c H locs lsA hC hP hD hS hL) (fun q => kf (fun z => q ((z_eq hx hy).mpr z)) hR l dC dI as cA p e s m args below meth c H locs lsA hC hP hD hS hL)
theorem z_if_ne {μ : zD} {d pc : Nat} {ls : List (Option zAV)} {st : List zAV} {M : zMem} {post : Int → zMem → Prop} {x off : Int} {tgt : Nat} (hx : zrng x) (hd : decode μ.2.1 pc = .ok (.ifCond .ne off, 3)) (ht : (pc : Int) + off = (tgt : Int)) (kt : ¬ x = 0 → zV μ d tgt ls st M post) (kf : x = 0 → zV μ d (pc + 3) ls st M post) : zV μ d pc ls (zi x :: st) M post := by
  intro hR l dC dI as cA p e s m args below meth c H locs lsA hC hP hD hS hL
  exact lv_if_ne hC.1 hC.2.1 hd ht (fun q => kt (fun z => q ((z_eq hx z_rng0).mpr z)) hR l dC dI as cA p e s m args below meth c H locs lsA hC hP hD hS hL) (fun q => kf ((z_eq hx z_rng0).mp q) hR l dC dI as cA p e s m args below meth c H locs lsA hC hP hD hS hL)
theorem z_icmp_ne {μ : zD} {d pc : Nat} {ls : List (Option zAV)} {st : List zAV} {M : zMem} {post : Int → zMem → Prop} {x y off : Int} {tgt : Nat} (hx : zrng x) (hy : zrng y) (hd : decode μ.2.1 pc = .ok (.if_icmp .ne off, 3)) (ht : (pc : Int) + off = (tgt : Int)) (kt : ¬ x = y → zV μ d tgt ls st M post) (kf : x = y → zV μ d (pc + 3) ls st M post) : zV μ d pc ls (zi y :: zi x :: st) M post := by
  intro hR l dC dI as cA p e s m args below meth c H locs lsA hC hP hD hS hL
  exact lv_icmp_ne hC.1 hC.2.1 hd ht (fun q => kt (fun z => q ((z_eq hx hy).mpr z)) hR l dC dI as cA p e s m args below meth c H locs lsA hC hP hD hS hL) (fun q => kf ((z_eq hx hy).mp q) hR l dC dI as cA p e s m args below meth c H locs lsA hC hP hD hS hL)
theorem z_if_lt {μ : zD} {d pc : Nat} {ls : List (Option zAV)} {st : List zAV} {M : zMem} {post : Int → zMem → Prop} {x off : Int} {tgt : Nat} (hx : zrng x) (hd : decode μ.2.1 pc = .ok (.ifCond .lt off, 3)) (ht : (pc : Int) + off = (tgt : Int)) (kt : x < 0 → zV μ d tgt ls st M post) (kf : ¬ x < 0 → zV μ d (pc + 3) ls st M post) : zV μ d pc ls (zi x :: st) M post := by
  intro hR l dC dI as cA p e s m args below meth c H locs lsA hC hP hD hS hL
  exact lv_if_lt hC.1 hC.2.1 hd ht (fun q => kt ((z_lt hx z_rng0).mp q) hR l dC dI as cA p e s m args below meth c H locs lsA hC hP hD hS hL) (fun q => kf (fun z => q ((z_lt hx z_rng0).mpr z)) hR l dC dI as cA p e s m args below meth c H locs lsA hC hP hD hS hL)
theorem z_icmp_lt {μ : zD} {d pc : Nat} {ls : List (Option zAV)} {st : List zAV} {M : zMem} {post : Int → zMem → Prop} {x y off : Int} {tgt : Nat} (hx : zrng x) (hy : zrng y) (hd : decode μ.2.1 pc = .ok (.if_icmp .lt off, 3)) (ht : (pc : Int) + off = (tgt : Int)) (kt : x < y → zV μ d tgt ls st M post) (kf : ¬ x < y → zV μ d (pc + 3) ls st M post) : zV μ d pc ls (zi y :: zi x :: st) M post := by
  intro hR l dC dI as cA p e s m args below meth c H locs lsA hC hP hD hS hL
  exact lv_icmp_lt hC.1 hC.2.1 hd ht (fun q => kt ((z_lt hx hy).mp q) hR l dC dI as cA p e s m args below meth c H locs lsA hC hP hD hS hL) (fun q => kf (fun z => q ((z_lt hx hy).mpr z)) hR l dC dI as cA p e s m args below meth c H locs lsA hC hP hD hS hL)
theorem z_if_ge {μ : zD} {d pc : Nat} {ls : List (Option zAV)} {st : List zAV} {M : zMem} {post : Int → zMem → Prop} {x off : Int} {tgt : Nat} (hx : zrng x) (hd : decode μ.2.1 pc = .ok (.ifCond .ge off, 3)) (ht : (pc : Int) + off = (tgt : Int)) (kt : 0 ≤ x → zV μ d tgt ls st M post) (kf : ¬ 0 ≤ x → zV μ d (pc + 3) ls st M post) : zV μ d pc ls (zi x :: st) M post := by
  intro hR l dC dI as cA p e s m args below meth c H locs lsA hC hP hD hS hL
  exact lv_if_ge hC.1 hC.2.1 hd ht (fun q => kt ((z_le z_rng0 hx).mp q) hR l dC dI as cA p e s m args below meth c H locs lsA hC hP hD hS hL) (fun q => kf (fun z => q ((z_le z_rng0 hx).mpr z)) hR l dC dI as cA p e s m args below meth c H locs lsA hC hP hD hS hL)
theorem z_icmp_ge {μ : zD} {d pc : Nat} {ls : List (Option zAV)} {st : List zAV} {M : zMem} {post : Int → zMem → Prop} {x y off : Int} {tgt : Nat} (hx : zrng x) (hy : zrng y) (hd : decode μ.2.1 pc = .ok (.if_icmp .ge off, 3)) (ht : (pc : Int) + off = (tgt : Int)) (kt : y ≤ x → zV μ d tgt ls st M post) (kf : ¬ y ≤ x → zV μ d (pc + 3) ls st M post) : zV μ d pc ls (zi y :: zi x :: st) M post := by
  intro hR l dC dI as cA p e s m args below meth c H locs lsA hC hP hD hS hL
  exact lv_icmp_ge hC.1 hC.2.1 hd ht (fun q => kt ((z_le hy hx).mp q) hR l dC dI as cA p e s m args below meth c H locs lsA hC hP hD hS hL) (fun q => kf (fun z => q ((z_le hy hx).mpr z)) hR l dC dI as cA p e s m args below meth c H locs lsA hC hP hD hS hL)
theorem z_if_gt {μ : zD} {d pc : Nat} {ls : List (Option zAV)} {st : List zAV} {M : zMem} {post : Int → zMem → Prop} {x off : Int} {tgt : Nat} (hx : zrng x) (hd : decode μ.2.1 pc = .ok (.ifCond .gt off, 3)) (ht : (pc : Int) + off = (tgt : Int)) (kt : 0 < x → zV μ d tgt ls st M post) (kf : ¬ 0 < x → zV μ d (pc + 3) ls st M post) : zV μ d pc ls (zi x :: st) M post := by
  intro hR l dC dI as cA p e s m args below meth c H locs lsA hC hP hD hS hL
  exact lv_if_gt hC.1 hC.2.1 hd ht (fun q => kt ((z_lt z_rng0 hx).mp q) hR l dC dI as cA p e s m args below meth c H locs lsA hC hP hD hS hL) (fun q => kf (fun z => q ((z_lt z_rng0 hx).mpr z)) hR l dC dI as cA p e s m args below meth c H locs lsA hC hP hD hS hL)
theorem z_icmp_gt {μ : zD} {d pc : Nat} {ls : List (Option zAV)} {st : List zAV} {M : zMem} {post : Int → zMem → Prop} {x y off : Int} {tgt : Nat} (hx : zrng x) (hy : zrng y) (hd : decode μ.2.1 pc = .ok (.if_icmp .gt off, 3)) (ht : (pc : Int) + off = (tgt : Int)) (kt : y < x → zV μ d tgt ls st M post) (kf : ¬ y < x → zV μ d (pc + 3) ls st M post) : zV μ d pc ls (zi y :: zi x :: st) M post := by
  intro hR l dC dI as cA p e s m args below meth c H locs lsA hC hP hD hS hL
  exact lv_icmp_gt hC.1 hC.2.1 hd ht (fun q => kt ((z_lt hy hx).mp q) hR l dC dI as cA p e s m args below meth c H locs lsA hC hP hD hS hL) (fun q => kf (fun z => q ((z_lt hy hx).mpr z)) hR l dC dI as cA p e s m args below meth c H locs lsA hC hP hD hS hL)
theorem z_if_le {μ : zD} {d pc : Nat} {ls : List (Option zAV)} {st : List zAV} {M : zMem} {post : Int → zMem → Prop} {x off : Int} {tgt : Nat} (hx : zrng x) (hd : decode μ.2.1 pc = .ok (.ifCond .le off, 3)) (ht : (pc : Int) + off = (tgt : Int)) (kt : x ≤ 0 → zV μ d tgt ls st M post) (kf : ¬ x ≤ 0 → zV μ d (pc + 3) ls st M post) : zV μ d pc ls (zi x :: st) M post := by
  intro hR l dC dI as cA p e s m args below meth c H locs lsA hC hP hD hS hL
  exact lv_if_le hC.1 hC.2.1 hd ht (fun q => kt ((z_le hx z_rng0).mp q) hR l dC dI as cA p e s m args below meth c H locs lsA hC hP hD hS hL) (fun q => kf (fun z => q ((z_le hx z_rng0).mpr z)) hR l dC dI as cA p e s m args below meth c H locs lsA hC hP hD hS hL)
theorem z_icmp_le {μ : zD} {d pc : Nat} {ls : List (Option zAV)} {st : List zAV} {M : zMem} {post : Int → zMem → Prop} {x y off : Int} {tgt : Nat} (hx : zrng x) (hy : zrng y) (hd : decode μ.2.1 pc = .ok (.if_icmp .le off, 3)) (ht : (pc : Int) + off = (tgt : Int)) (kt : x ≤ y → zV μ d tgt ls st M post) (kf : ¬ x ≤ y → zV μ d (pc + 3) ls st M post) : zV μ d pc ls (zi y :: zi x :: st) M post := by
  intro hR l dC dI as cA p e s m args below meth c H locs lsA hC hP hD hS hL
  exact lv_icmp_le hC.1 hC.2.1 hd ht (fun q => kt ((z_le hx hy).mp q) hR l dC dI as cA p e s m args below meth c H locs lsA hC hP hD hS hL) (fun q => kf (fun z => q ((z_le hx hy).mpr z)) hR l dC dI as cA p e s m args below meth c H locs lsA hC hP hD hS hL)
theorem z_goto {μ : zD} {d pc : Nat} {ls : List (Option zAV)} {st : List zAV} {M : zMem} {post : Int → zMem → Prop} {off : Int} {tgt : Nat} (hd : decode μ.2.1 pc = .ok (.goto off, 3)) (ht : (pc : Int) + off = (tgt : Int)) (k : zV μ d tgt ls st M post) : zV μ d pc ls (st) M post := by
  intro hR l dC dI as cA p e s m args below meth c H locs lsA hC hP hD hS hL
  exact lv_goto hC.1 hC.2.1 hd ht (k hR l dC dI as cA p e s m args below meth c H locs lsA hC hP hD hS hL)
theorem z_swIn {μ : zD} {d pc : Nat} {ls : List (Option zAV)} {st : List zAV} {M : zMem} {post : Int → zMem → Prop} {dflt lo hi off x : Int} {offs : Array Int} {len tgt : Nat} (n : Nat) (hx : zrng x) (hn : x = lo + n) (hd : decode μ.2.1 pc = .ok (.tableswitch dflt lo hi offs, len)) (hh : lo + (n : Int) ≤ hi) (ho : offs[n]? = some off) (ht : (pc : Int) + off = (tgt : Int)) (k : zV μ d tgt ls st M post) : zV μ d pc ls (zi x :: st) M post := by
  intro hR l dC dI as cA p e s m args below meth c H locs lsA hC hP hD hS hL
  refine lv_tableIn hC.1 hC.2.1 hd (by rw [z_toInt hx]; omega) (by rw [z_toInt hx]; omega) (by rw [z_toInt hx, show (x - lo).toNat = n by omega]; exact ho) ht (k hR l dC dI as cA p e s m args below meth c H locs lsA hC hP hD hS hL)
theorem z_swOut {μ : zD} {d pc : Nat} {ls : List (Option zAV)} {st : List zAV} {M : zMem} {post : Int → zMem → Prop} {dflt lo hi x : Int} {offs : Array Int} {len tgt : Nat} (hx : zrng x) (hd : decode μ.2.1 pc = .ok (.tableswitch dflt lo hi offs, len)) (hh : x < lo ∨ hi < x) (ht : (pc : Int) + dflt = (tgt : Int)) (k : zV μ d tgt ls st M post) : zV μ d pc ls (zi x :: st) M post := by
  intro hR l dC dI as cA p e s m args below meth c H locs lsA hC hP hD hS hL
  refine lv_tableOut hC.1 hC.2.1 hd (by rw [z_toInt hx]; exact hh) ht (k hR l dC dI as cA p e s m args below meth c H locs lsA hC hP hD hS hL)
end
section
theorem z_iald {μ : zD} {d pc : Nat} {ls : List (Option zAV)} {st : List zAV} {M : zMem} {post : Int → zMem → Prop} {x : Int} {q n : Nat} (j : Nat) (hsh : zsh q = .inl (0, n)) (hc : q < 65) (hn : n < 2147483648) (hx : x = (j : Int)) (hj : j < n) (hd : decode μ.2.1 pc = .ok (.iaload, 1)) (k : zV μ d (pc + 1) ls (zi (M q j) :: st) M post) : zV μ d pc ls (zi x :: zr q :: st) M post := by
  intro hR l dC dI as cA p e s m args below meth c H locs lsA hC hP hD hS hL
  obtain ⟨h1, h2⟩ := z_in hx hj hn
  have k := k hR l dC dI as cA p e s m args below meth c H locs lsA hC hP hD hS hL
  simp only [List.map, zcv] at k ⊢
  refine va_iald hC.1 hC.2.1 hC.2.2.2.2.2.2.2.1 hP q 0 (by rw [zw_at as cA M hc, zE_i as cA M hsh]) rfl h1 hd ?_
  simp only [h2]
  exact k
theorem z_zald {μ : zD} {d pc : Nat} {ls : List (Option zAV)} {st : List zAV} {M : zMem} {post : Int → zMem → Prop} {x : Int} {q n : Nat} (j : Nat) (hsh : zsh q = .inl (2, n)) (hc : q < 65) (hn : n < 2147483648) (hx : x = (j : Int)) (hj : j < n) (hd : decode μ.2.1 pc = .ok (.baload, 1)) (k : zV μ d (pc + 1) ls (zi (M q j) :: st) M post) : zV μ d pc ls (zi x :: zr q :: st) M post := by
  intro hR l dC dI as cA p e s m args below meth c H locs lsA hC hP hD hS hL
  obtain ⟨h1, h2⟩ := z_in hx hj hn
  have k := k hR l dC dI as cA p e s m args below meth c H locs lsA hC hP hD hS hL
  simp only [List.map, zcv] at k ⊢
  refine va_zald hC.1 hC.2.1 hC.2.2.2.2.2.2.2.1 hP q 2 (by rw [zw_at as cA M hc, zE_z as cA M hsh]) rfl h1 hd ?_
  simp only [h2]
  exact k
theorem z_lald {μ : zD} {d pc : Nat} {ls : List (Option zAV)} {st : List zAV} {M : zMem} {post : Int → zMem → Prop} {x : Int} {q n : Nat} (j : Nat) (hsh : zsh q = .inl (1, n)) (hc : q < 65) (hn : n < 2147483648) (hx : x = (j : Int)) (hj : j < n) (hd : decode μ.2.1 pc = .ok (.laload, 1)) (k : zV μ d (pc + 1) ls (zl (M q j) :: st) M post) : zV μ d pc ls (zi x :: zr q :: st) M post := by
  intro hR l dC dI as cA p e s m args below meth c H locs lsA hC hP hD hS hL
  obtain ⟨h1, h2⟩ := z_in hx hj hn
  have k := k hR l dC dI as cA p e s m args below meth c H locs lsA hC hP hD hS hL
  simp only [List.map, zcv] at k ⊢
  refine va_lald hC.1 hC.2.1 hC.2.2.2.2.2.2.2.1 hP q 1 (by rw [zw_at as cA M hc, zE_l as cA M hsh]) rfl h1 hd ?_
  simp only [h2]
  exact k
theorem z_iast {μ : zD} {d pc : Nat} {ls : List (Option zAV)} {st : List zAV} {M : zMem} {post : Int → zMem → Prop} {x v : Int} {q n : Nat} (j : Nat) (h29 : q ≠ 29) (hsh : zsh q = .inl (0, n)) (hc : q < 65) (hn : n < 2147483648) (hx : x = (j : Int)) (hj : j < n) (hv : zrng v) (hd : decode μ.2.1 pc = .ok (.iastore, 1)) (k : zV μ d (pc + 1) ls st (zmu M q j v) post) : zV μ d pc ls (zi v :: zi x :: zr q :: st) M post := by
  intro hR l dC dI as cA p e s m args below meth c H locs lsA hC hP hD hS hL
  obtain ⟨h1, h2⟩ := z_in hx hj hn
  simp only [List.map, zcv]
  refine va_iast hC.1 hC.2.1 hC.2.2.2.2.2.2.2.1 hP hD hS q 0 (by rw [zw_at as cA M hc, zE_i as cA M hsh]) rfl h1 hd (fun H1 locs1 hP1 hD1 hS1 => ?_)
  rw [h2, zupd] at hP1 hD1
  have hze := zw_set as cA M (zmu M q j v) _ hc (zE_i as cA (zmu M q j v) hsh).symm (fun c' h => zmu_other M q j v h)
  rw [hze] at hP1 hD1
  exact k (hR.mu h29 hv) l dC dI as cA p e s m args below meth c H1 locs1 lsA hC hP1 hD1 hS1 hL
theorem z_zast {μ : zD} {d pc : Nat} {ls : List (Option zAV)} {st : List zAV} {M : zMem} {post : Int → zMem → Prop} {x v : Int} {q n : Nat} (j : Nat) (h29 : q ≠ 29) (hsh : zsh q = .inl (2, n)) (hc : q < 65) (hn : n < 2147483648) (hx : x = (j : Int)) (hj : j < n) (hv : v = 0 ∨ v = 1) (hd : decode μ.2.1 pc = .ok (.bastore, 1)) (k : zV μ d (pc + 1) ls st (zmu M q j v) post) : zV μ d pc ls (zi v :: zi x :: zr q :: st) M post := by
  intro hR l dC dI as cA p e s m args below meth c H locs lsA hC hP hD hS hL
  obtain ⟨h1, h2⟩ := z_in hx hj hn
  simp only [List.map, zcv]
  refine va_zast hC.1 hC.2.1 hC.2.2.2.2.2.2.2.1 hP hD hS q 2 (by rw [zw_at as cA M hc, zE_z as cA M hsh]) rfl h1 hd (fun H1 locs1 hP1 hD1 hS1 => ?_)
  have hnar : vp_nar .boolean (Int32.ofInt v) = Int32.ofInt v := by rcases hv with rfl | rfl <;> rfl
  rw [hnar] at hP1 hD1
  rw [h2, zupd] at hP1 hD1
  have hze := zw_set as cA M (zmu M q j v) _ hc (zE_z as cA (zmu M q j v) hsh).symm (fun c' h => zmu_other M q j v h)
  rw [hze] at hP1 hD1
  exact k (hR.mu h29 (by omega)) l dC dI as cA p e s m args below meth c H1 locs1 lsA hC hP1 hD1 hS1 hL
theorem z_last {μ : zD} {d pc : Nat} {ls : List (Option zAV)} {st : List zAV} {M : zMem} {post : Int → zMem → Prop} {x v : Int} {n : Nat} (j : Nat) (hsh : zsh 29 = .inl (1, n)) (hc : 29 < 65) (hn : n < 2147483648) (hx : x = (j : Int)) (hj : j < n) (hv : zrngL v) (hd : decode μ.2.1 pc = .ok (.lastore, 1)) (k : zV μ d (pc + 1) ls st (zmu M 29 j v) post) : zV μ d pc ls (zl v :: zi x :: zr 29 :: st) M post := by
  intro hR l dC dI as cA p e s m args below meth c H locs lsA hC hP hD hS hL
  obtain ⟨h1, h2⟩ := z_in hx hj hn
  simp only [List.map, zcv]
  refine va_last hC.1 hC.2.1 hC.2.2.2.2.2.2.2.1 hP hD hS 29 1 (by rw [zw_at as cA M hc, zE_l as cA M hsh]) rfl h1 hd (fun H1 locs1 hP1 hD1 hS1 => ?_)
  rw [h2, zupdL] at hP1 hD1
  have hze := zw_set as cA M (zmu M 29 j v) _ hc (zE_l as cA (zmu M 29 j v) hsh).symm (fun c' h => zmu_other M 29 j v h)
  rw [hze] at hP1 hD1
  exact k (hR.muL hv) l dC dI as cA p e s m args below meth c H1 locs1 lsA hC hP1 hD1 hS1 hL
theorem z_alen {μ : zD} {d pc : Nat} {ls : List (Option zAV)} {st : List zAV} {M : zMem} {post : Int → zMem → Prop} {q n : Nat} (hsh : zsh q = .inl (0, n)) (hc : q < 65) (hd : decode μ.2.1 pc = .ok (.arraylength, 1)) (k : zV μ d (pc + 1) ls (zi n :: st) M post) : zV μ d pc ls (zr q :: st) M post := by
  intro hR l dC dI as cA p e s m args below meth c H locs lsA hC hP hD hS hL
  have k := k hR l dC dI as cA p e s m args below meth c H locs lsA hC hP hD hS hL
  simp only [List.map, zcv] at k ⊢
  exact va_alen hC.1 hC.2.1 hC.2.2.2.2.2.2.2.1 hP q 0 (x := (n, .inl (fun i => Int32.ofInt (M q i)))) (by rw [zw_at as cA M hc, zE_i as cA M hsh]) rfl (v := Int32.ofInt n) rfl hd k
theorem z_gets70 {μ : zD} {d pc : Nat} {ls : List (Option zAV)} {st : List zAV} {M : zMem} {post : Int → zMem → Prop} {idx : Nat} (hw : Cond.fieldLink μ.1 idx "SmallWorlds" "TABLES" "[I" ∈ zAll) (hd : decode μ.2.1 pc = .ok (.getstatic idx, 3)) (k : zV μ d (pc + 3) ls (zr 70 :: st) M post) : zV μ d pc ls (st) M post := by
  intro hR l dC dI as cA p e s m args below meth c H locs lsA hC hP hD hS hL
  have k := k hR l dC dI as cA p e s m args below meth c H locs lsA hC hP hD hS hL
  exact va_gets hC.1 hC.2.1 hC.2.2.2.2.2.2.2.2.1.1.1 hS hC.2.2.2.1 (hC.2.2.2.2.1 _ hw) (fun _ h9 => h9) hd k
theorem z_tald70 {μ : zD} {d pc : Nat} {ls : List (Option zAV)} {st : List zAV} {M : zMem} {post : Int → zMem → Prop} {x : Int} (j : Nat) (hx : x = (j : Int)) (hj : j < 4) (hd : decode μ.2.1 pc = .ok (.iaload, 1)) (k : zV μ d (pc + 1) ls (zi (zro 70 j) :: st) M post) : zV μ d pc ls (zi x :: zr 70 :: st) M post := by
  intro hR l dC dI as cA p e s m args below meth c H locs lsA hC hP hD hS hL
  obtain ⟨h1, h2⟩ := z_in hx hj (by omega)
  have k := k hR l dC dI as cA p e s m args below meth c H locs lsA hC hP hD hS hL
  simp only [List.map, zcv] at k ⊢
  refine va_ti hC.1 hC.2.1 hC.2.2.2.2.2.2.2.2.1.1.2 hS h1 rfl hd ?_
  simp only [h2]
  exact k
theorem z_gets71 {μ : zD} {d pc : Nat} {ls : List (Option zAV)} {st : List zAV} {M : zMem} {post : Int → zMem → Prop} {idx : Nat} (hw : Cond.fieldLink μ.1 idx "SmallWorlds$Table" "NEW_NAME" "[I" ∈ zAll) (hd : decode μ.2.1 pc = .ok (.getstatic idx, 3)) (k : zV μ d (pc + 3) ls (zr 71 :: st) M post) : zV μ d pc ls (st) M post := by
  intro hR l dC dI as cA p e s m args below meth c H locs lsA hC hP hD hS hL
  have k := k hR l dC dI as cA p e s m args below meth c H locs lsA hC hP hD hS hL
  exact va_gets hC.1 hC.2.1 hC.2.2.2.2.2.2.2.2.1.2.1.1 hS hC.2.2.2.1 (hC.2.2.2.2.1 _ hw) (fun _ h9 => h9) hd k
theorem z_tald71 {μ : zD} {d pc : Nat} {ls : List (Option zAV)} {st : List zAV} {M : zMem} {post : Int → zMem → Prop} {x : Int} (j : Nat) (hx : x = (j : Int)) (hj : j < 18) (hd : decode μ.2.1 pc = .ok (.iaload, 1)) (k : zV μ d (pc + 1) ls (zi (zro 71 j) :: st) M post) : zV μ d pc ls (zi x :: zr 71 :: st) M post := by
  intro hR l dC dI as cA p e s m args below meth c H locs lsA hC hP hD hS hL
  obtain ⟨h1, h2⟩ := z_in hx hj (by omega)
  have k := k hR l dC dI as cA p e s m args below meth c H locs lsA hC hP hD hS hL
  simp only [List.map, zcv] at k ⊢
  refine va_ti hC.1 hC.2.1 hC.2.2.2.2.2.2.2.2.1.2.1.2 hS h1 rfl hd ?_
  simp only [h2]
  exact k
theorem z_gets72 {μ : zD} {d pc : Nat} {ls : List (Option zAV)} {st : List zAV} {M : zMem} {post : Int → zMem → Prop} {idx : Nat} (hw : Cond.fieldLink μ.1 idx "SmallWorlds$Table" "OLD_NAME" "[I" ∈ zAll) (hd : decode μ.2.1 pc = .ok (.getstatic idx, 3)) (k : zV μ d (pc + 3) ls (zr 72 :: st) M post) : zV μ d pc ls (st) M post := by
  intro hR l dC dI as cA p e s m args below meth c H locs lsA hC hP hD hS hL
  have k := k hR l dC dI as cA p e s m args below meth c H locs lsA hC hP hD hS hL
  exact va_gets hC.1 hC.2.1 hC.2.2.2.2.2.2.2.2.1.2.2.1.1 hS hC.2.2.2.1 (hC.2.2.2.2.1 _ hw) (fun _ h9 => h9) hd k
theorem z_tald72 {μ : zD} {d pc : Nat} {ls : List (Option zAV)} {st : List zAV} {M : zMem} {post : Int → zMem → Prop} {x : Int} (j : Nat) (hx : x = (j : Int)) (hj : j < 18) (hd : decode μ.2.1 pc = .ok (.iaload, 1)) (k : zV μ d (pc + 1) ls (zi (zro 72 j) :: st) M post) : zV μ d pc ls (zi x :: zr 72 :: st) M post := by
  intro hR l dC dI as cA p e s m args below meth c H locs lsA hC hP hD hS hL
  obtain ⟨h1, h2⟩ := z_in hx hj (by omega)
  have k := k hR l dC dI as cA p e s m args below meth c H locs lsA hC hP hD hS hL
  simp only [List.map, zcv] at k ⊢
  refine va_ti hC.1 hC.2.1 hC.2.2.2.2.2.2.2.2.1.2.2.1.2 hS h1 rfl hd ?_
  simp only [h2]
  exact k
theorem z_gets73 {μ : zD} {d pc : Nat} {ls : List (Option zAV)} {st : List zAV} {M : zMem} {post : Int → zMem → Prop} {idx : Nat} (hw : Cond.fieldLink μ.1 idx "SmallWorlds$Table" "RENAMINGS" "[I" ∈ zAll) (hd : decode μ.2.1 pc = .ok (.getstatic idx, 3)) (k : zV μ d (pc + 3) ls (zr 73 :: st) M post) : zV μ d pc ls (st) M post := by
  intro hR l dC dI as cA p e s m args below meth c H locs lsA hC hP hD hS hL
  have k := k hR l dC dI as cA p e s m args below meth c H locs lsA hC hP hD hS hL
  exact va_gets hC.1 hC.2.1 hC.2.2.2.2.2.2.2.2.1.2.2.2.1.1 hS hC.2.2.2.1 (hC.2.2.2.2.1 _ hw) (fun _ h9 => h9) hd k
theorem z_tald73 {μ : zD} {d pc : Nat} {ls : List (Option zAV)} {st : List zAV} {M : zMem} {post : Int → zMem → Prop} {x : Int} (j : Nat) (hx : x = (j : Int)) (hj : j < 4) (hd : decode μ.2.1 pc = .ok (.iaload, 1)) (k : zV μ d (pc + 1) ls (zi (zro 73 j) :: st) M post) : zV μ d pc ls (zi x :: zr 73 :: st) M post := by
  intro hR l dC dI as cA p e s m args below meth c H locs lsA hC hP hD hS hL
  obtain ⟨h1, h2⟩ := z_in hx hj (by omega)
  have k := k hR l dC dI as cA p e s m args below meth c H locs lsA hC hP hD hS hL
  simp only [List.map, zcv] at k ⊢
  refine va_ti hC.1 hC.2.1 hC.2.2.2.2.2.2.2.2.1.2.2.2.1.2 hS h1 rfl hd ?_
  simp only [h2]
  exact k
theorem z_gets74 {μ : zD} {d pc : Nat} {ls : List (Option zAV)} {st : List zAV} {M : zMem} {post : Int → zMem → Prop} {idx : Nat} (hw : Cond.fieldLink μ.1 idx "SmallWorlds$Catalog" "START" "[I" ∈ zAll) (hd : decode μ.2.1 pc = .ok (.getstatic idx, 3)) (k : zV μ d (pc + 3) ls (zr 74 :: st) M post) : zV μ d pc ls (st) M post := by
  intro hR l dC dI as cA p e s m args below meth c H locs lsA hC hP hD hS hL
  have k := k hR l dC dI as cA p e s m args below meth c H locs lsA hC hP hD hS hL
  exact va_gets hC.1 hC.2.1 hC.2.2.2.2.2.2.2.2.1.2.2.2.2.1 hS hC.2.2.2.1 (hC.2.2.2.2.1 _ hw) (fun _ h9 => h9) hd k
theorem z_tald74 {μ : zD} {d pc : Nat} {ls : List (Option zAV)} {st : List zAV} {M : zMem} {post : Int → zMem → Prop} {x : Int} (j : Nat) (hx : x = (j : Int)) (hj : j < 5) (hd : decode μ.2.1 pc = .ok (.iaload, 1)) (k : zV μ d (pc + 1) ls (zi (zro 74 j) :: st) M post) : zV μ d pc ls (zi x :: zr 74 :: st) M post := by
  intro hR l dC dI as cA p e s m args below meth c H locs lsA hC hP hD hS hL
  obtain ⟨h1, h2⟩ := z_in hx hj (by omega)
  have k := k hR l dC dI as cA p e s m args below meth c H locs lsA hC hP hD hS hL
  simp only [List.map, zcv] at k ⊢
  refine va_ti hC.1 hC.2.1 hC.2.2.2.2.2.2.2.2.1.2.2.2.2.2 hS h1 rfl hd ?_
  simp only [h2]
  exact k
theorem z_gets70N {μ : zD} {d pc : Nat} {ls : List (Option zAV)} {st : List zAV} {M : zMem} {post : Int → zMem → Prop}  (ho : μ.1 = "SmallWorlds$Catalog") (hd : decode μ.2.1 pc = .ok (.getstatic 60, 3)) (k : zV μ d (pc + 3) ls (zr 70 :: st) M post) : zV μ d pc ls (st) M post := by
  intro hR l dC dI as cA p e s m args below meth c H locs lsA hC hP hD hS hL
  have k := k hR l dC dI as cA p e s m args below meth c H locs lsA hC hP hD hS hL
  have ho2 := hC.2.2.2.1
  rw [ho] at ho2
  exact va_getsN hC.1 hC.2.1 hC.2.2.2.2.2.2.2.2.1.1.1 hS ho2 (va_Nw.use rfl hC.2.2.2.2.2.2.2.2.2.2.2.2.2.2) (fun _ h9 => h9) hd k
theorem z_get {μ : zD} {d pc : Nat} {ls : List (Option zAV)} {st : List zAV} {M : zMem} {post : Int → zMem → Prop} {q ci k N idx : Nat} {rs : List (Option Nat)} {C : String} {Tt : u_T} {v : zAV} (hsh : zsh q = .inr (ci, rs)) (hc : q < 65) (hcl : vwCl[ci]? = some (C, Tt, N)) (hin : ∀ w ∈ u_ws C Tt N, w ∈ zAll) (hk : k < N) (hw : Cond.fieldLink μ.1 idx (Tt k).1 (Tt k).2.1 (Tt k).2.2.1 ∈ zAll) (hv : ∀ as, (zfs as M q rs)[k]? = some (zcv as v)) (hd : decode μ.2.1 pc = .ok (.getfield idx, 3)) (kk : zV μ d (pc + 3) ls (v :: st) M post) : zV μ d pc ls (zr q :: st) M post := by
  intro hR l dC dI as cA p e s m args below meth c H locs lsA hC hP hD hS hL
  have kk := kk hR l dC dI as cA p e s m args below meth c H locs lsA hC hP hD hS hL
  exact va_get hC.1 hC.2.1 hC.2.2.2.2.1 hin hC.2.2.2.1 hC.2.2.2.2.2.2.2.1 hP q (by rw [zw_at as cA M hc, zE_o as cA M hsh]) hcl k hk (hC.2.2.2.2.1 _ hw) (fun _ h9 => h9) (hv as) hd kk
theorem z_put {μ : zD} {d pc : Nat} {ls : List (Option zAV)} {st : List zAV} {M : zMem} {post : Int → zMem → Prop} {q ci k N idx : Nat} {rs : List (Option Nat)} {C : String} {Tt : u_T} {v : Int} {ty : FieldType} (hsh : zsh q = .inr (ci, rs)) (hc : q < 65) (h29 : q ≠ 29) (hcl : vwCl[ci]? = some (C, Tt, N)) (hin : ∀ w ∈ u_ws C Tt N, w ∈ zAll) (ty0 : Nat → FieldType) (hty : ∀ k, k < N → parseFieldDescriptor (Tt k).2.2.1 = some (ty0 k)) (hnm : ∀ a, a < N → ∀ b, b < N → a ≠ b → (Tt a).2.1 ≠ (Tt b).2.1) (hk : k < N) (hw : Cond.fieldLink μ.1 idx (Tt k).1 (Tt k).2.1 (Tt k).2.2.1 ∈ zAll) (hfin : (Tt k).2.2.2 = false) (hpt : parseFieldDescriptor (Tt k).2.2.1 = some ty) (hr : rs[k]? = some none) (hl : k < rs.length) (hv : zrng v) (hn : narrow ty (.int (Int32.ofInt v)) = .int (Int32.ofInt v)) (hfit : fits ty (.int (Int32.ofInt v)) = true) (hd : decode μ.2.1 pc = .ok (.putfield idx, 3)) (kk : zV μ d (pc + 3) ls st (zmu M q k v) post) : zV μ d pc ls (zi v :: zr q :: st) M post := by
  intro hR l dC dI as cA p e s m args below meth c H locs lsA hC hP hD hS hL
  refine va_put hC.1 hC.2.1 hC.2.2.2.2.1 hin ty0 hty hnm hC.2.2.2.1 hC.2.2.2.2.2.2.2.1 hP hD hS q (by rw [zw_at as cA M hc, zE_o as cA M hsh]) hcl k hk (hC.2.2.2.2.1 _ hw) (fun _ h9 => h9) hfin hpt hn hfit (by simpa [zfs] using hl) hd (fun H1 locs1 hP1 hD1 hS1 => ?_)
  rw [show zcv as (zi v) = Value.int (Int32.ofInt v) from rfl, zfs_set v hr] at hP1 hD1
  have hze := zw_set as cA M (zmu M q k v) _ hc (zE_o as cA (zmu M q k v) hsh).symm (fun c' h => zmu_other M q k v h)
  rw [hze] at hP1 hD1
  exact kk (hR.mu h29 hv) l dC dI as cA p e s m args below meth c H1 locs1 lsA hC hP1 hD1 hS1 hL
theorem z_iret {μ : zD} {d pc : Nat} {ls : List (Option zAV)} {st : List zAV} {M : zMem} {post : Int → zMem → Prop} {x : Int} (hret : μ.2.2.2.1 = some .int) (hp : post x M) (hd : decode μ.2.1 pc = .ok (.ireturn, 1)) : zV μ d pc ls [zi x] M post := by
  intro hR l dC dI as cA p e s m args below meth c H locs lsA hC hP hD hS hL
  have hr := hC.2.2.2.2.2.1
  have hlocks := hC.2.2.2.2.2.2.1
  rw [hret] at hr ⊢
  exact W.iret hC.1 hC.2.1 hr (fun t ht _ => ⟨⟨Int32.ofInt x, (x, M), rfl, ⟨rfl, hp, hR⟩, by rw [ht]; exact hP, hD⟩, hS.F ht⟩) hS.2.2 hd hlocks
theorem z_zret {μ : zD} {d pc : Nat} {ls : List (Option zAV)} {st : List zAV} {M : zMem} {post : Int → zMem → Prop} {x : Int} (hret : μ.2.2.2.1 = some .boolean) (hx : x = 0 ∨ x = 1) (hp : post x M) (hd : decode μ.2.1 pc = .ok (.ireturn, 1)) : zV μ d pc ls [zi x] M post := by
  intro hR l dC dI as cA p e s m args below meth c H locs lsA hC hP hD hS hL
  have hr := hC.2.2.2.2.2.1
  have hlocks := hC.2.2.2.2.2.2.1
  rw [hret] at hr ⊢
  exact W.zret hC.1 hC.2.1 hr (by rcases hx with rfl | rfl <;> rfl) (fun t ht _ => ⟨⟨Int32.ofInt x, (x, M), rfl, ⟨rfl, hp, hR⟩, by rw [ht]; exact hP, hD⟩, hS.F ht⟩) hS.2.2 hd hlocks
theorem z_vret {μ : zD} {d pc : Nat} {ls : List (Option zAV)} {st : List zAV} {M : zMem} {post : Int → zMem → Prop} (hret : μ.2.2.2.1 = none) (hp : post 0 M) (hd : decode μ.2.1 pc = .ok (.return_, 1)) : zV μ d pc ls [] M post := by
  intro hR l dC dI as cA p e s m args below meth c H locs lsA hC hP hD hS hL
  have hr := hC.2.2.2.2.2.1
  have hlocks := hC.2.2.2.2.2.2.1
  rw [hret] at hr ⊢
  exact W.vret hC.1 hC.2.1 hr (fun t ht _ => ⟨⟨M, rfl, ⟨hp, hR⟩, by rw [ht]; exact hP, hD⟩, hS.F ht⟩) hS.2.2 hd hlocks
end
section
def zcat (st : List zAV) : Nat := match st with
  | [] => 0
  | .inr (.inl _) :: r => 2 + zcat r
  | _ :: r => 1 + zcat r
theorem zcat_sum (as : Nat → Nat) : ∀ st : List zAV, ((st.map (zcv as)).map fun v => v.category).sum = zcat st
  | [] => rfl
  | .inl x :: r => by simp only [List.map, List.sum_cons, zcat_sum as r, zcat]; rfl
  | .inr (.inl x) :: r => by simp only [List.map, List.sum_cons, zcat_sum as r, zcat]; rfl
  | .inr (.inr x) :: r => by simp only [List.map, List.sum_cons, zcat_sum as r, zcat]; rfl
def zres (ret : Option FieldType) (r : Int) : List zAV := match ret with
  | none => []
  | some _ => [zi r]
theorem zA_le {as : Nat → Nat} {a b : Nat} (h : a ≤ b) : ∀ q, zA as b q → zA as a q := fun q hq => hq.imp id (fun z => Nat.le_trans h z)
theorem zPc_blind {dC : Nat → ClassId} {dI : Nat → Nat → Nat} {as : Nat → Nat} {cA : Nat → ClassId} {sz : Nat} {av : List zAV} {M : zMem} : FrameBlind (zPc dC dI as cA sz av M) := by
  intro a U g mk q
  obtain ⟨q0, q1, qP, ⟨qK, qX, qN⟩, qD⟩ := q
  exact ⟨q0, q1, qP, ⟨va_K.moved (u := U) (U := U.calling g mk a) (Vm.Alike.refl U.vm) qK, zX.moved (u := U) (U := U.calling g mk a) (Vm.Alike.refl U.vm) qX, zN.same (s := U) (U := U.calling g mk a) rfl qN⟩, qD⟩
theorem zPc_at {dC : Nat → ClassId} {dI : Nat → Nat → Nat} {as : Nat → Nat} {cA : Nat → ClassId} {av : List zAV} {M : zMem} {s : State} {H : Heap} {locs : List Loc} (hCx : zCx dC dI as cA (zA as s.heap.size) s s.heap) (hP : va_P (dC, dI) vwCl (zw as cA M) H) (hD : va_D (zA as s.heap.size) (zw as cA M)) (hS : va_S (zA as s.heap.size) s.heap H locs) (U : State) (hU : U.heap = H) (hW : s.WarmedH U.vm) : zPc dC dI as cA H.size av M (av.map (zcv as)).toArray U :=
  ⟨rfl, by rw [hU], by rw [hU]; exact hP, ⟨va_K.moved hW.alike hCx.1, by rw [hU]; exact ((hCx.2.1.kept (H1 := H) hS.2.1).moved hW.alike).narrow (zA_le hS.1), hCx.2.2.warm hW⟩, hD.weaken (fun _ _ _ _ => trivial)⟩
theorem zcall_go {μ μ' : zD} {d pc : Nat} {ls : List (Option zAV)} {st st0 : List zAV} {post post' : Int → zMem → Prop} {a : Array Value}
    {l : Launch} {dC : Nat → ClassId} {dI : Nat → Nat → Nat} {as : Nat → Nat} {cA : Nat → ClassId} {p : Program} {e : Env} {s : State} {m : MethodId} {args : Array Value} {below : List Frame} {meth : Method} {c : Code} {H : Heap} {locs : List Loc} {lsA : Array Slot}
    (hC : zC μ dC dI as cA p s m args meth c) (hS : va_S (zA as s.heap.size) s.heap H locs) (hL : zL as lsA μ.2.2.1 ls)
    (hr : va_Run p l e (zrm d) s m args below meth c H locs 0 0 0 0 (F0 m pc lsA (st0.map (zcv as))) (st.map (zcv as)) (zQ μ'.2.2.2.1 dC dI as cA (zA as H.size) post' a) (zA as H.size))
    (kk : ∀ r M', post' r M' → zV μ d (pc + 3) ls (zres μ'.2.2.2.1 r ++ st) M' post) :
    W p l e (zrm d) s m args below meth c H locs 0 0 (MQ below (zQ μ.2.2.2.1 dC dI as cA (zA as s.heap.size) post) args s 0 0 (zA as s.heap.size)) (F0 m pc lsA (st0.map (zcv as))) := by
  obtain ⟨own', cc', nl', ret', y'⟩ := μ'
  cases ret' with
  | none =>
    refine va_callv (a := a) hr hS (fun q _ h => zA_le hS.1 q h) (zA_le hS.1) (fun u t H1 locs1 ht hvm hw hB hz1 hk1 hS1 => ?_)
    obtain ⟨hp1, hr1⟩ := hw
    obtain ⟨hP1, hD1⟩ := hB
    rw [ht] at hP1
    exact kk 0 u hp1 hr1 l dC dI as cA p e s m args below meth c H1 locs1 lsA hC hP1 (hD1.weaken (fun _ q _ h => zA_le hS.1 q.1 h)) hS1 hL
  | some ty =>
    refine va_calli (a := a) hr hS (fun q _ h => zA_le hS.1 q h) (zA_le hS.1) (fun r u t H1 locs1 ht hvm hw hB hz1 hk1 hS1 => ?_)
    obtain ⟨x, M1⟩ := u
    obtain ⟨rfl, hp1, hr1⟩ := hw
    obtain ⟨hP1, hD1⟩ := hB
    rw [ht] at hP1
    exact kk x M1 hp1 hr1 l dC dI as cA p e s m args below meth c H1 locs1 lsA hC hP1 (hD1.weaken (fun _ q _ h => zA_le hS.1 q.1 h)) hS1 hL
theorem z_room {m : MethodId} {pc : Nat} {lsA : Array Slot} {x : List Value} (as : Nat → Nat) {st : List zAV} (h : zcat st ≤ 8) : 2 * (F0 m pc lsA x).monitorRoom + ((st.map (zcv as)).map fun v => v.category).sum ≤ 8 := lv_room (by rw [zcat_sum]; exact h)
theorem zAll_In : ∀ w ∈ zAll, w ∈ zAll := fun _ h => h
theorem z_goodV {own : String} {idx : Nat} {C : String} {μ' : zD} (w1 : Cond.methodLink own idx μ'.2.2.2.2 ∈ zAll) (w2 : Cond.instanceMethod μ'.2.2.2.2 ∈ zAll) (w3 : Cond.selects C μ'.2.2.2.2 μ'.2.2.2.2 ∈ zAll) (w4 : Cond.initialized C ∈ zAll) (w5 : Cond.code μ'.2.2.2.2 μ'.2.1 μ'.2.2.1 μ'.2.2.2.1 ∈ zAll) : GoodIn zAll (wsV own idx C μ'.2.2.2.2 (zws μ')) := by
  intro w hw
  unfold wsV at hw
  rcases List.mem_append.mp hw with h | h
  · have : w ∈ zAll := by
      simp only [List.mem_cons, List.not_mem_nil, or_false] at h
      rcases h with rfl | rfl | rfl | rfl <;> assumption
    exact ⟨this, zAll_good this⟩
  · exact zws_good zAll_In w5 w h
theorem z_goodS {own : String} {idx : Nat} {μ' : zD} (w1 : Cond.methodLink own idx μ'.2.2.2.2 ∈ zAll) (w2 : Cond.static μ'.2.2.2.2 ∈ zAll) (w4 : Cond.initialized μ'.2.2.2.2.cls ∈ zAll) (w5 : Cond.code μ'.2.2.2.2 μ'.2.1 μ'.2.2.1 μ'.2.2.2.1 ∈ zAll) : GoodIn zAll (va_wsS own idx μ'.2.2.2.2 (zws μ')) := by
  intro w hw
  unfold va_wsS at hw
  rcases List.mem_append.mp hw with h | h
  · have : w ∈ zAll := by
      simp only [List.mem_cons, List.not_mem_nil, or_false] at h
      rcases h with rfl | rfl | rfl <;> assumption
    exact ⟨this, zAll_good this⟩
  · exact zws_good zAll_In w5 w h
theorem z_callV {μ μ' : zD} {d d' pc idx n : Nat} {ls : List (Option zAV)} {st av : List zAV} {M : zMem} {post post' : Int → zMem → Prop} {q ci N : Nat} {rs : List (Option Nat)} {C : String} {Tt : u_T} (hsh : zsh q = .inr (ci, rs)) (hq : q < 65) (hcl : vwCl[ci]? = some (C, Tt, N)) (w1 : Cond.methodLink μ.1 idx μ'.2.2.2.2 ∈ zAll) (w2 : Cond.instanceMethod μ'.2.2.2.2 ∈ zAll) (w3 : Cond.selects C μ'.2.2.2.2 μ'.2.2.2.2 ∈ zAll) (w4 : Cond.initialized C ∈ zAll) (w5 : Cond.code μ'.2.2.2.2 μ'.2.1 μ'.2.2.1 μ'.2.2.2.1 ∈ zAll) (hy : μ'.2.2.2.2.cls = C ∧ μ'.2.2.2.2.cls ≠ "java/lang/invoke/MethodHandle" ∧ μ'.2.2.2.2.cls ≠ "java/lang/invoke/VarHandle" ∧ (parseMethodDescriptor μ'.2.2.2.2.desc).map (fun d => d.parameters.length) = some n) (hlen : av.length = n) (hnl : μ'.2.2.1 ≤ 11) (hd : decode μ.2.1 pc = .ok (.invokevirtual idx, 3)) (hdd : d' + 1 ≤ d) (hst : zcat st ≤ 8) (hSp : zSp μ' d' (zr q :: av) M post') (kk : ∀ r M', post' r M' → zV μ d (pc + 3) ls (zres μ'.2.2.2.1 r ++ st) M' post) : zV μ d pc ls (av.reverse ++ zr q :: st) M post := by
  intro hR l dC dI as cA p e s m args below meth c H locs lsA hC hP hD hS hL
  have hM := hSp hR l dC dI as cA H.size
  refine zcall_go (μ' := μ') (post' := post') (a := ((zr q :: av).map (zcv as)).toArray) hC hS hL ?_ kk
  exact va_runV (As := av.map (zcv as)) (b := as q) (nL := μ.2.2.1) (Ts := zAll) (own := μ.1) (n := n) ⟨hC.1, hC.2.1, hC.2.2.1, hC.2.2.2.1, hC.2.2.2.2.1⟩ hM
    (cwV (C := C) n hC.2.2.2.2.1 (z_goodV w1 w2 w3 w4 w5) rfl rfl rfl hy ⟨hdd, by show 8 + (μ'.2.2.1 + 11) + 30 * d' ≤ 30 * d; omega⟩)
    ⟨zPc_blind, va_recv hC.2.2.2.2.2.2.2.1 hP hcl (by rw [zw_at as cA M hq, zE_o as cA M hsh]), fun U hU hW => zPc_at (av := zr q :: av) hC.2.2.2.2.2.2.2 hP hD hS U hU hW⟩
    rfl (by rw [List.length_map]; exact hlen) hL.1 (by simp [zcv]) (z_room as hst) hd ⟨Nat.le_refl 0, Nat.le_refl 0⟩
theorem z_callS {μ μ' : zD} {d d' pc idx n : Nat} {ls : List (Option zAV)} {st av : List zAV} {M : zMem} {post post' : Int → zMem → Prop} (w1 : Cond.methodLink μ.1 idx μ'.2.2.2.2 ∈ zAll) (w2 : Cond.static μ'.2.2.2.2 ∈ zAll) (w4 : Cond.initialized μ'.2.2.2.2.cls ∈ zAll) (w5 : Cond.code μ'.2.2.2.2 μ'.2.1 μ'.2.2.1 μ'.2.2.2.1 ∈ zAll) (hy : μ'.2.2.2.2.cls ≠ "java/lang/invoke/MethodHandle" ∧ μ'.2.2.2.2.cls ≠ "java/lang/invoke/VarHandle" ∧ (parseMethodDescriptor μ'.2.2.2.2.desc).map (fun d => d.parameters.length) = some n) (hlen : av.length = n) (hnl : μ'.2.2.1 ≤ 11) (hd : decode μ.2.1 pc = .ok (.invokestatic idx, 3)) (hdd : d' + 1 ≤ d) (hst : zcat st ≤ 8) (hSp : zSp μ' d' av M post') (kk : ∀ r M', post' r M' → zV μ d (pc + 3) ls (zres μ'.2.2.2.1 r ++ st) M' post) : zV μ d pc ls (av.reverse ++ st) M post := by
  intro hR l dC dI as cA p e s m args below meth c H locs lsA hC hP hD hS hL
  have hM := hSp hR l dC dI as cA H.size
  refine zcall_go (μ' := μ') (post' := post') (a := (av.map (zcv as)).toArray) hC hS hL ?_ kk
  exact va_runS (As := av.map (zcv as)) (nL := μ.2.2.1) (Ts := zAll) (own := μ.1) (n := n) ⟨hC.1, hC.2.1, hC.2.2.1, hC.2.2.2.1, hC.2.2.2.2.1⟩ hM
    (va_cwS n hC.2.2.2.2.1 (z_goodS w1 w2 w4 w5) rfl rfl rfl hy ⟨hdd, by show 8 + (μ'.2.2.1 + 11) + 30 * d' ≤ 30 * d; omega⟩)
    ⟨zPc_blind, fun U hU hW => zPc_at hC.2.2.2.2.2.2.2 hP hD hS U hU hW⟩
    rfl (by rw [List.length_map]; exact hlen) hL.1 (by simp) (z_room as hst) hd ⟨Nat.le_refl 0, Nat.le_refl 0⟩
theorem z_callSN {μ μ' : zD} {d d' pc idx n : Nat} {ls : List (Option zAV)} {st av : List zAV} {M : zMem} {post post' : Int → zMem → Prop} {host : String} (hl : ∀ U, zN U → va_Nw (.methodLinkNest μ.1 idx μ'.2.2.2.2 host) U) (w2 : Cond.static μ'.2.2.2.2 ∈ zAll) (w4 : Cond.initialized μ'.2.2.2.2.cls ∈ zAll) (w5 : Cond.code μ'.2.2.2.2 μ'.2.1 μ'.2.2.1 μ'.2.2.2.1 ∈ zAll) (hy : μ'.2.2.2.2.cls ≠ "java/lang/invoke/MethodHandle" ∧ μ'.2.2.2.2.cls ≠ "java/lang/invoke/VarHandle" ∧ (parseMethodDescriptor μ'.2.2.2.2.desc).map (fun d => d.parameters.length) = some n) (hlen : av.length = n) (hnl : μ'.2.2.1 ≤ 11) (hd : decode μ.2.1 pc = .ok (.invokestatic idx, 3)) (hdd : d' + 1 ≤ d) (hst : zcat st ≤ 8) (hSp : zSp μ' d' av M post') (kk : ∀ r M', post' r M' → zV μ d (pc + 3) ls (zres μ'.2.2.2.1 r ++ st) M' post) : zV μ d pc ls (av.reverse ++ st) M post := by
  intro hR l dC dI as cA p e s m args below meth c H locs lsA hC hP hD hS hL
  have hM := hSp hR l dC dI as cA H.size
  refine zcall_go (μ' := μ') (post' := post') (a := (av.map (zcv as)).toArray) hC hS hL ?_ kk
  exact va_runSN (As := av.map (zcv as)) (nL := μ.2.2.1) (Ts := zAll) (own := μ.1) (n := n) (host := host) ⟨hC.1, hC.2.1, hC.2.2.1, hC.2.2.2.1, hC.2.2.2.2.1⟩ hM
    ⟨va_cnB n hC.2.2.2.2.1 (zws_good zAll_In w5) rfl rfl rfl (hl s hC.2.2.2.2.2.2.2.2.2) (hC.2.2.2.2.1 _ w4) hy ⟨hdd, by show 8 + (μ'.2.2.1 + 11) + 30 * d' ≤ 30 * d; omega⟩, hC.2.2.2.2.1 _ w2, trivial⟩
    ⟨zPc_blind, fun U hU hW => zPc_at hC.2.2.2.2.2.2.2 hP hD hS U hU hW⟩
    rfl (by rw [List.length_map]; exact hlen) hL.1 (by simp) (z_room as hst) hd ⟨Nat.le_refl 0, Nat.le_refl 0⟩
theorem z_max {μ : zD} {d pc idx : Nat} {ls : List (Option zAV)} {st : List zAV} {M : zMem} {post : Int → zMem → Prop} {x y : Int} (hx : zrng x) (hy : zrng y) (w1 : Cond.methodLink μ.1 idx Lib.Math.max.name ∈ zAll) (w2 : Cond.static Lib.Math.max.name ∈ zAll) (w4 : Cond.initialized "java/lang/Math" ∈ zAll) (w5 : Cond.code Lib.Math.max.name Lib.Math.max.code 2 (some .int) ∈ zAll) (hd : decode μ.2.1 pc = .ok (.invokestatic idx, 3)) (hdd : 1 ≤ d) (hst : zcat st ≤ 8) (k : zV μ d (pc + 3) ls (zi (if x < y then y else x) :: st) M post) : zV μ d pc ls (zi y :: zi x :: st) M post := by
  intro hR l dC dI as cA p e s m args below meth c H locs lsA hC hP hD hS hL
  have k := k hR l dC dI as cA p e s m args below meth c H locs lsA hC hP hD hS hL
  simp only [List.map, zcv] at k ⊢
  refine va_mmax hC.1 hC.2.1 (hC.2.2.1.trans hL.1.symm) hC.2.2.2.1 (hC.2.2.2.2.1 _ w1) (hC.2.2.2.2.1 _ w2) (hC.2.2.2.2.1 _ w4) (hC.2.2.2.2.1 _ w5) hdd (by have := zcat_sum as st; show _ ≤ 30 * d; omega) (Nat.le_refl 0) (Nat.le_refl 0) hd ?_
  have h9 : (if Int32.ofInt x < Int32.ofInt y then Int32.ofInt y else Int32.ofInt x) = Int32.ofInt (if x < y then y else x) := by
    simp only [z_lt hx hy, z_lt hy hx]
    split <;> rfl
  rw [h9]
  exact k
theorem z_min {μ : zD} {d pc idx : Nat} {ls : List (Option zAV)} {st : List zAV} {M : zMem} {post : Int → zMem → Prop} {x y : Int} (hx : zrng x) (hy : zrng y) (w1 : Cond.methodLink μ.1 idx Lib.Math.min.name ∈ zAll) (w2 : Cond.static Lib.Math.min.name ∈ zAll) (w4 : Cond.initialized "java/lang/Math" ∈ zAll) (w5 : Cond.code Lib.Math.min.name Lib.Math.min.code 2 (some .int) ∈ zAll) (hd : decode μ.2.1 pc = .ok (.invokestatic idx, 3)) (hdd : 1 ≤ d) (hst : zcat st ≤ 8) (k : zV μ d (pc + 3) ls (zi (if y < x then y else x) :: st) M post) : zV μ d pc ls (zi y :: zi x :: st) M post := by
  intro hR l dC dI as cA p e s m args below meth c H locs lsA hC hP hD hS hL
  have k := k hR l dC dI as cA p e s m args below meth c H locs lsA hC hP hD hS hL
  simp only [List.map, zcv] at k ⊢
  refine va_mmin hC.1 hC.2.1 (hC.2.2.1.trans hL.1.symm) hC.2.2.2.1 (hC.2.2.2.2.1 _ w1) (hC.2.2.2.2.1 _ w2) (hC.2.2.2.2.1 _ w4) (hC.2.2.2.2.1 _ w5) hdd (by have := zcat_sum as st; show _ ≤ 30 * d; omega) (Nat.le_refl 0) (Nat.le_refl 0) hd ?_
  have h9 : (if Int32.ofInt y < Int32.ofInt x then Int32.ofInt y else Int32.ofInt x) = Int32.ofInt (if y < x then y else x) := by
    simp only [z_lt hx hy, z_lt hy hx]
    split <;> rfl
  rw [h9]
  exact k
end
